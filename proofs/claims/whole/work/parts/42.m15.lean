/-! the class's Sorts; R is the reference's content that K stands for -/
def rS (K : KC) (R : MC) : Prop := K.1 0 = R.1 1 ∧ K.1 1 = R.1 2 ∧ ∀ c, c < mC R → K.2.1 3 c = R.2 39 c ∧ K.2.1 4 c = R.2 40 c ∧ K.2.1 5 c = R.2 41 c ∧ K.2.1 6 c = R.2 42 c
def rO (K : KC) (R : MC) : Prop := ∀ s, s < 12 → ∀ c, iB (K.2.1 2 s) c = true ↔ c < mC R ∧ cS R c = s
def rL (K : KC) (R : MC) : Prop := (∀ s, iB (K.1 2) s = true ↔ LV R s) ∧ ∀ c, iB (K.1 3) c = true ↔ c < mC R ∧ usdV R c
set_option maxHeartbeats 600000 in
set_option maxRecDepth 100000 in
theorem c_S_hasSort {K : KC} {M : MC} {o : Nat → Int64} {nc ns : Nat} {d : Nat} (x : Int32) {post : mj_O → mj_H → Prop} (k1 : 0 ≤ x ∧ x < K.1 0 → post (.inl (some (.int 1))) (hp K M o, nc, ns)) (k0 : ¬ (0 ≤ x ∧ x < K.1 0) → post (.inl (some (.int 0))) (hp K M o, nc, ns)) : mj_G y_S_hasSort b_S_hasSort 2 (some .boolean) [] d none 0 [(0, .ref 1), (1, .int x)] [] (hp K M o, nc, ns) post := by
  refine G_iload_n 1 d_S_hasSort_0 rfl ?_
  refine G_iflt 16 d_S_hasSort_1 (by decide) (fun h1 => ?_) (fun h1 => ?_)
  · refine G_iconst (v := 0) d_S_hasSort_16 (by decide) ?_
    exact G_zret d_S_hasSort_17 rfl rfl (k0 (fun z => (Int32.not_lt.mpr z.1) h1))
  · refine G_iload_n 1 d_S_hasSort_4 rfl ?_
    refine G_aload_n 0 d_S_hasSort_5 rfl ?_
    refine G_gt d_S_hasSort_6 fr_S_9 (rd_S_sortCount K M o) ?_
    refine G_icge 16 d_S_hasSort_9 (by decide) (fun h9 => ?_) (fun h9 => ?_)
    · refine G_iconst (v := 0) d_S_hasSort_16 (by decide) ?_
      exact G_zret d_S_hasSort_17 rfl rfl (k0 (fun z => (Int32.not_le.mpr z.2) h9))
    · refine G_iconst (v := 1) d_S_hasSort_12 (by decide) ?_
      refine G_goto 17 d_S_hasSort_13 (by decide) ?_
      exact G_zret d_S_hasSort_17 rfl rfl (k1 ⟨Int32.not_lt.mp h1, Int32.not_le.mp h9⟩)
set_option maxHeartbeats 600000 in
set_option maxRecDepth 100000 in
theorem c_S_hasCon {K : KC} {M : MC} {o : Nat → Int64} {nc ns : Nat} {d : Nat} (x : Int32) {post : mj_O → mj_H → Prop} (k1 : 0 ≤ x ∧ x < K.1 1 → post (.inl (some (.int 1))) (hp K M o, nc, ns)) (k0 : ¬ (0 ≤ x ∧ x < K.1 1) → post (.inl (some (.int 0))) (hp K M o, nc, ns)) : mj_G y_S_hasCon b_S_hasCon 2 (some .boolean) [] d none 0 [(0, .ref 1), (1, .int x)] [] (hp K M o, nc, ns) post := by
  refine G_iload_n 1 d_S_hasCon_0 rfl ?_
  refine G_iflt 16 d_S_hasCon_1 (by decide) (fun h1 => ?_) (fun h1 => ?_)
  · refine G_iconst (v := 0) d_S_hasCon_16 (by decide) ?_
    exact G_zret d_S_hasCon_17 rfl rfl (k0 (fun z => (Int32.not_lt.mpr z.1) h1))
  · refine G_iload_n 1 d_S_hasCon_4 rfl ?_
    refine G_aload_n 0 d_S_hasCon_5 rfl ?_
    refine G_gt d_S_hasCon_6 fr_S_15 (rd_S_conCount K M o) ?_
    refine G_icge 16 d_S_hasCon_9 (by decide) (fun h9 => ?_) (fun h9 => ?_)
    · refine G_iconst (v := 0) d_S_hasCon_16 (by decide) ?_
      exact G_zret d_S_hasCon_17 rfl rfl (k0 (fun z => (Int32.not_le.mpr z.2) h9))
    · refine G_iconst (v := 1) d_S_hasCon_12 (by decide) ?_
      refine G_goto 17 d_S_hasCon_13 (by decide) ?_
      exact G_zret d_S_hasCon_17 rfl rfl (k1 ⟨Int32.not_lt.mp h1, Int32.not_le.mp h9⟩)
set_option maxHeartbeats 600000 in
set_option maxRecDepth 100000 in
theorem c_S_partSort0 {K : KC} {M : MC} {o : Nat → Int64} {nc ns : Nat} {d c : Nat} {v : Int32} (hc : c < 30) (h : K.2.1 5 c = v) {post : mj_O → mj_H → Prop} (k : post (.inl (some (.int v))) (hp K M o, nc, ns)) : mj_G y_S_partSort b_S_partSort 3 (some .int) [] d none 0 [(0, .ref 1), (1, .int (nI c)), (2, .int (nI 0))] [] (hp K M o, nc, ns) post := by
  refine G_iload_n 2 d_S_partSort_0 rfl ?_
  refine G_ifne 13 d_S_partSort_1 (by decide) (fun h => absurd h (by decide)) (fun _ => ?_)
  refine G_aload_n 0 d_S_partSort_4 rfl ?_
  refine G_gt d_S_partSort_5 fr_S_34 (rd_S_firstSort K M o) ?_
  refine G_iload_n 1 d_S_partSort_8 rfl ?_
  refine G_ialN d_S_partSort_9 (ar_5 K M o) (by decide) (by omega) ?_
  rw [h]
  refine G_goto 19 d_S_partSort_10 (by decide) ?_
  exact G_iret d_S_partSort_19 rfl k
set_option maxHeartbeats 600000 in
set_option maxRecDepth 100000 in
theorem c_S_partSort1 {K : KC} {M : MC} {o : Nat → Int64} {nc ns : Nat} {d c : Nat} {v : Int32} (hc : c < 30) (h : K.2.1 6 c = v) {post : mj_O → mj_H → Prop} (k : post (.inl (some (.int v))) (hp K M o, nc, ns)) : mj_G y_S_partSort b_S_partSort 3 (some .int) [] d none 0 [(0, .ref 1), (1, .int (nI c)), (2, .int (nI 1))] [] (hp K M o, nc, ns) post := by
  refine G_iload_n 2 d_S_partSort_0 rfl ?_
  refine G_ifne 13 d_S_partSort_1 (by decide) (fun _ => ?_) (fun h => absurd h (by decide))
  refine G_aload_n 0 d_S_partSort_13 rfl ?_
  refine G_gt d_S_partSort_14 fr_S_37 (rd_S_secondSort K M o) ?_
  refine G_iload_n 1 d_S_partSort_17 rfl ?_
  refine G_ialN d_S_partSort_18 (ar_6 K M o) (by decide) (by omega) ?_
  rw [h]
  exact G_iret d_S_partSort_19 rfl k
set_option maxHeartbeats 600000 in
set_option maxRecDepth 100000 in
theorem c_S_isSortLiving {K : KC} {M : MC} {o : Nat → Int64} {nc ns : Nat} {d s : Nat} (hs : s < 32) {post : mj_O → mj_H → Prop} (k1 : iB (K.1 2) s = true → post (.inl (some (.int 1))) (hp K M o, nc, ns)) (k0 : ¬ iB (K.1 2) s = true → post (.inl (some (.int 0))) (hp K M o, nc, ns)) : mj_G y_S_isSortLiving b_S_isSortLiving 2 (some .boolean) [] d none 0 [(0, .ref 1), (1, .int (nI s))] [] (hp K M o, nc, ns) post := by
  refine G_aload_n 0 d_S_isSortLiving_0 rfl ?_
  refine G_gt d_S_isSortLiving_1 fr_S_18 (rd_S_livingSorts K M o) ?_
  refine G_iload_n 1 d_S_isSortLiving_4 rfl ?_
  refine G_ishr d_S_isSortLiving_5 ?_
  refine G_iconst (v := 1) d_S_isSortLiving_6 (by decide) ?_
  refine G_iand d_S_isSortLiving_7 ?_
  refine G_ifeq 15 d_S_isSortLiving_8 (by decide) (fun h8 => ?_) (fun h8 => ?_)
  · refine G_iconst (v := 0) d_S_isSortLiving_15 (by decide) ?_
    exact G_zret d_S_isSortLiving_16 rfl rfl (k0 (by rw [(iB_test hs).mp h8]; decide))
  · refine G_iconst (v := 1) d_S_isSortLiving_11 (by decide) ?_
    refine G_goto 16 d_S_isSortLiving_12 (by decide) ?_
    exact G_zret d_S_isSortLiving_16 rfl rfl (k1 (Classical.byContradiction fun z => h8 ((iB_test hs).mpr (by cases e : iB (K.1 2) s with | false => rfl | true => exact absurd e z))))
set_option maxHeartbeats 600000 in
set_option maxRecDepth 100000 in
theorem c_S_isConLiving {K : KC} {M : MC} {o : Nat → Int64} {nc ns : Nat} {d s : Nat} (hs : s < 32) {post : mj_O → mj_H → Prop} (k1 : iB (K.1 3) s = true → post (.inl (some (.int 1))) (hp K M o, nc, ns)) (k0 : ¬ iB (K.1 3) s = true → post (.inl (some (.int 0))) (hp K M o, nc, ns)) : mj_G y_S_isConLiving b_S_isConLiving 2 (some .boolean) [] d none 0 [(0, .ref 1), (1, .int (nI s))] [] (hp K M o, nc, ns) post := by
  refine G_aload_n 0 d_S_isConLiving_0 rfl ?_
  refine G_gt d_S_isConLiving_1 fr_S_21 (rd_S_livingCons K M o) ?_
  refine G_iload_n 1 d_S_isConLiving_4 rfl ?_
  refine G_ishr d_S_isConLiving_5 ?_
  refine G_iconst (v := 1) d_S_isConLiving_6 (by decide) ?_
  refine G_iand d_S_isConLiving_7 ?_
  refine G_ifeq 15 d_S_isConLiving_8 (by decide) (fun h8 => ?_) (fun h8 => ?_)
  · refine G_iconst (v := 0) d_S_isConLiving_15 (by decide) ?_
    exact G_zret d_S_isConLiving_16 rfl rfl (k0 (by rw [(iB_test hs).mp h8]; decide))
  · refine G_iconst (v := 1) d_S_isConLiving_11 (by decide) ?_
    refine G_goto 16 d_S_isConLiving_12 (by decide) ?_
    exact G_zret d_S_isConLiving_16 rfl rfl (k1 (Classical.byContradiction fun z => h8 ((iB_test hs).mpr (by cases e : iB (K.1 3) s with | false => rfl | true => exact absurd e z))))
set_option maxHeartbeats 600000 in
set_option maxRecDepth 100000 in
theorem c_S_livingConsOf {K : KC} {M : MC} {o : Nat → Int64} {nc ns : Nat} {d s : Nat} (hs : s < 12) {post : mj_O → mj_H → Prop} (k : post (.inl (some (.int (K.2.1 2 s &&& K.1 3)))) (hp K M o, nc, ns)) : mj_G y_S_livingConsOf b_S_livingConsOf 2 (some .int) [] d none 0 [(0, .ref 1), (1, .int (nI s))] [] (hp K M o, nc, ns) post := by
  refine G_aload_n 0 d_S_livingConsOf_0 rfl ?_
  refine G_gt d_S_livingConsOf_1 fr_S_24 (rd_S_consOf K M o) ?_
  refine G_iload_n 1 d_S_livingConsOf_4 rfl ?_
  refine G_ialN d_S_livingConsOf_5 (ar_2 K M o) (by decide) (by omega) ?_
  refine G_aload_n 0 d_S_livingConsOf_6 rfl ?_
  refine G_gt d_S_livingConsOf_7 fr_S_21 (rd_S_livingCons K M o) ?_
  refine G_iand d_S_livingConsOf_10 ?_
  exact G_iret d_S_livingConsOf_11 rfl k
theorem cons_y {R : MC} {X : Nat → Prop} {c : Nat} {v : Int32} (hc : c < 30) (h : ∀ j, iB v j = true ↔ j < c ∧ pin R X j) (hp : pin R X c) : ∀ j, iB (v ||| 1 <<< (nI c &&& 31)) j = true ↔ j < c + 1 ∧ pin R X j := fun j => by
  rw [iB_or, Bool.or_eq_true, h, iB_one (by omega), decide_eq_true_eq]
  constructor
  · rintro (⟨h1, h2⟩ | rfl)
    · exact ⟨by omega, h2⟩
    · exact ⟨by omega, hp⟩
  · rintro ⟨h1, h2⟩
    rcases Nat.lt_succ_iff_lt_or_eq.mp h1 with q | q
    · exact Or.inl ⟨q, h2⟩
    · exact Or.inr q.symm
theorem cons_n {R : MC} {X : Nat → Prop} {c : Nat} {v : Int32} (h : ∀ j, iB v j = true ↔ j < c ∧ pin R X j) (hp : ¬ pin R X c) : ∀ j, iB v j = true ↔ j < c + 1 ∧ pin R X j := fun j => by
  rw [h]
  constructor
  · rintro ⟨h1, h2⟩
    exact ⟨by omega, h2⟩
  · rintro ⟨h1, h2⟩
    rcases Nat.lt_succ_iff_lt_or_eq.mp h1 with q | q
    · exact ⟨q, h2⟩
    · subst q; exact absurd h2 hp
set_option maxHeartbeats 600000 in
set_option maxRecDepth 100000 in
theorem l_S_consW {K : KC} {M : MC} {o : Nat → Int64} {nc ns : Nat} {R : MC} {X : Nat → Prop} {d : Nat} (hS : wfS R) (hC : wfC R) (hK : rS K R) (hX : ∀ s, s < mS R → (iB (K.1 2) s = true ↔ X s)) {post : mj_O → mj_H → Prop} (k : ∀ v, (∀ j, iB v j = true ↔ j < mC R ∧ pin R X j) → post (.inl (some (.int v))) (hp K M o, nc, ns)) : ∀ (q c : Nat) (v : Int32), c ≤ mC R → mC R < c + q → (∀ j, iB v j = true ↔ j < c ∧ pin R X j) → mj_G y_S_consWithLivingParts b_S_consWithLivingParts 5 (some .int) [] (d + 1) none 4 [(2, .int (nI c)), (1, .int v), (0, .ref 1)] [] (hp K M o, nc, ns) post := by
  have q30 := hC.2.1
  have q12 := hS.2.2
  intro q
  induction q with
  | zero => intro c v h1 h2; omega
  | succ q ih =>
    intro c v h1 h2 h3
    refine G_iload_n 0 d_S_consWithLivingParts_4 rfl ?_
    refine G_aload_n 2 d_S_consWithLivingParts_5 rfl ?_
    refine G_gt d_S_consWithLivingParts_6 fr_S_15 (rd_S_conCount K M o) ?_
    rw [show K.1 1 = nI (mC R) from hK.2.1.trans hC.1]
    refine G_icge 74 d_S_consWithLivingParts_9 (by decide) (fun h9 => ?_) (fun h9 => ?_)
    · have h9 := (nI_leI (by omega) (by omega)).mp h9
      obtain rfl : c = mC R := by omega
      refine G_iload_n 1 d_S_consWithLivingParts_74 rfl ?_
      exact G_iret d_S_consWithLivingParts_75 rfl (k _ h3)
    · have h9 : ¬ _ := fun z => h9 ((nI_leI (by omega) (by omega)).mpr z)
      have hc : c < mC R := by omega
      obtain ⟨-, ⟨e40, b40⟩, w1, w2⟩ := hC.2.2 c hc
      have k5 := hK.2.2 c hc
      rcases (show cP R c = 0 ∨ cP R c = 1 ∨ cP R c = 2 by omega) with hn | hn | hn
      · refine G_iconst (v := 1) d_S_consWithLivingParts_12 (by decide) ?_
        refine G_istore_n (ls' := [(3, .int 1), (2, .int (nI c)), (1, .int v), (0, .ref 1)]) d_S_consWithLivingParts_13 (by decide) rfl ?_
        refine G_iconst (v := nI 0) d_S_consWithLivingParts_14 (by decide) ?_
        refine G_istore (ls' := [(4, .int (nI 0)), (3, .int 1), (2, .int (nI c)), (1, .int v), (0, .ref 1)]) d_S_consWithLivingParts_15 (by decide) rfl ?_
        refine G_iload 0 d_S_consWithLivingParts_17 rfl ?_
        refine G_aload_n 4 d_S_consWithLivingParts_19 rfl ?_
        refine G_gt d_S_consWithLivingParts_20 fr_S_31 (rd_S_partCount K M o) ?_
        refine G_iload_n 2 d_S_consWithLivingParts_23 rfl ?_
        refine G_ialN d_S_consWithLivingParts_24 (ar_4 K M o) (by decide) (by omega) ?_
        rw [k5.2.1, e40, hn]
        refine G_icge 58 d_S_consWithLivingParts_25 (by decide) (fun _ => ?_) (fun h => absurd h (by decide))
        refine G_iload_n 1 d_S_consWithLivingParts_58 rfl ?_
        refine G_ifeq 68 d_S_consWithLivingParts_59 (by decide) (fun h => absurd h (by decide)) (fun _ => ?_)
        refine G_iload_n 3 d_S_consWithLivingParts_62 rfl ?_
        refine G_iconst (v := 1) d_S_consWithLivingParts_63 (by decide) ?_
        refine G_iload_n 2 d_S_consWithLivingParts_64 rfl ?_
        refine G_ishl d_S_consWithLivingParts_65 ?_
        refine G_ior d_S_consWithLivingParts_66 ?_
        refine G_istore_n (ls' := [(1, .int (v ||| (1 <<< ((nI c) &&& 31)))), (4, .int (nI 0)), (3, .int 1), (2, .int (nI c)), (0, .ref 1)]) d_S_consWithLivingParts_67 (by decide) rfl ?_
        refine G_iinc 3 (v := nI (c + 1)) (ls' := [(2, .int (nI (c + 1))), (1, .int (v ||| (1 <<< ((nI c) &&& 31)))), (4, .int (nI 0)), (3, .int 1), (0, .ref 1)]) d_S_consWithLivingParts_68 rfl (nI_1 _) (by decide) rfl ?_
        refine G_goto 4 d_S_consWithLivingParts_71 (by decide) ?_
        exact G_sub [0, 1, 4] rfl (ih (c + 1) _ (by omega) (by omega) (cons_y (by omega) h3 ⟨fun z => absurd z (by omega), fun z => absurd z (by omega)⟩))
      · refine G_iconst (v := 1) d_S_consWithLivingParts_12 (by decide) ?_
        refine G_istore_n (ls' := [(3, .int 1), (2, .int (nI c)), (1, .int v), (0, .ref 1)]) d_S_consWithLivingParts_13 (by decide) rfl ?_
        refine G_iconst (v := nI 0) d_S_consWithLivingParts_14 (by decide) ?_
        refine G_istore (ls' := [(4, .int (nI 0)), (3, .int 1), (2, .int (nI c)), (1, .int v), (0, .ref 1)]) d_S_consWithLivingParts_15 (by decide) rfl ?_
        refine G_iload 0 d_S_consWithLivingParts_17 rfl ?_
        refine G_aload_n 4 d_S_consWithLivingParts_19 rfl ?_
        refine G_gt d_S_consWithLivingParts_20 fr_S_31 (rd_S_partCount K M o) ?_
        refine G_iload_n 2 d_S_consWithLivingParts_23 rfl ?_
        refine G_ialN d_S_consWithLivingParts_24 (ar_4 K M o) (by decide) (by omega) ?_
        rw [k5.2.1, e40, hn]
        refine G_icge 58 d_S_consWithLivingParts_25 (by decide) (fun h => absurd h (by decide)) (fun _ => ?_)
        refine G_iload_n 1 d_S_consWithLivingParts_28 rfl ?_
        refine G_ifeq 50 d_S_consWithLivingParts_29 (by decide) (fun h => absurd h (by decide)) (fun _ => ?_)
        refine G_aload_n 4 d_S_consWithLivingParts_32 rfl ?_
        refine G_aload_n 4 d_S_consWithLivingParts_33 rfl ?_
        refine G_iload_n 2 d_S_consWithLivingParts_34 rfl ?_
        refine G_iload 0 d_S_consWithLivingParts_35 rfl ?_
        refine G_cv1 (some (.int (nI (cF R c)))) (hp K M o, nc, ns) (As := [.int (nI c), .int (nI 0)]) d_S_consWithLivingParts_37 cv_S_50 cw_S_partSort (ob_S K M o) np_S_partSort (Nat.le_of_ble_eq_true rfl) (Nat.le_of_ble_eq_true rfl) (fun post2 k2 => c_S_partSort0 (by omega) (k5.2.2.1.trans (w1 (by omega)).1) k2) rfl ?_
        refine G_cvB (iB (K.1 2) (cF R c) = true) (As := [.int (nI (cF R c))]) d_S_consWithLivingParts_40 cv_S_54 cw_S_isSortLiving (ob_S K M o) np_S_isSortLiving (Nat.le_of_ble_eq_true rfl) (Nat.le_of_ble_eq_true rfl) (fun post2 k1 k0 => c_S_isSortLiving (s := (cF R c)) (by omega) k1 k0) (fun u40 => ?_) (fun u40 => ?_)
        · refine G_ifeq 50 d_S_consWithLivingParts_43 (by decide) (fun h => absurd h (by decide)) (fun _ => ?_)
          refine G_iconst (v := 1) d_S_consWithLivingParts_46 (by decide) ?_
          refine G_goto 51 d_S_consWithLivingParts_47 (by decide) ?_
          refine G_istore_n (ls' := [(3, .int 1), (4, .int (nI 0)), (2, .int (nI c)), (1, .int v), (0, .ref 1)]) d_S_consWithLivingParts_51 (by decide) rfl ?_
          refine G_iinc 1 (v := nI 1) (ls' := [(4, .int (nI 1)), (3, .int 1), (2, .int (nI c)), (1, .int v), (0, .ref 1)]) d_S_consWithLivingParts_52 rfl (nI_1 0) (by decide) rfl ?_
          refine G_goto 17 d_S_consWithLivingParts_55 (by decide) ?_
          refine G_iload 0 d_S_consWithLivingParts_17 rfl ?_
          refine G_aload_n 4 d_S_consWithLivingParts_19 rfl ?_
          refine G_gt d_S_consWithLivingParts_20 fr_S_31 (rd_S_partCount K M o) ?_
          refine G_iload_n 2 d_S_consWithLivingParts_23 rfl ?_
          refine G_ialN d_S_consWithLivingParts_24 (ar_4 K M o) (by decide) (by omega) ?_
          rw [k5.2.1, e40, hn]
          refine G_icge 58 d_S_consWithLivingParts_25 (by decide) (fun _ => ?_) (fun h => absurd h (by decide))
          refine G_iload_n 1 d_S_consWithLivingParts_58 rfl ?_
          refine G_ifeq 68 d_S_consWithLivingParts_59 (by decide) (fun h => absurd h (by decide)) (fun _ => ?_)
          refine G_iload_n 3 d_S_consWithLivingParts_62 rfl ?_
          refine G_iconst (v := 1) d_S_consWithLivingParts_63 (by decide) ?_
          refine G_iload_n 2 d_S_consWithLivingParts_64 rfl ?_
          refine G_ishl d_S_consWithLivingParts_65 ?_
          refine G_ior d_S_consWithLivingParts_66 ?_
          refine G_istore_n (ls' := [(1, .int (v ||| (1 <<< ((nI c) &&& 31)))), (4, .int (nI 1)), (3, .int 1), (2, .int (nI c)), (0, .ref 1)]) d_S_consWithLivingParts_67 (by decide) rfl ?_
          refine G_iinc 3 (v := nI (c + 1)) (ls' := [(2, .int (nI (c + 1))), (1, .int (v ||| (1 <<< ((nI c) &&& 31)))), (4, .int (nI 1)), (3, .int 1), (0, .ref 1)]) d_S_consWithLivingParts_68 rfl (nI_1 _) (by decide) rfl ?_
          refine G_goto 4 d_S_consWithLivingParts_71 (by decide) ?_
          exact G_sub [0, 1, 4] rfl (ih (c + 1) _ (by omega) (by omega) (cons_y (by omega) h3 ⟨fun z => (hX _ (w1 (by omega)).2).mp u40, fun z => absurd z (by omega)⟩))
        · refine G_ifeq 50 d_S_consWithLivingParts_43 (by decide) (fun _ => ?_) (fun h => absurd h (by decide))
          refine G_iconst (v := 0) d_S_consWithLivingParts_50 (by decide) ?_
          refine G_istore_n (ls' := [(3, .int 0), (4, .int (nI 0)), (2, .int (nI c)), (1, .int v), (0, .ref 1)]) d_S_consWithLivingParts_51 (by decide) rfl ?_
          refine G_iinc 1 (v := nI 1) (ls' := [(4, .int (nI 1)), (3, .int 0), (2, .int (nI c)), (1, .int v), (0, .ref 1)]) d_S_consWithLivingParts_52 rfl (nI_1 0) (by decide) rfl ?_
          refine G_goto 17 d_S_consWithLivingParts_55 (by decide) ?_
          refine G_iload 0 d_S_consWithLivingParts_17 rfl ?_
          refine G_aload_n 4 d_S_consWithLivingParts_19 rfl ?_
          refine G_gt d_S_consWithLivingParts_20 fr_S_31 (rd_S_partCount K M o) ?_
          refine G_iload_n 2 d_S_consWithLivingParts_23 rfl ?_
          refine G_ialN d_S_consWithLivingParts_24 (ar_4 K M o) (by decide) (by omega) ?_
          rw [k5.2.1, e40, hn]
          refine G_icge 58 d_S_consWithLivingParts_25 (by decide) (fun _ => ?_) (fun h => absurd h (by decide))
          refine G_iload_n 1 d_S_consWithLivingParts_58 rfl ?_
          refine G_ifeq 68 d_S_consWithLivingParts_59 (by decide) (fun _ => ?_) (fun h => absurd h (by decide))
          refine G_iinc 2 (v := nI (c + 1)) (ls' := [(2, .int (nI (c + 1))), (4, .int (nI 1)), (3, .int 0), (1, .int v), (0, .ref 1)]) d_S_consWithLivingParts_68 rfl (nI_1 _) (by decide) rfl ?_
          refine G_goto 4 d_S_consWithLivingParts_71 (by decide) ?_
          exact G_sub [0, 3, 4] rfl (ih (c + 1) _ (by omega) (by omega) (cons_n h3 (fun z => u40 ((hX _ (w1 (by omega)).2).mpr (z.1 (by omega))))))
      · refine G_iconst (v := 1) d_S_consWithLivingParts_12 (by decide) ?_
        refine G_istore_n (ls' := [(3, .int 1), (2, .int (nI c)), (1, .int v), (0, .ref 1)]) d_S_consWithLivingParts_13 (by decide) rfl ?_
        refine G_iconst (v := nI 0) d_S_consWithLivingParts_14 (by decide) ?_
        refine G_istore (ls' := [(4, .int (nI 0)), (3, .int 1), (2, .int (nI c)), (1, .int v), (0, .ref 1)]) d_S_consWithLivingParts_15 (by decide) rfl ?_
        refine G_iload 0 d_S_consWithLivingParts_17 rfl ?_
        refine G_aload_n 4 d_S_consWithLivingParts_19 rfl ?_
        refine G_gt d_S_consWithLivingParts_20 fr_S_31 (rd_S_partCount K M o) ?_
        refine G_iload_n 2 d_S_consWithLivingParts_23 rfl ?_
        refine G_ialN d_S_consWithLivingParts_24 (ar_4 K M o) (by decide) (by omega) ?_
        rw [k5.2.1, e40, hn]
        refine G_icge 58 d_S_consWithLivingParts_25 (by decide) (fun h => absurd h (by decide)) (fun _ => ?_)
        refine G_iload_n 1 d_S_consWithLivingParts_28 rfl ?_
        refine G_ifeq 50 d_S_consWithLivingParts_29 (by decide) (fun h => absurd h (by decide)) (fun _ => ?_)
        refine G_aload_n 4 d_S_consWithLivingParts_32 rfl ?_
        refine G_aload_n 4 d_S_consWithLivingParts_33 rfl ?_
        refine G_iload_n 2 d_S_consWithLivingParts_34 rfl ?_
        refine G_iload 0 d_S_consWithLivingParts_35 rfl ?_
        refine G_cv1 (some (.int (nI (cF R c)))) (hp K M o, nc, ns) (As := [.int (nI c), .int (nI 0)]) d_S_consWithLivingParts_37 cv_S_50 cw_S_partSort (ob_S K M o) np_S_partSort (Nat.le_of_ble_eq_true rfl) (Nat.le_of_ble_eq_true rfl) (fun post2 k2 => c_S_partSort0 (by omega) (k5.2.2.1.trans (w1 (by omega)).1) k2) rfl ?_
        refine G_cvB (iB (K.1 2) (cF R c) = true) (As := [.int (nI (cF R c))]) d_S_consWithLivingParts_40 cv_S_54 cw_S_isSortLiving (ob_S K M o) np_S_isSortLiving (Nat.le_of_ble_eq_true rfl) (Nat.le_of_ble_eq_true rfl) (fun post2 k1 k0 => c_S_isSortLiving (s := (cF R c)) (by omega) k1 k0) (fun u40 => ?_) (fun u40 => ?_)
        · have u40a := u40
          refine G_ifeq 50 d_S_consWithLivingParts_43 (by decide) (fun h => absurd h (by decide)) (fun _ => ?_)
          refine G_iconst (v := 1) d_S_consWithLivingParts_46 (by decide) ?_
          refine G_goto 51 d_S_consWithLivingParts_47 (by decide) ?_
          refine G_istore_n (ls' := [(3, .int 1), (4, .int (nI 0)), (2, .int (nI c)), (1, .int v), (0, .ref 1)]) d_S_consWithLivingParts_51 (by decide) rfl ?_
          refine G_iinc 1 (v := nI 1) (ls' := [(4, .int (nI 1)), (3, .int 1), (2, .int (nI c)), (1, .int v), (0, .ref 1)]) d_S_consWithLivingParts_52 rfl (nI_1 0) (by decide) rfl ?_
          refine G_goto 17 d_S_consWithLivingParts_55 (by decide) ?_
          refine G_iload 0 d_S_consWithLivingParts_17 rfl ?_
          refine G_aload_n 4 d_S_consWithLivingParts_19 rfl ?_
          refine G_gt d_S_consWithLivingParts_20 fr_S_31 (rd_S_partCount K M o) ?_
          refine G_iload_n 2 d_S_consWithLivingParts_23 rfl ?_
          refine G_ialN d_S_consWithLivingParts_24 (ar_4 K M o) (by decide) (by omega) ?_
          rw [k5.2.1, e40, hn]
          refine G_icge 58 d_S_consWithLivingParts_25 (by decide) (fun h => absurd h (by decide)) (fun _ => ?_)
          refine G_iload_n 1 d_S_consWithLivingParts_28 rfl ?_
          refine G_ifeq 50 d_S_consWithLivingParts_29 (by decide) (fun h => absurd h (by decide)) (fun _ => ?_)
          refine G_aload_n 4 d_S_consWithLivingParts_32 rfl ?_
          refine G_aload_n 4 d_S_consWithLivingParts_33 rfl ?_
          refine G_iload_n 2 d_S_consWithLivingParts_34 rfl ?_
          refine G_iload 0 d_S_consWithLivingParts_35 rfl ?_
          refine G_cv1 (some (.int (nI (cG R c)))) (hp K M o, nc, ns) (As := [.int (nI c), .int (nI 1)]) d_S_consWithLivingParts_37 cv_S_50 cw_S_partSort (ob_S K M o) np_S_partSort (Nat.le_of_ble_eq_true rfl) (Nat.le_of_ble_eq_true rfl) (fun post2 k2 => c_S_partSort1 (by omega) (k5.2.2.2.trans (w2 (by omega)).1) k2) rfl ?_
          refine G_cvB (iB (K.1 2) (cG R c) = true) (As := [.int (nI (cG R c))]) d_S_consWithLivingParts_40 cv_S_54 cw_S_isSortLiving (ob_S K M o) np_S_isSortLiving (Nat.le_of_ble_eq_true rfl) (Nat.le_of_ble_eq_true rfl) (fun post2 k1 k0 => c_S_isSortLiving (s := (cG R c)) (by omega) k1 k0) (fun u40 => ?_) (fun u40 => ?_)
          · refine G_ifeq 50 d_S_consWithLivingParts_43 (by decide) (fun h => absurd h (by decide)) (fun _ => ?_)
            refine G_iconst (v := 1) d_S_consWithLivingParts_46 (by decide) ?_
            refine G_goto 51 d_S_consWithLivingParts_47 (by decide) ?_
            refine G_istore_n (ls' := [(3, .int 1), (4, .int (nI 1)), (2, .int (nI c)), (1, .int v), (0, .ref 1)]) d_S_consWithLivingParts_51 (by decide) rfl ?_
            refine G_iinc 1 (v := nI 2) (ls' := [(4, .int (nI 2)), (3, .int 1), (2, .int (nI c)), (1, .int v), (0, .ref 1)]) d_S_consWithLivingParts_52 rfl (nI_1 1) (by decide) rfl ?_
            refine G_goto 17 d_S_consWithLivingParts_55 (by decide) ?_
            refine G_iload 0 d_S_consWithLivingParts_17 rfl ?_
            refine G_aload_n 4 d_S_consWithLivingParts_19 rfl ?_
            refine G_gt d_S_consWithLivingParts_20 fr_S_31 (rd_S_partCount K M o) ?_
            refine G_iload_n 2 d_S_consWithLivingParts_23 rfl ?_
            refine G_ialN d_S_consWithLivingParts_24 (ar_4 K M o) (by decide) (by omega) ?_
            rw [k5.2.1, e40, hn]
            refine G_icge 58 d_S_consWithLivingParts_25 (by decide) (fun _ => ?_) (fun h => absurd h (by decide))
            refine G_iload_n 1 d_S_consWithLivingParts_58 rfl ?_
            refine G_ifeq 68 d_S_consWithLivingParts_59 (by decide) (fun h => absurd h (by decide)) (fun _ => ?_)
            refine G_iload_n 3 d_S_consWithLivingParts_62 rfl ?_
            refine G_iconst (v := 1) d_S_consWithLivingParts_63 (by decide) ?_
            refine G_iload_n 2 d_S_consWithLivingParts_64 rfl ?_
            refine G_ishl d_S_consWithLivingParts_65 ?_
            refine G_ior d_S_consWithLivingParts_66 ?_
            refine G_istore_n (ls' := [(1, .int (v ||| (1 <<< ((nI c) &&& 31)))), (4, .int (nI 2)), (3, .int 1), (2, .int (nI c)), (0, .ref 1)]) d_S_consWithLivingParts_67 (by decide) rfl ?_
            refine G_iinc 3 (v := nI (c + 1)) (ls' := [(2, .int (nI (c + 1))), (1, .int (v ||| (1 <<< ((nI c) &&& 31)))), (4, .int (nI 2)), (3, .int 1), (0, .ref 1)]) d_S_consWithLivingParts_68 rfl (nI_1 _) (by decide) rfl ?_
            refine G_goto 4 d_S_consWithLivingParts_71 (by decide) ?_
            exact G_sub [0, 1, 4] rfl (ih (c + 1) _ (by omega) (by omega) (cons_y (by omega) h3 ⟨fun z => (hX _ (w1 (by omega)).2).mp u40a, fun z => (hX _ (w2 (by omega)).2).mp u40⟩))
          · refine G_ifeq 50 d_S_consWithLivingParts_43 (by decide) (fun _ => ?_) (fun h => absurd h (by decide))
            refine G_iconst (v := 0) d_S_consWithLivingParts_50 (by decide) ?_
            refine G_istore_n (ls' := [(3, .int 0), (4, .int (nI 1)), (2, .int (nI c)), (1, .int v), (0, .ref 1)]) d_S_consWithLivingParts_51 (by decide) rfl ?_
            refine G_iinc 1 (v := nI 2) (ls' := [(4, .int (nI 2)), (3, .int 0), (2, .int (nI c)), (1, .int v), (0, .ref 1)]) d_S_consWithLivingParts_52 rfl (nI_1 1) (by decide) rfl ?_
            refine G_goto 17 d_S_consWithLivingParts_55 (by decide) ?_
            refine G_iload 0 d_S_consWithLivingParts_17 rfl ?_
            refine G_aload_n 4 d_S_consWithLivingParts_19 rfl ?_
            refine G_gt d_S_consWithLivingParts_20 fr_S_31 (rd_S_partCount K M o) ?_
            refine G_iload_n 2 d_S_consWithLivingParts_23 rfl ?_
            refine G_ialN d_S_consWithLivingParts_24 (ar_4 K M o) (by decide) (by omega) ?_
            rw [k5.2.1, e40, hn]
            refine G_icge 58 d_S_consWithLivingParts_25 (by decide) (fun _ => ?_) (fun h => absurd h (by decide))
            refine G_iload_n 1 d_S_consWithLivingParts_58 rfl ?_
            refine G_ifeq 68 d_S_consWithLivingParts_59 (by decide) (fun _ => ?_) (fun h => absurd h (by decide))
            refine G_iinc 2 (v := nI (c + 1)) (ls' := [(2, .int (nI (c + 1))), (4, .int (nI 2)), (3, .int 0), (1, .int v), (0, .ref 1)]) d_S_consWithLivingParts_68 rfl (nI_1 _) (by decide) rfl ?_
            refine G_goto 4 d_S_consWithLivingParts_71 (by decide) ?_
            exact G_sub [0, 3, 4] rfl (ih (c + 1) _ (by omega) (by omega) (cons_n h3 (fun z => u40 ((hX _ (w2 (by omega)).2).mpr (z.2 (by omega))))))
        · refine G_ifeq 50 d_S_consWithLivingParts_43 (by decide) (fun _ => ?_) (fun h => absurd h (by decide))
          refine G_iconst (v := 0) d_S_consWithLivingParts_50 (by decide) ?_
          refine G_istore_n (ls' := [(3, .int 0), (4, .int (nI 0)), (2, .int (nI c)), (1, .int v), (0, .ref 1)]) d_S_consWithLivingParts_51 (by decide) rfl ?_
          refine G_iinc 1 (v := nI 1) (ls' := [(4, .int (nI 1)), (3, .int 0), (2, .int (nI c)), (1, .int v), (0, .ref 1)]) d_S_consWithLivingParts_52 rfl (nI_1 0) (by decide) rfl ?_
          refine G_goto 17 d_S_consWithLivingParts_55 (by decide) ?_
          refine G_iload 0 d_S_consWithLivingParts_17 rfl ?_
          refine G_aload_n 4 d_S_consWithLivingParts_19 rfl ?_
          refine G_gt d_S_consWithLivingParts_20 fr_S_31 (rd_S_partCount K M o) ?_
          refine G_iload_n 2 d_S_consWithLivingParts_23 rfl ?_
          refine G_ialN d_S_consWithLivingParts_24 (ar_4 K M o) (by decide) (by omega) ?_
          rw [k5.2.1, e40, hn]
          refine G_icge 58 d_S_consWithLivingParts_25 (by decide) (fun h => absurd h (by decide)) (fun _ => ?_)
          refine G_iload_n 1 d_S_consWithLivingParts_28 rfl ?_
          refine G_ifeq 50 d_S_consWithLivingParts_29 (by decide) (fun _ => ?_) (fun h => absurd h (by decide))
          refine G_iconst (v := 0) d_S_consWithLivingParts_50 (by decide) ?_
          refine G_istore_n (ls' := [(3, .int 0), (4, .int (nI 1)), (2, .int (nI c)), (1, .int v), (0, .ref 1)]) d_S_consWithLivingParts_51 (by decide) rfl ?_
          refine G_iinc 1 (v := nI 2) (ls' := [(4, .int (nI 2)), (3, .int 0), (2, .int (nI c)), (1, .int v), (0, .ref 1)]) d_S_consWithLivingParts_52 rfl (nI_1 1) (by decide) rfl ?_
          refine G_goto 17 d_S_consWithLivingParts_55 (by decide) ?_
          refine G_iload 0 d_S_consWithLivingParts_17 rfl ?_
          refine G_aload_n 4 d_S_consWithLivingParts_19 rfl ?_
          refine G_gt d_S_consWithLivingParts_20 fr_S_31 (rd_S_partCount K M o) ?_
          refine G_iload_n 2 d_S_consWithLivingParts_23 rfl ?_
          refine G_ialN d_S_consWithLivingParts_24 (ar_4 K M o) (by decide) (by omega) ?_
          rw [k5.2.1, e40, hn]
          refine G_icge 58 d_S_consWithLivingParts_25 (by decide) (fun _ => ?_) (fun h => absurd h (by decide))
          refine G_iload_n 1 d_S_consWithLivingParts_58 rfl ?_
          refine G_ifeq 68 d_S_consWithLivingParts_59 (by decide) (fun _ => ?_) (fun h => absurd h (by decide))
          refine G_iinc 2 (v := nI (c + 1)) (ls' := [(2, .int (nI (c + 1))), (4, .int (nI 2)), (3, .int 0), (1, .int v), (0, .ref 1)]) d_S_consWithLivingParts_68 rfl (nI_1 _) (by decide) rfl ?_
          refine G_goto 4 d_S_consWithLivingParts_71 (by decide) ?_
          exact G_sub [0, 3, 4] rfl (ih (c + 1) _ (by omega) (by omega) (cons_n h3 (fun z => u40 ((hX _ (w1 (by omega)).2).mpr (z.1 (by omega))))))
set_option maxHeartbeats 600000 in
set_option maxRecDepth 100000 in
theorem c_S_consW {K : KC} {M : MC} {o : Nat → Int64} {nc ns : Nat} {R : MC} {X : Nat → Prop} {d : Nat} (hS : wfS R) (hC : wfC R) (hK : rS K R) (hX : ∀ s, s < mS R → (iB (K.1 2) s = true ↔ X s)) {post : mj_O → mj_H → Prop} (k : ∀ v, (∀ j, iB v j = true ↔ j < mC R ∧ pin R X j) → post (.inl (some (.int v))) (hp K M o, nc, ns)) : mj_G y_S_consWithLivingParts b_S_consWithLivingParts 5 (some .int) [] (d + 1) none 0 [(0, .ref 1)] [] (hp K M o, nc, ns) post := by
  refine G_iconst (v := 0) d_S_consWithLivingParts_0 (by decide) ?_
  refine G_istore_n (ls' := [(1, .int 0), (0, .ref 1)]) d_S_consWithLivingParts_1 (by decide) rfl ?_
  refine G_iconst (v := nI 0) d_S_consWithLivingParts_2 (by decide) ?_
  refine G_istore_n (ls' := [(2, .int (nI 0)), (1, .int 0), (0, .ref 1)]) d_S_consWithLivingParts_3 (by decide) rfl ?_
  exact G_sub [0, 1, 2] rfl (l_S_consW hS hC hK hX k (mC R + 1) 0 0 (by omega) (by omega) (fun j => ⟨fun z => (by rw [iB_0] at z; cases z), fun z => absurd z.1 (Nat.not_lt_zero j)⟩))
theorem lco_iff {K : KC} {R : MC} {Y : Nat → Prop} {s : Nat} (hC : wfC R) (hO : rO K R) (hY : ∀ c, iB (K.1 3) c = true ↔ c < mC R ∧ Y c) (hs : s < 12) : ¬ (K.2.1 2 s &&& K.1 3) = 0 ↔ ∃ c, c < mC R ∧ cS R c = s ∧ Y c := by
  constructor
  · intro h
    obtain ⟨c, h1, h2⟩ := iB_ne0 h
    rw [iB_and, Bool.and_eq_true, hO s hs, hY] at h2
    exact ⟨c, h2.1.1, h2.1.2, h2.2.2⟩
  · rintro ⟨c, h1, h2, h3⟩ h
    have : iB (K.2.1 2 s &&& K.1 3) c = true := by
      rw [iB_and, Bool.and_eq_true, hO s hs, hY]
      exact ⟨⟨h1, h2⟩, h1, h3⟩
    rw [h, iB_0] at this; cases this
theorem sorts_y {P : Nat → Prop} {c : Nat} {v : Int32} (hc : c < 30) (h : ∀ j, iB v j = true ↔ j < c ∧ P j) (hp : P c) : ∀ j, iB (v ||| 1 <<< (nI c &&& 31)) j = true ↔ j < c + 1 ∧ P j := fun j => by
  rw [iB_or, Bool.or_eq_true, h, iB_one (by omega), decide_eq_true_eq]
  constructor
  · rintro (⟨h1, h2⟩ | rfl)
    · exact ⟨by omega, h2⟩
    · exact ⟨by omega, hp⟩
  · rintro ⟨h1, h2⟩
    rcases Nat.lt_succ_iff_lt_or_eq.mp h1 with q | q
    · exact Or.inl ⟨q, h2⟩
    · exact Or.inr q.symm
theorem sorts_n {P : Nat → Prop} {c : Nat} {v : Int32} (h : ∀ j, iB v j = true ↔ j < c ∧ P j) (hp : ¬ P c) : ∀ j, iB v j = true ↔ j < c + 1 ∧ P j := fun j => by
  rw [h]
  constructor
  · rintro ⟨h1, h2⟩
    exact ⟨by omega, h2⟩
  · rintro ⟨h1, h2⟩
    rcases Nat.lt_succ_iff_lt_or_eq.mp h1 with q | q
    · exact ⟨q, h2⟩
    · subst q; exact absurd h2 hp
theorem sorts_1 {P : Nat → Prop} (h : P 0) : ∀ j, iB 1 j = true ↔ j < 1 ∧ P j := fun j => by
  have e : (1 : Int32) = 1 <<< (nI 0 &&& 31) := by decide
  rw [e, iB_one (by omega), decide_eq_true_eq]
  constructor
  · rintro rfl; exact ⟨by omega, h⟩
  · rintro ⟨h1, -⟩; omega
set_option maxHeartbeats 600000 in
set_option maxRecDepth 100000 in
theorem l_S_sortsW {K : KC} {M : MC} {o : Nat → Int64} {nc ns : Nat} {R : MC} {Y : Nat → Prop} {d : Nat} (hS : wfS R) (hC : wfC R) (hK : rS K R) (hO : rO K R) (hY : ∀ c, iB (K.1 3) c = true ↔ c < mC R ∧ Y c) {post : mj_O → mj_H → Prop} (k : ∀ v, (∀ j, iB v j = true ↔ j < mS R ∧ (j = 0 ∨ ∃ c, c < mC R ∧ cS R c = j ∧ Y c)) → post (.inl (some (.int v))) (hp K M o, nc, ns)) : ∀ (q s : Nat) (v : Int32), 1 ≤ s → s ≤ mS R → mS R < s + q → (∀ j, iB v j = true ↔ j < s ∧ (j = 0 ∨ ∃ c, c < mC R ∧ cS R c = j ∧ Y c)) → mj_G y_S_sortsWithLivingCons b_S_sortsWithLivingCons 3 (some .int) [] (d + 1) none 4 [(2, .int (nI s)), (1, .int v), (0, .ref 1)] [] (hp K M o, nc, ns) post := by
  have q12 := hS.2.2
  intro q
  induction q with
  | zero => intro s v h0 h1 h2; omega
  | succ q ih =>
    intro s v h0 h1 h2 h3
    refine G_iload_n 0 d_S_sortsWithLivingCons_4 rfl ?_
    refine G_aload_n 2 d_S_sortsWithLivingCons_5 rfl ?_
    refine G_gt d_S_sortsWithLivingCons_6 fr_S_9 (rd_S_sortCount K M o) ?_
    rw [show K.1 0 = nI (mS R) from hK.1.trans hS.1]
    refine G_icge 32 d_S_sortsWithLivingCons_9 (by decide) (fun h9 => ?_) (fun h9 => ?_)
    · have h9 := (nI_leI (by omega) (by omega)).mp h9
      obtain rfl : s = mS R := by omega
      refine G_iload_n 1 d_S_sortsWithLivingCons_32 rfl ?_
      exact G_iret d_S_sortsWithLivingCons_33 rfl (k _ h3)
    · have h9 : ¬ _ := fun z => h9 ((nI_leI (by omega) (by omega)).mpr z)
      refine G_aload_n 2 d_S_sortsWithLivingCons_12 rfl ?_
      refine G_iload_n 0 d_S_sortsWithLivingCons_13 rfl ?_
      refine G_cv1 (some (.int (K.2.1 2 s &&& K.1 3))) (hp K M o, nc, ns) (As := [.int (nI s)]) d_S_sortsWithLivingCons_14 cv_S_58 cw_S_livingConsOf (ob_S K M o) np_S_livingConsOf (Nat.le_of_ble_eq_true rfl) (Nat.le_of_ble_eq_true rfl) (fun post2 k2 => c_S_livingConsOf (s := s) (by omega) k2) rfl ?_
      refine G_ifeq 26 d_S_sortsWithLivingCons_17 (by decide) (fun h17 => ?_) (fun h17 => ?_)
      · refine G_iinc 0 (v := nI (s + 1)) (ls' := [(2, .int (nI (s + 1))), (1, .int v), (0, .ref 1)]) d_S_sortsWithLivingCons_26 rfl (nI_1 _) (by decide) rfl ?_
        refine G_goto 4 d_S_sortsWithLivingCons_29 (by decide) ?_
        exact G_sub [0, 1, 2] rfl (ih (s + 1) _ (by omega) (by omega) (by omega) (sorts_n h3 (fun z => z.elim (by omega) (fun z => (lco_iff hC hO hY (by omega)).mpr z h17))))
      · refine G_iload_n 1 d_S_sortsWithLivingCons_20 rfl ?_
        refine G_iconst (v := 1) d_S_sortsWithLivingCons_21 (by decide) ?_
        refine G_iload_n 0 d_S_sortsWithLivingCons_22 rfl ?_
        refine G_ishl d_S_sortsWithLivingCons_23 ?_
        refine G_ior d_S_sortsWithLivingCons_24 ?_
        refine G_istore_n (ls' := [(1, .int (v ||| (1 <<< ((nI s) &&& 31)))), (2, .int (nI s)), (0, .ref 1)]) d_S_sortsWithLivingCons_25 (by decide) rfl ?_
        refine G_iinc 1 (v := nI (s + 1)) (ls' := [(2, .int (nI (s + 1))), (1, .int (v ||| (1 <<< ((nI s) &&& 31)))), (0, .ref 1)]) d_S_sortsWithLivingCons_26 rfl (nI_1 _) (by decide) rfl ?_
        refine G_goto 4 d_S_sortsWithLivingCons_29 (by decide) ?_
        exact G_sub [0, 1, 2] rfl (ih (s + 1) _ (by omega) (by omega) (by omega) (sorts_y (by omega) h3 (Or.inr ((lco_iff hC hO hY (by omega)).mp h17))))
set_option maxHeartbeats 600000 in
set_option maxRecDepth 100000 in
theorem c_S_sortsW {K : KC} {M : MC} {o : Nat → Int64} {nc ns : Nat} {R : MC} {Y : Nat → Prop} {d : Nat} (hS : wfS R) (hC : wfC R) (hK : rS K R) (hO : rO K R) (hY : ∀ c, iB (K.1 3) c = true ↔ c < mC R ∧ Y c) {post : mj_O → mj_H → Prop} (k : ∀ v, (∀ j, iB v j = true ↔ j < mS R ∧ (j = 0 ∨ ∃ c, c < mC R ∧ cS R c = j ∧ Y c)) → post (.inl (some (.int v))) (hp K M o, nc, ns)) : mj_G y_S_sortsWithLivingCons b_S_sortsWithLivingCons 3 (some .int) [] (d + 1) none 0 [(0, .ref 1)] [] (hp K M o, nc, ns) post := by
  refine G_iconst (v := 1) d_S_sortsWithLivingCons_0 (by decide) ?_
  refine G_istore_n (ls' := [(1, .int 1), (0, .ref 1)]) d_S_sortsWithLivingCons_1 (by decide) rfl ?_
  refine G_iconst (v := nI 1) d_S_sortsWithLivingCons_2 (by decide) ?_
  refine G_istore_n (ls' := [(2, .int (nI 1)), (1, .int 1), (0, .ref 1)]) d_S_sortsWithLivingCons_3 (by decide) rfl ?_
  exact G_sub [0, 1, 2] rfl (l_S_sortsW hS hC hK hO hY k (mS R + 1) 1 1 (by omega) hS.2.1 (by omega) (sorts_1 (Or.inl rfl)))
def fr (K1 K : KC) : Prop := K1.2 = K.2 ∧ ∀ k, k ≠ 2 → k ≠ 3 → K1.1 k = K.1 k
theorem fr_rS {K1 K : KC} {R : MC} (h : fr K1 K) (hK : rS K R) : rS K1 R := by
  unfold rS
  rw [h.1, h.2 0 (by decide) (by decide), h.2 1 (by decide) (by decide)]; exact hK
theorem fr_rO {K1 K : KC} {R : MC} (h : fr K1 K) (hO : rO K R) : rO K1 R := by
  unfold rO
  rw [h.1]; exact hO
theorem fr_1 {K1 K : KC} {v : Int32} (h : fr K1 K) : fr (ki K1 3 v) K := ⟨h.1, fun k h2 h3 => (pk_un h3).trans (h.2 k h2 h3)⟩
theorem fr_2 {K1 K : KC} {v w : Int32} (h : fr K1 K) : fr (ki (ki K1 3 v) 2 w) K := ⟨h.1, fun k h2 h3 => by
  show upd (upd K1.1 3 v) 2 w k = _
  rw [pk_un h2, pk_un h3, h.2 k h2 h3]⟩
set_option maxHeartbeats 600000 in
set_option maxRecDepth 100000 in
theorem l_S_find {K : KC} {M : MC} {o : Nat → Int64} {nc ns : Nat} {R : MC} {d : Nat} (hS : wfS R) (hC : wfC R) (hK : rS K R) (hO : rO K R) {post : mj_O → mj_H → Prop} (k : ∀ K1, fr K1 K → rL K1 R → post (.inl none) (hp K1 M o, nc, ns)) : ∀ (q r : Nat) (K1 : KC), r ≤ mS R → mS R < r + q → fr K1 K → (∀ s, iB (K1.1 2) s = true ↔ stL R r s) → (1 ≤ r → ∀ c, iB (K1.1 3) c = true ↔ c < mC R ∧ pin R (stL R (r - 1)) c) → mj_G y_S_findLiving b_S_findLiving 2 none [] (d + 2) none 14 [(1, .int (nI r)), (0, .ref 1)] [] (hp K1 M o, nc, ns) post := by
  have q12 := hS.2.2
  intro q
  induction q with
  | zero => intro r K1 h1 h2; omega
  | succ q ih =>
    intro r K1 h1 h2 hf hB hA
    refine G_iload_n 0 d_S_findLiving_14 rfl ?_
    refine G_aload_n 1 d_S_findLiving_15 rfl ?_
    refine G_gt d_S_findLiving_16 fr_S_9 (rd_S_sortCount K1 M o) ?_
    rw [show K1.1 0 = nI (mS R) from (fr_rS hf hK).1.trans hS.1]
    refine G_icge 44 d_S_findLiving_19 (by decide) (fun h19 => ?_) (fun h19 => ?_)
    · have h19 := (nI_leI (by omega) (by omega)).mp h19
      obtain rfl : r = mS R := by omega
      exact G_ret d_S_findLiving_44 rfl (k K1 hf ⟨fun s => (hB s).trans (stL_LV hS s), fun c => (hA hS.2.1 c).trans (and_congr_right fun _ => stL_pin hS)⟩)
    · have h19 : ¬ _ := fun z => h19 ((nI_leI (by omega) (by omega)).mpr z)
      refine G_aload_n 1 d_S_findLiving_22 rfl ?_
      refine G_aload_n 1 d_S_findLiving_23 rfl ?_
      refine G_cvp (fun a9 A9 => ∃ v : Int32, a9 = some (.int v) ∧ (∀ j, iB v j = true ↔ j < mC R ∧ pin R (stL R r) j) ∧ A9 = (hp K1 M o, nc, ns)) (As := []) d_S_findLiving_24 cv_S_43 cw_S_consWithLivingParts (ob_S K1 M o) np_S_consWithLivingParts (Nat.le_of_ble_eq_true rfl) (Nat.le_of_ble_eq_true rfl) (fun post2 kq => c_S_consW (X := stL R r) hS hC (fr_rS hf hK) (fun s _ => hB s) (fun v hv => kq _ _ ⟨v, rfl, hv, rfl⟩)) (fun a9 A9 h9 => by obtain ⟨v, -, -, rfl⟩ := h9; rfl) (fun a9 A9 h9 => ?_)
      obtain ⟨v, rfl, hv, rfl⟩ := h9
      refine G_pt d_S_findLiving_27 fp_S_21 (wr_S_livingCons K1 M o v) ?_
      refine G_aload_n 1 d_S_findLiving_30 rfl ?_
      refine G_aload_n 1 d_S_findLiving_31 rfl ?_
      refine G_cvp (fun a9 A9 => ∃ u : Int32, a9 = some (.int u) ∧ (∀ j, iB u j = true ↔ j < mS R ∧ (j = 0 ∨ ∃ c, c < mC R ∧ cS R c = j ∧ pin R (stL R r) c)) ∧ A9 = (hp (ki K1 3 v) M o, nc, ns)) (As := []) d_S_findLiving_32 cv_S_47 cw_S_sortsWithLivingCons (ob_S (ki K1 3 v) M o) np_S_sortsWithLivingCons (Nat.le_of_ble_eq_true rfl) (Nat.le_of_ble_eq_true rfl) (fun post2 kq => c_S_sortsW (K := ki K1 3 v) (Y := pin R (stL R r)) hS hC (fr_rS (fr_1 hf) hK) (fr_rO (fr_1 hf) hO) hv (fun u hu => kq _ _ ⟨u, rfl, hu, rfl⟩)) (fun a9 A9 h9 => by obtain ⟨u, -, -, rfl⟩ := h9; rfl) (fun a9 A9 h9 => ?_)
      obtain ⟨u, rfl, hu, rfl⟩ := h9
      refine G_pt d_S_findLiving_35 fp_S_18 (wr_S_livingSorts (ki K1 3 v) M o u) ?_
      refine G_iinc 0 (v := nI (r + 1)) (ls' := [(1, .int (nI (r + 1))), (0, .ref 1)]) d_S_findLiving_38 rfl (nI_1 _) (by decide) rfl ?_
      refine G_goto 14 d_S_findLiving_41 (by decide) ?_
      exact G_sub [0, 1] rfl (ih (r + 1) _ (by omega) (by omega) (fr_2 hf) hu (fun _ => by rw [Nat.add_sub_cancel]; exact hv))
set_option maxHeartbeats 600000 in
set_option maxRecDepth 100000 in
theorem c_S_find {K : KC} {M : MC} {o : Nat → Int64} {nc ns : Nat} {R : MC} {d : Nat} (hS : wfS R) (hC : wfC R) (hK : rS K R) (hO : rO K R) {post : mj_O → mj_H → Prop} (k : ∀ K1, fr K1 K → rL K1 R → post (.inl none) (hp K1 M o, nc, ns)) : mj_G y_S_findLiving b_S_findLiving 2 none [] (d + 2) none 0 [(0, .ref 1)] [] (hp K M o, nc, ns) post := by
  have q12 := hS.2.2
  refine G_aload_n 0 d_S_findLiving_0 rfl ?_
  refine G_iconst (v := 1) d_S_findLiving_1 (by decide) ?_
  refine G_aload_n 0 d_S_findLiving_2 rfl ?_
  refine G_gt d_S_findLiving_3 fr_S_9 (rd_S_sortCount K M o) ?_
  rw [show K.1 0 = nI (mS R) from hK.1.trans hS.1]
  refine G_ishl d_S_findLiving_6 ?_
  refine G_iconst (v := 1) d_S_findLiving_7 (by decide) ?_
  refine G_isub d_S_findLiving_8 ?_
  refine G_pt d_S_findLiving_9 fp_S_18 (wr_S_livingSorts K M o ((1 <<< ((nI (mS R)) &&& 31)) - 1)) ?_
  refine G_iconst (v := nI 0) d_S_findLiving_12 (by decide) ?_
  refine G_istore_n (ls' := [(1, .int (nI 0)), (0, .ref 1)]) d_S_findLiving_13 (by decide) rfl ?_
  exact G_sub [0, 1] rfl (l_S_find hS hC hK hO k (mS R + 1) 0 _ (by omega) (by omega) ⟨rfl, fun j h2 h3 => pk_un h2⟩ (fun s => by show iB (1 <<< (nI (mS R) &&& 31) - 1) s = true ↔ s < mS R; rw [iB_low (by omega), decide_eq_true_eq]) (fun z => absurd z (by omega)))
set_option maxHeartbeats 600000 in
set_option maxRecDepth 100000 in
theorem c_S_addSort {K : KC} {M : MC} {o : Nat → Int64} {nc ns : Nat} {R : MC} {d n : Nat} (hn : K.1 0 = nI n) (hL : rL (ki K 0 (nI (n + 1))) R) {post : mj_O → mj_H → Prop} (k : ∀ K1, fr K1 (ki K 0 (nI (n + 1))) → rL K1 R → post (.inl (some (.int (nI n)))) (hp K1 M o, nc, ns)) : mj_G y_S_addSort b_S_addSort 2 (some .int) [] d none 0 [(0, .ref 1)] [] (hp K M o, nc, ns) post := by
  refine G_aload_n 0 d_S_addSort_0 rfl ?_
  refine G_gt d_S_addSort_1 fr_S_9 (rd_S_sortCount K M o) ?_
  rw [show K.1 0 = nI n from hn]
  refine G_istore_n (ls' := [(1, .int (nI n)), (0, .ref 1)]) d_S_addSort_4 (by decide) rfl ?_
  refine G_aload_n 1 d_S_addSort_5 rfl ?_
  refine G_dup d_S_addSort_6 rfl ?_
  refine G_gt d_S_addSort_7 fr_S_9 (rd_S_sortCount K M o) ?_
  rw [show K.1 0 = nI n from hn]
  refine G_iconst (v := 1) d_S_addSort_10 (by decide) ?_
  refine G_iadd d_S_addSort_11 ?_
  rw [nI_1]
  refine G_pt d_S_addSort_12 fp_S_9 (wr_S_sortCount K M o (nI (n + 1))) ?_
  refine G_iload_n 0 d_S_addSort_15 rfl ?_
  exact G_iret d_S_addSort_16 rfl (k _ ⟨rfl, fun _ _ _ => rfl⟩ hL)
def conK (K : KC) (n s : Nat) (x2 x3 x4 : Int32) : KC := ki (ka (ka (ka (ka (ka K 3 n (nI s)) 4 n x2) 5 n x3) 6 n x4) 2 s (K.2.1 2 s ||| 1 <<< (nI n &&& 31))) 1 (nI (n + 1))
set_option maxHeartbeats 600000 in
set_option maxRecDepth 100000 in
theorem c_S_addCon {K : KC} {M : MC} {o : Nat → Int64} {nc ns : Nat} {R : MC} {d n s : Nat} {x2 x3 x4 : Int32} (hn : K.1 1 = nI n) (hn2 : n < 30) (hs : s < 12) (hS : wfS R) (hC : wfC R) (hK : rS (conK K n s x2 x3 x4) R) (hO : rO (conK K n s x2 x3 x4) R) {post : mj_O → mj_H → Prop} (k : ∀ K1, fr K1 (conK K n s x2 x3 x4) → rL K1 R → post (.inl (some (.int (nI n)))) (hp K1 M o, nc, ns)) : mj_G y_S_addCon b_S_addCon 6 (some .int) [] (d + 3) none 0 [(0, .ref 1), (1, .int (nI s)), (2, .int x2), (3, .int x3), (4, .int x4)] [] (hp K M o, nc, ns) post := by
  refine G_aload_n 0 d_S_addCon_0 rfl ?_
  refine G_gt d_S_addCon_1 fr_S_15 (rd_S_conCount K M o) ?_
  rw [show K.1 1 = nI n from hn]
  refine G_istore (ls' := [(5, .int (nI n)), (0, .ref 1), (1, .int (nI s)), (2, .int x2), (3, .int x3), (4, .int x4)]) d_S_addCon_4 (by decide) rfl ?_
  refine G_aload_n 1 d_S_addCon_6 rfl ?_
  refine G_gt d_S_addCon_7 fr_S_28 (rd_S_conSort K M o) ?_
  refine G_iload 0 d_S_addCon_10 rfl ?_
  refine G_iload_n 2 d_S_addCon_12 rfl ?_
  refine G_iasN d_S_addCon_13 (ar_3 K M o) (by decide) (by omega) (aw_3 K M o n (nI s)) ?_
  refine G_aload_n 1 d_S_addCon_14 rfl ?_
  refine G_gt d_S_addCon_15 fr_S_31 (rd_S_partCount (ka K 3 n (nI s)) M o) ?_
  refine G_iload 0 d_S_addCon_18 rfl ?_
  refine G_iload_n 3 d_S_addCon_20 rfl ?_
  refine G_iasN d_S_addCon_21 (ar_4 (ka K 3 n (nI s)) M o) (by decide) (by omega) (aw_4 (ka K 3 n (nI s)) M o n x2) ?_
  refine G_aload_n 1 d_S_addCon_22 rfl ?_
  refine G_gt d_S_addCon_23 fr_S_34 (rd_S_firstSort (ka (ka K 3 n (nI s)) 4 n x2) M o) ?_
  refine G_iload 0 d_S_addCon_26 rfl ?_
  refine G_iload_n 4 d_S_addCon_28 rfl ?_
  refine G_iasN d_S_addCon_29 (ar_5 (ka (ka K 3 n (nI s)) 4 n x2) M o) (by decide) (by omega) (aw_5 (ka (ka K 3 n (nI s)) 4 n x2) M o n x3) ?_
  refine G_aload_n 1 d_S_addCon_30 rfl ?_
  refine G_gt d_S_addCon_31 fr_S_37 (rd_S_secondSort (ka (ka (ka K 3 n (nI s)) 4 n x2) 5 n x3) M o) ?_
  refine G_iload 0 d_S_addCon_34 rfl ?_
  refine G_iload 5 d_S_addCon_36 rfl ?_
  refine G_iasN d_S_addCon_38 (ar_6 (ka (ka (ka K 3 n (nI s)) 4 n x2) 5 n x3) M o) (by decide) (by omega) (aw_6 (ka (ka (ka K 3 n (nI s)) 4 n x2) 5 n x3) M o n x4) ?_
  refine G_aload_n 1 d_S_addCon_39 rfl ?_
  refine G_gt d_S_addCon_40 fr_S_24 (rd_S_consOf (ka (ka (ka (ka K 3 n (nI s)) 4 n x2) 5 n x3) 6 n x4) M o) ?_
  refine G_iload_n 2 d_S_addCon_43 rfl ?_
  refine G_dup2 d_S_addCon_44 rfl rfl ?_
  refine G_ialN d_S_addCon_45 (ar_2 (ka (ka (ka (ka K 3 n (nI s)) 4 n x2) 5 n x3) 6 n x4) M o) (by decide) (by omega) ?_
  rw [show (ka (ka (ka (ka K 3 n (nI s)) 4 n x2) 5 n x3) 6 n x4).2.1 2 s = K.2.1 2 s from rfl]
  refine G_iconst (v := 1) d_S_addCon_46 (by decide) ?_
  refine G_iload 0 d_S_addCon_47 rfl ?_
  refine G_ishl d_S_addCon_49 ?_
  refine G_ior d_S_addCon_50 ?_
  refine G_iasN d_S_addCon_51 (ar_2 (ka (ka (ka (ka K 3 n (nI s)) 4 n x2) 5 n x3) 6 n x4) M o) (by decide) (by omega) (aw_2 (ka (ka (ka (ka K 3 n (nI s)) 4 n x2) 5 n x3) 6 n x4) M o s ((K.2.1 2 s) ||| (1 <<< ((nI n) &&& 31)))) ?_
  refine G_aload_n 1 d_S_addCon_52 rfl ?_
  refine G_dup d_S_addCon_53 rfl ?_
  refine G_gt d_S_addCon_54 fr_S_15 (rd_S_conCount (ka (ka (ka (ka (ka K 3 n (nI s)) 4 n x2) 5 n x3) 6 n x4) 2 s ((K.2.1 2 s) ||| (1 <<< ((nI n) &&& 31)))) M o) ?_
  rw [show (ka (ka (ka (ka (ka K 3 n (nI s)) 4 n x2) 5 n x3) 6 n x4) 2 s ((K.2.1 2 s) ||| (1 <<< ((nI n) &&& 31)))).1 1 = nI n from hn]
  refine G_iconst (v := 1) d_S_addCon_57 (by decide) ?_
  refine G_iadd d_S_addCon_58 ?_
  rw [nI_1]
  refine G_pt d_S_addCon_59 fp_S_15 (wr_S_conCount (ka (ka (ka (ka (ka K 3 n (nI s)) 4 n x2) 5 n x3) 6 n x4) 2 s ((K.2.1 2 s) ||| (1 <<< ((nI n) &&& 31)))) M o (nI (n + 1))) ?_
  refine G_aload_n 1 d_S_addCon_62 rfl ?_
  refine G_cvp (fun a9 A9 => a9 = none ∧ ∃ K1 : KC, fr K1 (conK K n s x2 x3 x4) ∧ rL K1 R ∧ A9 = (hp K1 M o, nc, ns)) (As := []) d_S_addCon_63 cv_S_40 cw_S_findLiving (ob_S (conK K n s x2 x3 x4) M o) np_S_findLiving (Nat.le_of_ble_eq_true rfl) (Nat.le_of_ble_eq_true rfl) (fun post2 kq => c_S_find hS hC hK hO (fun K1 g1 g2 => kq _ _ ⟨rfl, K1, g1, g2, rfl⟩)) (fun a9 A9 h9 => by obtain ⟨-, K1, -, -, rfl⟩ := h9; rfl) (fun a9 A9 h9 => ?_)
  obtain ⟨rfl, K1, hf, hl, rfl⟩ := h9
  refine G_iload 0 d_S_addCon_66 rfl ?_
  exact G_iret d_S_addCon_68 rfl (k K1 hf hl)
