/-! the class's methods -/
theorem pat_iff {K : KC} {R : MC} {x z : Int32} (hT : rP K R) (hP : wfP R) : ((0 ≤ x ∧ x < K.1 4) ∧ K.2.1 9 x.toNatClampNeg = z) ↔ sP R x z := by
  unfold sP iP
  rw [hT.1]
  refine and_congr_right (fun h => ?_)
  obtain ⟨p, hp1, rfl⟩ := iP_of hP h
  rw [nI_clamp (by have := hP.2.1; omega), (hT.2 p hp1).2.1]
theorem c_C_needPat2 {K : KC} {M : MC} {o : Nat → Int64} {nc ns : Nat} {R : MC} {d : Nat} (x z : Int32) (hT : rP K R) (hP : wfP R) (hr1 : nc + 1 ≤ 601024) (hr2 : ns + 6 ≤ 7293034) {post : mj_O → mj_H → Prop} (k : sP R x z → post (.inl none) (hp K M o, nc, ns)) (t : ¬ sP R x z → post (.inr 0) (hp K M o, nc + 1, ns + 6)) : mj_G y_C_needPatternOf b_C_needPatternOf 3 none [] (d + 7) none 0 [(0, .ref 0), (1, .int x), (2, .int z)] [] (hp K M o, nc, ns) post :=
  c_C_needPatternOf x z (hT.1.trans hP.1) hP.2.1 hr1 hr2 (fun q => k ((pat_iff hT hP).mp q)) (fun q => t (fun q2 => q ((pat_iff hT hP).mpr q2)))
theorem sP_of {R : MC} {x : Int32} {s : Nat} (hP : wfP R) (hs : s < 2 ^ 31) (h : sP R x (nI s)) : ∃ p, p < mP R ∧ x = nI p ∧ ps R p = s := by
  obtain ⟨p, hp1, rfl⟩ := iP_of hP h.1
  have e := h.2
  rw [nI_clamp (by have := hP.2.1; omega)] at e
  exact ⟨p, hp1, rfl, by show (R.2 44 p).toNatClampNeg = s; rw [e, nI_clamp hs]⟩
theorem sW_eq (R : MC) : ∀ n, sW R n = sWP R (cl R) n := by
  intro n
  induction n with
  | zero => rfl
  | succ n ih => show sW R n + pd R (cl R n) = sWP R (cl R) n + pd R (cl R n); rw [ih]
theorem nI_m1 (n : Nat) : nI (n + 1) - nI 1 = nI n := by
  rw [← nI_add, Int32.add_sub_cancel]
set_option maxHeartbeats 600000 in
set_option maxRecDepth 100000 in
theorem c_C_takes {K : KC} {M : MC} {o : Nat → Int64} {nc ns : Nat} {R : MC} {d cs kk : Nat} (x : Int32) (hI : IM R cs kk) (hK : RK K R cs kk) (hr1 : nc + 1 ≤ 601024) (hr2 : ns + 6 ≤ 7293034) {post : mj_O → mj_H → Prop} (t : (x < 0 ∨ nI kk ≤ x) → post (.inr 0) (hp K M o, nc + 1, ns + 6)) (k1 : ∀ k, k < kk → x = nI k → REACH R cs k → post (.inl (some (.int 1))) (hp K M o, nc, ns)) (k0 : ∀ k, k < kk → x = nI k → ¬ REACH R cs k → post (.inl (some (.int 0))) (hp K M o, nc, ns)) : mj_G y_C_takes b_C_takes 2 (some .boolean) [] (d + 45) none 0 [(0, .ref 0), (1, .int x)] [] (hp K M o, nc, ns) post := by
  obtain ⟨np, pi, hX, erc, hnp, efs, epc⟩ := SHI0_X hI.1 hI.2.1 hI.2.2.1 hK.2.2.2.2
  refine G_iload_n 1 d_C_takes_0 rfl ?_
  refine G_iflt 15 d_C_takes_1 (by decide) (fun h1 => ?_) (fun h1 => ?_)
  · exact G_throw (tx := "no such clause") 0 d_C_takes_15 d_C_takes_18 d_C_takes_19 d_C_takes_21 d_C_takes_24 th_cl0 th_in0 th_ini0 th_s129 mj_tw0 th_ft0 rfl (by omega) (by omega) (by omega) (Nat.le_of_ble_eq_true rfl) (t (Or.inl h1))
  · refine G_iload_n 1 d_C_takes_4 rfl ?_
    refine G_aload_n 0 d_C_takes_5 rfl ?_
    refine G_gt d_C_takes_6 fr_C_28 (rd_C_clauses K M o) ?_
    refine G_gt d_C_takes_9 fr_C_114 (rd_H0_rowCount K M o) ?_
    rw [show K.1 11 = nI kk from erc]
    refine G_iclt 25 d_C_takes_12 (by decide) (fun h12 => ?_) (fun h12 => ?_)
    · obtain ⟨k, hk, rfl⟩ := ix_of (n := kk) (by have := hI.2.2.2.2.1; omega) ⟨Int32.not_lt.mp h1, h12⟩
      refine G_aload_n 0 d_C_takes_25 rfl ?_
      refine G_gt d_C_takes_26 fr_C_28 (rd_C_clauses K M o) ?_
      refine G_iload_n 1 d_C_takes_29 rfl ?_
      refine G_cvB (REACH R cs k) (As := [.int (nI k)]) d_C_takes_30 cv_C_126 cw_H_reaches (ob_H0 K M o) np_H_reaches (Nat.le_of_ble_eq_true rfl) (Nat.le_of_ble_eq_true rfl) (fun post2 k1 k0 => c_H0_reaches (d := d) (i := k) hX erc hI.2.2.2.2.1 hnp hK.2.1 hK.2.2.1 efs epc hI.2.2.2.2.2.2.1 (by omega) k1 k0) (fun u30 => ?_) (fun u30 => ?_)
      · exact G_zret d_C_takes_33 rfl rfl (k1 k hk rfl u30)
      · exact G_zret d_C_takes_33 rfl rfl (k0 k hk rfl u30)
    · exact G_throw (tx := "no such clause") 0 d_C_takes_15 d_C_takes_18 d_C_takes_19 d_C_takes_21 d_C_takes_24 th_cl0 th_in0 th_ini0 th_s129 mj_tw0 th_ft0 rfl (by omega) (by omega) (by omega) (Nat.le_of_ble_eq_true rfl) (t (Or.inr (Int32.not_lt.mp h12)))
set_option maxHeartbeats 600000 in
set_option maxRecDepth 100000 in
theorem c_C_open {K : KC} {M : MC} {o : Nat → Int64} {nc ns : Nat} {R : MC} {d cs kk : Nat} (hI : IM R cs kk) (hK : RK K R cs kk) {post : mj_O → mj_H → Prop} (k1 : OPENS R cs kk → post (.inl (some (.int 1))) (hp K M o, nc, ns)) (k0 : ¬ OPENS R cs kk → post (.inl (some (.int 0))) (hp K M o, nc, ns)) : mj_G y_C_open b_C_open 1 (some .boolean) [] (d + 45) none 0 [(0, .ref 0)] [] (hp K M o, nc, ns) post := by
  obtain ⟨np, pi, hX, erc, hnp, efs, epc⟩ := SHI0_X hI.1 hI.2.1 hI.2.2.1 hK.2.2.2.2
  refine G_aload_n 0 d_C_open_0 rfl ?_
  refine G_gt d_C_open_1 fr_C_28 (rd_C_clauses K M o) ?_
  refine G_cvB (OPENS R cs kk) (As := []) d_C_open_4 cv_C_131 cw_H_leavesSome (ob_H0 K M o) np_H_leavesSome (Nat.le_of_ble_eq_true rfl) (Nat.le_of_ble_eq_true rfl) (fun post2 k1 k0 => c_H0_leaves (d := d) hX erc hI.2.2.2.2.1 hnp hK.2.1 hK.2.2.1 efs epc hI.2.2.2.2.2.2.1 k1 k0) (fun u4 => ?_) (fun u4 => ?_)
  · exact G_zret d_C_open_7 rfl rfl (k1 u4)
  · exact G_zret d_C_open_7 rfl rfl (k0 u4)
set_option maxHeartbeats 600000 in
set_option maxRecDepth 100000 in
theorem c_C_lives {K : KC} {M : MC} {o : Nat → Int64} {nc ns : Nat} {R : MC} {d cs kk : Nat} (x : Int32) (hI : IM R cs kk) (hK : RK K R cs kk) (hr1 : nc + 1 ≤ 601024) (hr2 : ns + 6 ≤ 7293034) {post : mj_O → mj_H → Prop} (t : ¬ iS R x → post (.inr 0) (hp K M o, nc + 1, ns + 6)) (k1 : ∀ s, s < mS R → x = nI s → LV R s → post (.inl (some (.int 1))) (hp K M o, nc, ns)) (k0 : ∀ s, s < mS R → x = nI s → ¬ LV R s → post (.inl (some (.int 0))) (hp K M o, nc, ns)) : mj_G y_C_lives b_C_lives 2 (some .boolean) [] (d + 7) none 0 [(0, .ref 0), (1, .int x)] [] (hp K M o, nc, ns) post := by
  have q12 := hI.1.2.2
  refine G_aload_n 0 d_C_lives_0 rfl ?_
  refine G_iload_n 1 d_C_lives_1 rfl ?_
  refine G_cvT (0 ≤ x ∧ x < K.1 0) 0 (As := [.int x]) d_C_lives_2 cv_C_50 cw_C_needSort (ob_C K M o) np_C_needSort (Nat.le_of_ble_eq_true rfl) (Nat.le_of_ble_eq_true rfl) rfl (fun post2 k1 k0 => c_C_needSort x hr1 hr2 k1 k0) (fun u2 => ?_) (fun u2 => t (fun q => u2 (by rw [hK.1.1]; exact q)))
  obtain ⟨s, hs, rfl⟩ := iS_of hI.1 (by rw [hK.1.1] at u2; exact u2)
  refine G_aload_n 0 d_C_lives_5 rfl ?_
  refine G_gt d_C_lives_6 fr_C_10 (rd_C_sorts K M o) ?_
  refine G_iload_n 1 d_C_lives_9 rfl ?_
  refine G_cvB (iB (K.1 2) s = true) (As := [.int (nI s)]) d_C_lives_10 cv_C_145 cw_S_isSortLiving (ob_S K M o) np_S_isSortLiving (Nat.le_of_ble_eq_true rfl) (Nat.le_of_ble_eq_true rfl) (fun post2 k1 k0 => c_S_isSortLiving (s := s) (by omega) k1 k0) (fun u10 => ?_) (fun u10 => ?_)
  · exact G_zret d_C_lives_13 rfl rfl (k1 s hs rfl ((hK.2.2.1.1 s).mp u10))
  · exact G_zret d_C_lives_13 rfl rfl (k0 s hs rfl (fun q => u10 ((hK.2.2.1.1 s).mpr q)))
theorem beg_RK {K : KC} {R : MC} {cs kk s : Nat} (hI : IM R cs kk) (hK : RK K R cs kk) : RK (clrK0 K (nI s)) (mi (mi (mi R 0 0) 4 (nI 0)) 5 (nI s)) s 0 := by
  obtain ⟨h1, h2, h3, h4⟩ := RK_fr0 (clr0_fr K (nI s)) hK.1 hK.2.1 hK.2.2.1 hK.2.2.2.1
  exact ⟨h1, h2, h3, h4, clr0_I _⟩
set_option maxHeartbeats 600000 in
set_option maxRecDepth 100000 in
theorem c_C_begin {K : KC} {M : MC} {o : Nat → Int64} {nc ns : Nat} {R : MC} {d cs kk : Nat} (x : Int32) (hI : IM R cs kk) (hK : RK K R cs kk) (hr1 : nc + 1 ≤ 601024) (hr2 : ns + 6 ≤ 7293034) {post : mj_O → mj_H → Prop} (t : ¬ iS R x → post (.inr 0) (hp K M o, nc + 1, ns + 6)) (k : ∀ s, s < mS R → x = nI s → ∀ KK, RK KK (mi (mi (mi R 0 0) 4 (nI 0)) 5 (nI s)) s 0 → post (.inl none) (hp KK M o, nc, ns)) : mj_G y_C_begin b_C_begin 2 none [] (d + 7) none 0 [(0, .ref 0), (1, .int x)] [] (hp K M o, nc, ns) post := by
  have q12 := hI.1.2.2
  refine G_aload_n 0 d_C_begin_0 rfl ?_
  refine G_iload_n 1 d_C_begin_1 rfl ?_
  refine G_cvT (0 ≤ x ∧ x < K.1 0) 0 (As := [.int x]) d_C_begin_2 cv_C_50 cw_C_needSort (ob_C K M o) np_C_needSort (Nat.le_of_ble_eq_true rfl) (Nat.le_of_ble_eq_true rfl) rfl (fun post2 k1 k0 => c_C_needSort x hr1 hr2 k1 k0) (fun u2 => ?_) (fun u2 => t (fun q => u2 (by rw [hK.1.1]; exact q)))
  obtain ⟨s, hs, rfl⟩ := iS_of hI.1 (by rw [hK.1.1] at u2; exact u2)
  refine G_aload_n 0 d_C_begin_5 rfl ?_
  refine G_gt d_C_begin_6 fr_C_28 (rd_C_clauses K M o) ?_
  refine G_iload_n 1 d_C_begin_9 rfl ?_
  refine G_cv1 none (hp (clrK0 K (nI s)) M o, nc, ns) (As := [.int (nI s)]) d_C_begin_10 cv_C_108 cw_H_clear (ob_H0 K M o) np_H_clear (Nat.le_of_ble_eq_true rfl) (Nat.le_of_ble_eq_true rfl) (fun post2 k2 => c_H0_clear (nI s) k2) rfl ?_
  exact G_ret d_C_begin_13 rfl (k s hs rfl _ (beg_RK hI hK))
set_option maxHeartbeats 600000 in
set_option maxRecDepth 100000 in
theorem c_C_count0 {K : KC} {M : MC} {o : Nat → Int64} {nc ns : Nat} {R : MC} {d cs kk : Nat} (hI : IM R cs kk) (hK : RK K R cs kk) {post : mj_O → mj_H → Prop} (k : post (.inl (some (.int (nI (mS R))))) (hp K M o, nc, ns)) : mj_G y_C_count b_C_count 2 (some .int) [] (d + 46) none 0 [(0, .ref 0), (1, .int (nI 0))] [] (hp K M o, nc, ns) post := by
  obtain ⟨np, pi, hX, erc, hnp, efs, epc⟩ := SHI0_X hI.1 hI.2.1 hI.2.2.1 hK.2.2.2.2
  refine G_iload_n 1 d_C_count_0 rfl ?_
  refine G_swIn 40 d_C_count_1 (by decide) (by decide) (off := 39) rfl (by decide) ?_
  refine G_aload_n 0 d_C_count_40 rfl ?_
  refine G_gt d_C_count_41 fr_C_10 (rd_C_sorts K M o) ?_
  refine G_gt d_C_count_44 fr_C_35 (rd_S_sortCount K M o) ?_
  rw [show K.1 0 = nI (mS R) from hK.1.1.trans hI.1.1]
  exact G_iret d_C_count_47 rfl k
set_option maxHeartbeats 600000 in
set_option maxRecDepth 100000 in
theorem c_C_count1 {K : KC} {M : MC} {o : Nat → Int64} {nc ns : Nat} {R : MC} {d cs kk : Nat} (hI : IM R cs kk) (hK : RK K R cs kk) {post : mj_O → mj_H → Prop} (k : post (.inl (some (.int (nI (mC R))))) (hp K M o, nc, ns)) : mj_G y_C_count b_C_count 2 (some .int) [] (d + 46) none 0 [(0, .ref 0), (1, .int (nI 1))] [] (hp K M o, nc, ns) post := by
  obtain ⟨np, pi, hX, erc, hnp, efs, epc⟩ := SHI0_X hI.1 hI.2.1 hI.2.2.1 hK.2.2.2.2
  refine G_iload_n 1 d_C_count_0 rfl ?_
  refine G_swIn 48 d_C_count_1 (by decide) (by decide) (off := 47) rfl (by decide) ?_
  refine G_aload_n 0 d_C_count_48 rfl ?_
  refine G_gt d_C_count_49 fr_C_10 (rd_C_sorts K M o) ?_
  refine G_gt d_C_count_52 fr_C_61 (rd_S_conCount K M o) ?_
  rw [show K.1 1 = nI (mC R) from hK.1.2.1.trans hI.2.1.1]
  exact G_iret d_C_count_55 rfl k
set_option maxHeartbeats 600000 in
set_option maxRecDepth 100000 in
theorem c_C_count2 {K : KC} {M : MC} {o : Nat → Int64} {nc ns : Nat} {R : MC} {d cs kk : Nat} (hI : IM R cs kk) (hK : RK K R cs kk) {post : mj_O → mj_H → Prop} (k : post (.inl (some (.int (nI (mP R))))) (hp K M o, nc, ns)) : mj_G y_C_count b_C_count 2 (some .int) [] (d + 46) none 0 [(0, .ref 0), (1, .int (nI 2))] [] (hp K M o, nc, ns) post := by
  obtain ⟨np, pi, hX, erc, hnp, efs, epc⟩ := SHI0_X hI.1 hI.2.1 hI.2.2.1 hK.2.2.2.2
  refine G_iload_n 1 d_C_count_0 rfl ?_
  refine G_swIn 56 d_C_count_1 (by decide) (by decide) (off := 55) rfl (by decide) ?_
  refine G_aload_n 0 d_C_count_56 rfl ?_
  refine G_gt d_C_count_57 fr_C_19 (rd_C_patterns K M o) ?_
  refine G_gt d_C_count_60 fr_C_148 (rd_P_patternCount K M o) ?_
  rw [show K.1 4 = nI (mP R) from hK.2.2.2.1.1.trans hI.2.2.1.1]
  exact G_iret d_C_count_63 rfl k
set_option maxHeartbeats 600000 in
set_option maxRecDepth 100000 in
theorem c_C_count3 {K : KC} {M : MC} {o : Nat → Int64} {nc ns : Nat} {R : MC} {d cs kk : Nat} (hI : IM R cs kk) (hK : RK K R cs kk) {post : mj_O → mj_H → Prop} (k : post (.inl (some (.int (nI kk)))) (hp K M o, nc, ns)) : mj_G y_C_count b_C_count 2 (some .int) [] (d + 46) none 0 [(0, .ref 0), (1, .int (nI 3))] [] (hp K M o, nc, ns) post := by
  obtain ⟨np, pi, hX, erc, hnp, efs, epc⟩ := SHI0_X hI.1 hI.2.1 hI.2.2.1 hK.2.2.2.2
  refine G_iload_n 1 d_C_count_0 rfl ?_
  refine G_swIn 64 d_C_count_1 (by decide) (by decide) (off := 63) rfl (by decide) ?_
  refine G_aload_n 0 d_C_count_64 rfl ?_
  refine G_gt d_C_count_65 fr_C_28 (rd_C_clauses K M o) ?_
  refine G_gt d_C_count_68 fr_C_114 (rd_H0_rowCount K M o) ?_
  rw [show K.1 11 = nI kk from erc]
  exact G_iret d_C_count_71 rfl k
set_option maxHeartbeats 600000 in
set_option maxRecDepth 100000 in
theorem c_C_count4 {K : KC} {M : MC} {o : Nat → Int64} {nc ns : Nat} {R : MC} {d cs kk : Nat} (hI : IM R cs kk) (hK : RK K R cs kk) {post : mj_O → mj_H → Prop} (k : post (.inl (some (.int (nI (rcnt (REACH R cs) kk))))) (hp K M o, nc, ns)) : mj_G y_C_count b_C_count 2 (some .int) [] (d + 46) none 0 [(0, .ref 0), (1, .int (nI 4))] [] (hp K M o, nc, ns) post := by
  obtain ⟨np, pi, hX, erc, hnp, efs, epc⟩ := SHI0_X hI.1 hI.2.1 hI.2.2.1 hK.2.2.2.2
  refine G_iload_n 1 d_C_count_0 rfl ?_
  refine G_swIn 72 d_C_count_1 (by decide) (by decide) (off := 71) rfl (by decide) ?_
  refine G_aload_n 0 d_C_count_72 rfl ?_
  refine G_gt d_C_count_73 fr_C_28 (rd_C_clauses K M o) ?_
  refine G_cv1 (some (.int (nI (rcnt (REACH R cs) kk)))) (hp K M o, nc, ns) (As := []) d_C_count_76 cv_C_151 cw_H_reachedRows (ob_H0 K M o) np_H_reachedRows (Nat.le_of_ble_eq_true rfl) (Nat.le_of_ble_eq_true rfl) (fun post2 k2 => c_H0_reached (d := d) hX erc hI.2.2.2.2.1 hnp hK.2.1 hK.2.2.1 efs epc hI.2.2.2.2.2.2.1 k2) rfl ?_
  exact G_iret d_C_count_79 rfl k
theorem bcL_S {K : KC} {R : MC} (hS : wfS R) (hL : rL K R) : bcI (K.1 2) = nI (rcnt (LV R) (mS R)) := by
  have q12 := hS.2.2
  rw [bcI_cnt hL.1 (fun i hi => by have := (LV_step hi).1; omega)]
  have : ∀ m, mS R + m ≤ 12 → rcnt (LV R) (mS R + m) = rcnt (LV R) (mS R) := by
    intro m
    induction m with
    | zero => intro _; rfl
    | succ m ih =>
      intro h
      show rcnt (LV R) (mS R + m + 1) = _
      rw [rcnt_n (fun q => by have := (LV_step q).1; omega)]
      exact ih (by omega)
  have h2 := this (12 - mS R) (by omega)
  rw [show mS R + (12 - mS R) = 12 by omega] at h2
  rw [h2]
set_option maxHeartbeats 600000 in
set_option maxRecDepth 100000 in
theorem c_C_count5 {K : KC} {M : MC} {o : Nat → Int64} {nc ns : Nat} {R : MC} {d cs kk : Nat} (hI : IM R cs kk) (hK : RK K R cs kk) {post : mj_O → mj_H → Prop} (k : post (.inl (some (.int (nI (rcnt (LV R) (mS R)))))) (hp K M o, nc, ns)) : mj_G y_C_count b_C_count 2 (some .int) [] (d + 46) none 0 [(0, .ref 0), (1, .int (nI 5))] [] (hp K M o, nc, ns) post := by
  obtain ⟨np, pi, hX, erc, hnp, efs, epc⟩ := SHI0_X hI.1 hI.2.1 hI.2.2.1 hK.2.2.2.2
  refine G_iload_n 1 d_C_count_0 rfl ?_
  refine G_swIn 80 d_C_count_1 (by decide) (by decide) (off := 79) rfl (by decide) ?_
  refine G_aload_n 0 d_C_count_80 rfl ?_
  refine G_gt d_C_count_81 fr_C_10 (rd_C_sorts K M o) ?_
  refine G_gt d_C_count_84 fr_C_154 (rd_S_livingSorts K M o) ?_
  refine G_cs1 (some (.int (bcI (K.1 2)))) (hp K M o, nc, ns) (As := [.int (K.1 2)]) d_C_count_87 cs_C_157 cw_JI_bitCount np_JI_bitCount (Nat.le_of_ble_eq_true rfl) (Nat.le_of_ble_eq_true rfl) (fun post2 k2 => c_JI_bitCount (K.1 2) k2) rfl ?_
  rw [bcL_S hI.1 hK.2.2.1]
  exact G_iret d_C_count_90 rfl k
set_option maxHeartbeats 600000 in
set_option maxRecDepth 100000 in
theorem c_C_countO {K : KC} {M : MC} {o : Nat → Int64} {nc ns : Nat} {d : Nat} (x : Int32) (h : x.toInt < 0 ∨ 5 < x.toInt) {post : mj_O → mj_H → Prop} (k : post (.inl (some (.int (-1)))) (hp K M o, nc, ns)) : mj_G y_C_count b_C_count 2 (some .int) [] d none 0 [(0, .ref 0), (1, .int x)] [] (hp K M o, nc, ns) post := by
  refine G_iload_n 1 d_C_count_0 rfl ?_
  refine G_swOut 91 d_C_count_1 h (by decide) ?_
  refine G_iconst (v := (-1)) d_C_count_91 (by decide) ?_
  exact G_iret d_C_count_92 rfl k
theorem cl_gro {R : MC} {kk p : Nat} : gro (clM R kk p) R := ⟨Nat.le_refl _, Nat.le_refl _, fun _ _ => ⟨rfl, rfl, rfl, rfl⟩, fun _ _ => ⟨rfl, rfl, rfl, rfl, rfl, rfl⟩⟩
theorem clM_wfS {R : MC} {kk p : Nat} (h : wfS R) : wfS (clM R kk p) := h
theorem clM_wfC {R : MC} {kk p : Nat} (h : wfC R) : wfC (clM R kk p) := h
theorem clM_wfP {R : MC} {kk p : Nat} (h : wfP R) : wfP (clM R kk p) := h
theorem cl_SHI {K : KC} {R : MC} {cs kk p : Nat} (hI : IM R cs kk) (hK : RK K R cs kk) : SHI0 K (clM R kk p) cs kk (cl R) := gro_SHI0 cl_gro hI.2.2.1 hI.2.2.2.2.1 (fun _ _ => rfl) (frS_rfl K) hK.2.2.2.2
theorem cl_cl {R : MC} {kk p : Nat} (hp1 : p < 2 ^ 31) (i : Nat) : cl (clM R kk p) i = if i = kk then p else cl R i := by
  show (va_up R.2 49 (upd (R.2 49) kk (nI p)) 49 i).toNatClampNeg = _
  rw [va_up_self]
  by_cases e : i = kk
  · rw [e, pk_us, if_pos rfl, nI_clamp hp1]
  · rw [pk_un e, if_neg e]
theorem cl_RK {K KK : KC} {R : MC} {cs kk p : Nat} (hI : IM R cs kk) (hK : RK K R cs kk) (h8 : kk < 8) (hp1 : p < mP R) (hf : frH0 KK K) (hS : SHI0 KK (clM R kk p) cs (kk + 1) (fun i => if i = kk then p else cl R i)) : RK KK (clM R kk p) cs (kk + 1) := by
  obtain ⟨h1, h2, h3, h4⟩ := RK_fr0 hf hK.1 hK.2.1 hK.2.2.1 hK.2.2.2.1
  have q200 := hI.2.2.1.2.1
  exact ⟨h1, h2, h3, h4, gro_SHI0 (gro_rfl _) (clM_wfP hI.2.2.1) (by omega) (fun i _ => cl_cl (by omega) i) (frS_rfl KK) hS⟩
set_option maxHeartbeats 600000 in
set_option maxRecDepth 100000 in
theorem c_C_clause {K : KC} {M : MC} {o : Nat → Int64} {nc ns : Nat} {R : MC} {d cs kk : Nat} (x : Int32) (hI : IM R cs kk) (hK : RK K R cs kk) (hr1 : nc + 1 ≤ 601024) (hr2 : ns + 6 ≤ 7293034) {post : mj_O → mj_H → Prop} (tn : ¬ sP R x (nI cs) → post (.inr 0) (hp K M o, nc + 1, ns + 6)) (t2 : ∀ p, p < mP R → x = nI p → ps R p = cs → (kk = 8 ∨ ¬ sWP R (cl R) kk + pd R p ≤ 40) → post (.inr 1) (hp K M o, nc + 1, ns + 6)) (k1 : ∀ p, p < mP R → x = nI p → ps R p = cs → kk < 8 → sWP R (cl R) kk + pd R p ≤ 40 → ∀ KK, RK KK (clM R kk p) cs (kk + 1) → REACH (clM R kk p) cs kk → post (.inl (some (.int 1))) (hp KK M o, nc, ns)) (k0 : ∀ p, p < mP R → x = nI p → ps R p = cs → kk < 8 → sWP R (cl R) kk + pd R p ≤ 40 → ∀ KK, RK KK (clM R kk p) cs (kk + 1) → ¬ REACH (clM R kk p) cs kk → post (.inl (some (.int 0))) (hp KK M o, nc, ns)) : mj_G y_C_clause b_C_clause 2 (some .boolean) [] (d + 46) none 0 [(0, .ref 0), (1, .int x)] [] (hp K M o, nc, ns) post := by
  have hKw := hI.2.2.2
  have q12 := hI.1.2.2
  have q200 := hI.2.2.1.2.1
  have hkk8 := hKw.2.1
  have hcs := hKw.2.2.2.1
  obtain ⟨np, pi, efs, erc, epc, esz, -, hw40, -⟩ := hK.2.2.2.2
  have hpd12 : ∀ p, p < mP R → pd R p ≤ 12 := fun p hq => (hI.2.2.1.2.2 p hq).2.2.1.2
  refine G_aload_n 0 d_C_clause_0 rfl ?_
  refine G_iload_n 1 d_C_clause_1 rfl ?_
  refine G_aload_n 0 d_C_clause_2 rfl ?_
  refine G_gt d_C_clause_3 fr_C_28 (rd_C_clauses K M o) ?_
  refine G_gt d_C_clause_6 fr_C_111 (rd_H0_sort K M o) ?_
  rw [show K.1 10 = nI cs from efs]
  refine G_cvT (sP R x (nI cs)) 0 (As := [.int x, .int (nI cs)]) d_C_clause_9 cv_C_94 cw_C_needPatternOf (ob_C K M o) np_C_needPatternOf (Nat.le_of_ble_eq_true rfl) (Nat.le_of_ble_eq_true rfl) rfl (fun post2 k1 k0 => c_C_needPat2 x (nI cs) hK.2.2.2.1 hI.2.2.1 hr1 hr2 k1 k0) (fun u9 => ?_) (fun u9 => tn u9)
  obtain ⟨p, hp1, rfl, hps⟩ := sP_of hI.2.2.1 (by omega) u9
  refine G_aload_n 0 d_C_clause_12 rfl ?_
  refine G_gt d_C_clause_13 fr_C_28 (rd_C_clauses K M o) ?_
  refine G_gt d_C_clause_16 fr_C_114 (rd_H0_rowCount K M o) ?_
  rw [show K.1 11 = nI kk from erc]
  refine G_bipush (v := nI 8) d_C_clause_19 (by decide) ?_
  refine G_iclt 34 d_C_clause_21 (by decide) (fun h21 => ?_) (fun h21 => ?_)
  · have h21 := (nI_ltI (by omega) (by omega)).mp h21
    refine G_aload_n 0 d_C_clause_34 rfl ?_
    refine G_gt d_C_clause_35 fr_C_28 (rd_C_clauses K M o) ?_
    refine G_gt d_C_clause_38 fr_C_119 (rd_H0_size K M o) ?_
    rw [show K.1 13 = nI (sWP R (cl R) kk) from esz]
    refine G_aload_n 0 d_C_clause_41 rfl ?_
    refine G_gt d_C_clause_42 fr_C_19 (rd_C_patterns K M o) ?_
    refine G_gt d_C_clause_45 fr_C_98 (rd_P_size K M o) ?_
    refine G_iload_n 1 d_C_clause_48 rfl ?_
    refine G_ialN d_C_clause_49 (ar_13 K M o) (by decide) (by omega) ?_
    rw [show K.2.1 13 p = nI (pd R p) from (hK.2.2.2.1.2 p hp1).2.2.2.1.trans (hI.2.2.1.2.2 p hp1).2.2.1.1]
    refine G_iadd d_C_clause_50 ?_
    rw [nI_add]
    refine G_bipush (v := nI 40) d_C_clause_51 (by decide) ?_
    refine G_icle 66 d_C_clause_53 (by decide) (fun h53 => ?_) (fun h53 => ?_)
    · have h53 := (nI_leI (by have := hpd12 p hp1; omega) (by omega)).mp h53
      have hw9 : sWP (clM R kk p) (cl R) kk + pd (clM R kk p) p ≤ 40 := by rw [gro_sWP (R' := (clM R kk p)) (R := R) (P' := cl R) (P := cl R) cl_gro kk (fun i hi => ⟨rfl, (hKw.2.2.2.2 i hi).2.1⟩)]; exact h53
      refine G_aload_n 0 d_C_clause_66 rfl ?_
      refine G_gt d_C_clause_67 fr_C_28 (rd_C_clauses K M o) ?_
      refine G_iload_n 1 d_C_clause_70 rfl ?_
      refine G_cvp (fun a9 A9 => ∃ KK : KC, a9 = none ∧ A9 = (hp KK M o, nc, ns) ∧ (frH0 KK K ∧ SHI0 KK (clM R kk p) cs (kk + 1) (fun i => if i = kk then p else cl R i))) (As := [.int (nI p)]) d_C_clause_71 cv_C_123 cw_H_addRow (ob_H0 K M o) np_H_addRow (Nat.le_of_ble_eq_true rfl) (Nat.le_of_ble_eq_true rfl) (fun post2 kq => c_H0_addRow (R := (clM R kk p)) (d := d + 29) (P := cl R) (clM_wfS hI.1) (clM_wfC hI.2.1) (clM_wfP hI.2.2.1) hK.1 hK.2.2.2.1 (cl_SHI hI hK) (by omega) hp1 hps hw9 (fun v9 g9 g8 => kq _ _ ⟨v9, rfl, rfl, g9, g8⟩)) (fun a9 A9 h9 => by obtain ⟨v9, -, rfl, -⟩ := h9; rfl) (fun a9 A9 h9 => ?_)
      obtain ⟨KK, rfl, rfl, g_KK⟩ := h9
      have hRK : RK KK (clM R kk p) cs (kk + 1) := cl_RK hI hK (by omega) hp1 g_KK.1 g_KK.2
      obtain ⟨np2, pi2, hX2, erc2, hnp2, efs2, epc2⟩ := SHI0_X (clM_wfS hI.1) (clM_wfC hI.2.1) (clM_wfP hI.2.2.1) hRK.2.2.2.2
      refine G_aload_n 0 d_C_clause_74 rfl ?_
      refine G_gt d_C_clause_75 fr_C_28 (rd_C_clauses KK M o) ?_
      refine G_aload_n 0 d_C_clause_78 rfl ?_
      refine G_gt d_C_clause_79 fr_C_28 (rd_C_clauses KK M o) ?_
      refine G_gt d_C_clause_82 fr_C_114 (rd_H0_rowCount KK M o) ?_
      rw [show KK.1 11 = nI (kk + 1) from erc2]
      refine G_iconst (v := nI 1) d_C_clause_85 (by decide) ?_
      refine G_isub d_C_clause_86 ?_
      rw [nI_m1]
      refine G_cvB (REACH (clM R kk p) cs kk) (As := [.int (nI kk)]) d_C_clause_87 cv_C_126 cw_H_reaches (ob_H0 KK M o) np_H_reaches (Nat.le_of_ble_eq_true rfl) (Nat.le_of_ble_eq_true rfl) (fun post2 k1 k0 => c_H0_reaches (d := d + 1) (R := (clM R kk p)) (P := cl (clM R kk p)) (i := kk) hX2 erc2 (by omega) hnp2 hRK.2.1 hRK.2.2.1 efs2 epc2 hI.2.2.2.2.2.2.1 (by omega) k1 k0) (fun u87 => ?_) (fun u87 => ?_)
      · exact G_zret d_C_clause_90 rfl rfl (k1 p hp1 rfl hps h21 h53 _ hRK u87)
      · exact G_zret d_C_clause_90 rfl rfl (k0 p hp1 rfl hps h21 h53 _ hRK u87)
    · have h53 : ¬ sWP R (cl R) kk + pd R p ≤ 40 := fun q => h53 ((nI_leI (by have := hpd12 p hp1; omega) (by omega)).mpr q)
      exact G_throw (tx := "too much in the clauses") 1 d_C_clause_56 d_C_clause_59 d_C_clause_60 d_C_clause_62 d_C_clause_65 th_cl1 th_in1 th_ini1 th_s121 mj_tw1 th_ft1 rfl (by omega) (by omega) (by omega) (Nat.le_of_ble_eq_true rfl) (t2 p hp1 rfl hps (Or.inr h53))
  · have h21 : ¬ kk < 8 := fun q => h21 ((nI_ltI (by omega) (by omega)).mpr q)
    exact G_throw (tx := "too many clauses") 1 d_C_clause_24 d_C_clause_27 d_C_clause_28 d_C_clause_30 d_C_clause_33 th_cl1 th_in1 th_ini1 th_s117 mj_tw1 th_ft1 rfl (by omega) (by omega) (by omega) (Nat.le_of_ble_eq_true rfl) (t2 p hp1 rfl hps (Or.inl (by omega)))
