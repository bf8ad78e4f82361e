/-! layPart -/
theorem nosuf1 {k : Nat} {r : List Nat} : ¬ (k :: r) <:+ r := fun z => by
  have := z.length_le
  simp at this; omega
theorem nosuf2 {k k' : Nat} {r x : List Nat} (h : (k :: r) <:+ x) (hk : k ≠ k') : ¬ (k' :: r) <:+ x := fun z => by
  have := List.suffix_of_suffix_length_le h z (Nat.le_refl _)
  have := this.eq_of_length rfl
  exact hk (List.cons.inj this).1
theorem LAY_no {R : MC} {s0 : Nat} {L : List (List Nat × Int)} {w j c k j3 : Nat} {r : List Nat} {h g h3 : SH} (A : LAY R s0 L w r j h g) (B : PB R s0 g h3 j c k j3) (hL : ∀ e ∈ L, ¬ (k :: r) <:+ e.1) : ∀ x, lB (zA h3) x = true → ¬ (k :: r) <:+ zP h3 x := by
  intro x hx z
  rw [B.2.2.1] at hx
  have hg := A.2.2.2.1 x hx
  rw [(B.1.2 x hg).2.2.2.2] at z
  exact hL _ (A.2.2.2.2.2.1 x hx ((List.suffix_cons k r).trans z)).1 z
theorem LAY_nil {R : MC} {s0 : Nat} {L : List (List Nat × Int)} {w j : Nat} {r : List Nat} {h g : SH} (A : LAY R s0 L w r j h g) : LAY R s0 (L ++ []) (w + 0) r j h g := by
  rw [List.append_nil]; exact A
theorem pd_pos {R : MC} {p : Nat} (hP : wfP R) (hp1 : p < mP R) (hk : 1 ≤ pk R p) : 1 ≤ pd R p := by
  obtain ⟨⟨-, b43⟩, -, -, -, w5, w6⟩ := hP.2.2 p hp1
  rcases (show pk R p = 1 ∨ pk R p = 2 by omega) with h | h
  · have := (w5 h).2; omega
  · have := (w6 h).2.2.2; omega
theorem askL_0 {R : MC} {f p : Nat} {r : List Nat} (h : pk R p = 0) : askL R f p r = [] := by
  cases f with
  | zero => rfl
  | succ f => exact askL_any h
set_option maxHeartbeats 600000 in
set_option maxRecDepth 100000 in
theorem c_H0_lay {K : KC} {M : MC} {o : Nat → Int64} {nc ns : Nat} {R : MC} {s0 i : Nat} (hS : wfS R) (hC : wfC R) (hP : wfP R) (hK : rS K R) (hT : rP K R) (hi : i < 8) : ∀ (f p d j dep : Nat) (h : SH) {post : mj_O → mj_H → Prop}, p < mP R → 1 ≤ pk R p → pd R p < f → pd R p + 2 ≤ d → 1 ≤ dep → dep + pd R p ≤ 13 → PLW R s0 h → bOk h → j < zN h → zS h j = nI (ps R p) → (∀ x, lB (zA h) x = true → ¬ zP h j <:+ zP h x) → zN h + pd R p ≤ 40 + 1 → (∀ h', LAY R s0 (askL R f p (zP h j)) (pd R p) (zP h j) j h h' → post (.inl none) (hp (st0 K i h') M o, nc, ns)) → mj_G y_H_layPart b_H_layPart 8 none [] d none 0 [(0, .ref 14), (1, .int (nI p)), (2, .int (nI j)), (3, .int (nI i)), (4, .int (nI dep))] [] (hp (st0 K i h) M o, nc, ns) post := by
  have q12 := hS.2.2
  have q30 := hC.2.1
  have q200 := hP.2.1
  intro f
  induction f with
  | zero => intro p d j dep h post h1 h2 h3; omega
  | succ f ih =>
    intro p d j dep h post hp1 hk1 hf hd hdep1 hdep2 hPL hb hj hs hno hN0 k
    obtain ⟨⟨e43, b43⟩, ⟨e44, b44⟩, ⟨e48, b48⟩, w4, w5, w6⟩ := hP.2.2 p hp1
    obtain ⟨t8, t9, t10, t13, t1112⟩ := hT.2 p hp1
    have hpp := pd_pos hP hp1 hk1
    obtain ⟨e, rfl⟩ : ∃ e, d = e + 2 := ⟨d - 2, by omega⟩
    rcases (show pk R p = 1 ∨ pk R p = 2 by omega) with hk | hk
    · refine G_aload_n 0 d_H_layPart_0 rfl ?_
      refine G_gt d_H_layPart_1 fr_H_15 (rd_H0_patterns (st0 K i h) M o) ?_
      refine G_gt d_H_layPart_4 fr_H_66 (rd_P_kind (st0 K i h) M o) ?_
      refine G_iload_n 1 d_H_layPart_7 rfl ?_
      refine G_ialN d_H_layPart_8 (ar_8 (st0 K i h) M o) (by decide) (by omega) ?_
      rw [show (st0 K i h).2.1 8 p = nI 1 from (congrFun (st0_o (by omega)) _).trans (t8.trans (by rw [e43, hk]))]
      refine G_ifeq 19 d_H_layPart_9 (by decide) (fun h9 => False.elim (absurd h9 (by decide))) (fun h9 => ?_)
      refine G_iload 4 d_H_layPart_12 rfl ?_
      refine G_bipush (v := nI 12) d_H_layPart_14 (by decide) ?_
      refine G_icle 20 d_H_layPart_16 (by decide) (fun h16 => ?_) (fun h16 => False.elim (h16 (nI_le (by omega) (by omega))))
      refine G_aload_n 0 d_H_layPart_20 rfl ?_
      refine G_gt d_H_layPart_21 fr_H_19 (rd_H0_asked (st0 K i h) M o) ?_
      refine G_iload_n 3 d_H_layPart_24 rfl ?_
      refine G_dup2 d_H_layPart_25 rfl rfl ?_
      refine G_lalN d_H_layPart_26 (ar_15 (st0 K i h) M o) (by decide) (by omega) ?_
      rw [st0_a]
      refine G_lconst (v := 1) d_H_layPart_27 (by decide) ?_
      refine G_iload_n 2 d_H_layPart_28 rfl ?_
      refine G_lshl d_H_layPart_29 ?_
      refine G_lor d_H_layPart_30 ?_
      refine G_lasN d_H_layPart_31 (ar_15 (st0 K i h) M o) (by decide) (by omega) (aw_15 (st0 K i h) M o i ((zA h) ||| (1 <<< ((nI j).toInt64 &&& 63)))) ?_
      rw [show kl (st0 K i h) 15 i ((zA h) ||| (1 <<< ((nI j).toInt64 &&& 63))) = st0 K i (shA h (zA h ||| (1 <<< ((nI j).toInt64 &&& 63)))) from st0_wA]
      refine G_aload_n 0 d_H_layPart_32 rfl ?_
      refine G_gt d_H_layPart_33 fr_H_25 (rd_H0_asks (st0 K i (shA h (zA h ||| (1 <<< ((nI j).toInt64 &&& 63))))) M o) ?_
      refine G_iload_n 3 d_H_layPart_36 rfl ?_
      refine G_aalN (r := 17 + i) d_H_layPart_37 (ar_16 (st0 K i (shA h (zA h ||| (1 <<< ((nI j).toInt64 &&& 63))))) M o) (by decide) (by omega) (if_pos (by omega)) ?_
      refine G_iload_n 2 d_H_layPart_38 rfl ?_
      refine G_aload_n 0 d_H_layPart_39 rfl ?_
      refine G_gt d_H_layPart_40 fr_H_15 (rd_H0_patterns (st0 K i (shA h (zA h ||| (1 <<< ((nI j).toInt64 &&& 63))))) M o) ?_
      refine G_gt d_H_layPart_43 fr_H_69 (rd_P_top (st0 K i (shA h (zA h ||| (1 <<< ((nI j).toInt64 &&& 63))))) M o) ?_
      refine G_iload_n 1 d_H_layPart_46 rfl ?_
      refine G_ialN d_H_layPart_47 (ar_10 (st0 K i (shA h (zA h ||| (1 <<< ((nI j).toInt64 &&& 63))))) M o) (by decide) (by omega) ?_
      rw [show (st0 K i (shA h (zA h ||| (1 <<< ((nI j).toInt64 &&& 63))))).2.1 10 p = R.2 45 p from (congrFun (st0_o (by omega)) _).trans (t10)]
      refine G_iasN d_H_layPart_48 (arr_17 (st0 K i (shA h (zA h ||| (1 <<< ((nI j).toInt64 &&& 63))))) M o (by omega)) (by decide) (by omega) (awr_17 (st0 K i (shA h (zA h ||| (1 <<< ((nI j).toInt64 &&& 63))))) M o (by omega) j (R.2 45 p)) ?_
      rw [show ka (st0 K i (shA h (zA h ||| (1 <<< ((nI j).toInt64 &&& 63))))) (17 + i) j (R.2 45 p) = st0 K i (setJ h j (R.2 45 p)) from st0_wB hi]
      refine G_aload_n 0 d_H_layPart_49 rfl ?_
      refine G_gt d_H_layPart_50 fr_H_15 (rd_H0_patterns (st0 K i (setJ h j (R.2 45 p))) M o) ?_
      refine G_gt d_H_layPart_53 fr_H_66 (rd_P_kind (st0 K i (setJ h j (R.2 45 p))) M o) ?_
      refine G_iload_n 1 d_H_layPart_56 rfl ?_
      refine G_ialN d_H_layPart_57 (ar_8 (st0 K i (setJ h j (R.2 45 p))) M o) (by decide) (by omega) ?_
      rw [show (st0 K i (setJ h j (R.2 45 p))).2.1 8 p = nI 1 from (congrFun (st0_o (by omega)) _).trans (t8.trans (by rw [e43, hk]))]
      refine G_iconst (v := nI 1) d_H_layPart_58 (by decide) ?_
      refine G_icne 63 d_H_layPart_59 (by decide) (fun h => absurd h (by decide)) (fun _ => ?_)
      exact G_ret d_H_layPart_62 rfl (k _ (by rw [askL_num hk, (w5 hk).2]; exact LAY_1 hPL hb hj (by omega) hno (if_pos (hs.trans (by rw [(w5 hk).1])))))
    · obtain ⟨⟨e45, b45, s45⟩, mF0, mG0, dd⟩ := w6 hk
      have t1112 := t1112 hk
      have hcs1 := (hC.2.2 (pn R p) b45).1.2
      obtain ⟨e40, b40⟩ := (hC.2.2 (pn R p) b45).2.1
      refine G_aload_n 0 d_H_layPart_0 rfl ?_
      refine G_gt d_H_layPart_1 fr_H_15 (rd_H0_patterns (st0 K i h) M o) ?_
      refine G_gt d_H_layPart_4 fr_H_66 (rd_P_kind (st0 K i h) M o) ?_
      refine G_iload_n 1 d_H_layPart_7 rfl ?_
      refine G_ialN d_H_layPart_8 (ar_8 (st0 K i h) M o) (by decide) (by omega) ?_
      rw [show (st0 K i h).2.1 8 p = nI 2 from (congrFun (st0_o (by omega)) _).trans (t8.trans (by rw [e43, hk]))]
      refine G_ifeq 19 d_H_layPart_9 (by decide) (fun h9 => False.elim (absurd h9 (by decide))) (fun h9 => ?_)
      refine G_iload 4 d_H_layPart_12 rfl ?_
      refine G_bipush (v := nI 12) d_H_layPart_14 (by decide) ?_
      refine G_icle 20 d_H_layPart_16 (by decide) (fun h16 => ?_) (fun h16 => False.elim (h16 (nI_le (by omega) (by omega))))
      refine G_aload_n 0 d_H_layPart_20 rfl ?_
      refine G_gt d_H_layPart_21 fr_H_19 (rd_H0_asked (st0 K i h) M o) ?_
      refine G_iload_n 3 d_H_layPart_24 rfl ?_
      refine G_dup2 d_H_layPart_25 rfl rfl ?_
      refine G_lalN d_H_layPart_26 (ar_15 (st0 K i h) M o) (by decide) (by omega) ?_
      rw [st0_a]
      refine G_lconst (v := 1) d_H_layPart_27 (by decide) ?_
      refine G_iload_n 2 d_H_layPart_28 rfl ?_
      refine G_lshl d_H_layPart_29 ?_
      refine G_lor d_H_layPart_30 ?_
      refine G_lasN d_H_layPart_31 (ar_15 (st0 K i h) M o) (by decide) (by omega) (aw_15 (st0 K i h) M o i ((zA h) ||| (1 <<< ((nI j).toInt64 &&& 63)))) ?_
      rw [show kl (st0 K i h) 15 i ((zA h) ||| (1 <<< ((nI j).toInt64 &&& 63))) = st0 K i (shA h (zA h ||| (1 <<< ((nI j).toInt64 &&& 63)))) from st0_wA]
      refine G_aload_n 0 d_H_layPart_32 rfl ?_
      refine G_gt d_H_layPart_33 fr_H_25 (rd_H0_asks (st0 K i (shA h (zA h ||| (1 <<< ((nI j).toInt64 &&& 63))))) M o) ?_
      refine G_iload_n 3 d_H_layPart_36 rfl ?_
      refine G_aalN (r := 17 + i) d_H_layPart_37 (ar_16 (st0 K i (shA h (zA h ||| (1 <<< ((nI j).toInt64 &&& 63))))) M o) (by decide) (by omega) (if_pos (by omega)) ?_
      refine G_iload_n 2 d_H_layPart_38 rfl ?_
      refine G_aload_n 0 d_H_layPart_39 rfl ?_
      refine G_gt d_H_layPart_40 fr_H_15 (rd_H0_patterns (st0 K i (shA h (zA h ||| (1 <<< ((nI j).toInt64 &&& 63))))) M o) ?_
      refine G_gt d_H_layPart_43 fr_H_69 (rd_P_top (st0 K i (shA h (zA h ||| (1 <<< ((nI j).toInt64 &&& 63))))) M o) ?_
      refine G_iload_n 1 d_H_layPart_46 rfl ?_
      refine G_ialN d_H_layPart_47 (ar_10 (st0 K i (shA h (zA h ||| (1 <<< ((nI j).toInt64 &&& 63))))) M o) (by decide) (by omega) ?_
      rw [show (st0 K i (shA h (zA h ||| (1 <<< ((nI j).toInt64 &&& 63))))).2.1 10 p = nI (pn R p) from (congrFun (st0_o (by omega)) _).trans (t10.trans e45)]
      refine G_iasN d_H_layPart_48 (arr_17 (st0 K i (shA h (zA h ||| (1 <<< ((nI j).toInt64 &&& 63))))) M o (by omega)) (by decide) (by omega) (awr_17 (st0 K i (shA h (zA h ||| (1 <<< ((nI j).toInt64 &&& 63))))) M o (by omega) j (nI (pn R p))) ?_
      rw [show ka (st0 K i (shA h (zA h ||| (1 <<< ((nI j).toInt64 &&& 63))))) (17 + i) j (nI (pn R p)) = st0 K i (setJ h j (nI (pn R p))) from st0_wB hi]
      refine G_aload_n 0 d_H_layPart_49 rfl ?_
      refine G_gt d_H_layPart_50 fr_H_15 (rd_H0_patterns (st0 K i (setJ h j (nI (pn R p)))) M o) ?_
      refine G_gt d_H_layPart_53 fr_H_66 (rd_P_kind (st0 K i (setJ h j (nI (pn R p)))) M o) ?_
      refine G_iload_n 1 d_H_layPart_56 rfl ?_
      refine G_ialN d_H_layPart_57 (ar_8 (st0 K i (setJ h j (nI (pn R p)))) M o) (by decide) (by omega) ?_
      rw [show (st0 K i (setJ h j (nI (pn R p)))).2.1 8 p = nI 2 from (congrFun (st0_o (by omega)) _).trans (t8.trans (by rw [e43, hk]))]
      refine G_iconst (v := nI 1) d_H_layPart_58 (by decide) ?_
      refine G_icne 63 d_H_layPart_59 (by decide) (fun _ => ?_) (fun h => absurd h (by decide))
      refine G_aload_n 0 d_H_layPart_63 rfl ?_
      refine G_gt d_H_layPart_64 fr_H_15 (rd_H0_patterns (st0 K i (setJ h j (nI (pn R p)))) M o) ?_
      refine G_gt d_H_layPart_67 fr_H_69 (rd_P_top (st0 K i (setJ h j (nI (pn R p)))) M o) ?_
      refine G_iload_n 1 d_H_layPart_70 rfl ?_
      refine G_ialN d_H_layPart_71 (ar_10 (st0 K i (setJ h j (nI (pn R p)))) M o) (by decide) (by omega) ?_
      rw [show (st0 K i (setJ h j (nI (pn R p)))).2.1 10 p = nI (pn R p) from (congrFun (st0_o (by omega)) _).trans (t10.trans e45)]
      refine G_istore (ls' := [(5, .int (nI (pn R p))), (0, .ref 14), (1, .int (nI p)), (2, .int (nI j)), (3, .int (nI i)), (4, .int (nI dep))]) d_H_layPart_72 (by decide) rfl ?_
      refine G_iconst (v := nI 0) d_H_layPart_74 (by decide) ?_
      refine G_istore (ls' := [(6, .int (nI 0)), (5, .int (nI (pn R p))), (0, .ref 14), (1, .int (nI p)), (2, .int (nI j)), (3, .int (nI i)), (4, .int (nI dep))]) d_H_layPart_75 (by decide) rfl ?_
      have A0 : LAY R s0 [((zP h j), lab (pn R p))] 1 (zP h j) j h (setJ h j (nI (pn R p))) := LAY_1 hPL hb hj (by omega) hno (by rw [if_neg (by rw [hs]; exact fun z => absurd ((nI_eq (by omega) (by omega)).mp z) (by omega)), nI_toInt (by omega)]; rfl)
      have Ea0 : lB (zA (setJ h j (nI (pn R p)))) j = true := by
        show lB (zA h ||| 1 <<< ((nI j).toInt64 &&& 63)) j = true
        rw [lB_or, lB_one (by omega), decide_eq_true rfl, Bool.or_true]
      have Eb0 : zB (setJ h j (nI (pn R p))) j = nI (pn R p) := pk_us
      generalize setJ h j (nI (pn R p)) = g0 at A0 Ea0 Eb0
      refine G_sub [0, 1, 2, 3, 4, 5, 6] rfl ?_
      rcases (show cP R (pn R p) = 0 ∨ cP R (pn R p) = 1 ∨ cP R (pn R p) = 2 by omega) with hn | hn | hn
      · have hdd : pd R p = 1 := by rw [dd, if_neg (by omega), if_neg (by omega)]
        refine G_iload 0 d_H_layPart_77 rfl ?_
        refine G_aload_n 2 d_H_layPart_79 rfl ?_
        refine G_gt d_H_layPart_80 fr_H_9 (rd_H0_sorts (st0 K i g0) M o) ?_
        refine G_gt d_H_layPart_83 fr_H_72 (rd_S_partCount (st0 K i g0) M o) ?_
        refine G_iload 1 d_H_layPart_86 rfl ?_
        refine G_ialN d_H_layPart_88 (ar_4 (st0 K i g0) M o) (by decide) (by omega) ?_
        rw [show (st0 K i g0).2.1 4 (pn R p) = nI 0 from (congrFun (st0_o (by omega)) _).trans ((hK.2.2 _ b45).2.1.trans (by rw [e40, hn]))]
        refine G_icge 143 d_H_layPart_89 (by decide) (fun _ => ?_) (fun h => absurd h (by decide))
        exact G_ret d_H_layPart_143 rfl (k _ (by rw [askL_made hk, if_neg (by omega), if_neg (by omega), hdd]; exact A0))
      · have hdd : pd R p = (1 + pd R (pf R p)) := by rw [dd, if_pos (by omega), if_neg (by omega)]; rfl
        refine G_iload 0 d_H_layPart_77 rfl ?_
        refine G_aload_n 2 d_H_layPart_79 rfl ?_
        refine G_gt d_H_layPart_80 fr_H_9 (rd_H0_sorts (st0 K i g0) M o) ?_
        refine G_gt d_H_layPart_83 fr_H_72 (rd_S_partCount (st0 K i g0) M o) ?_
        refine G_iload 1 d_H_layPart_86 rfl ?_
        refine G_ialN d_H_layPart_88 (ar_4 (st0 K i g0) M o) (by decide) (by omega) ?_
        rw [show (st0 K i g0).2.1 4 (pn R p) = nI 1 from (congrFun (st0_o (by omega)) _).trans ((hK.2.2 _ b45).2.1.trans (by rw [e40, hn]))]
        refine G_icge 143 d_H_layPart_89 (by decide) (fun h => absurd h (by decide)) (fun _ => ?_)
        have mF := mF0 (by omega)
        have hqm : (pf R p) < mP R := by omega
        obtain ⟨⟨q43, c43⟩, -⟩ := hP.2.2 (pf R p) hqm
        have a20 := A0.2.1
        refine G_aload_n 2 d_H_layPart_92 rfl ?_
        refine G_gt d_H_layPart_93 fr_H_15 (rd_H0_patterns (st0 K i g0) M o) ?_
        refine G_iload_n 3 d_H_layPart_96 rfl ?_
        refine G_iload 0 d_H_layPart_97 rfl ?_
        refine G_cv1 (some (.int (nI (pf R p)))) (hp (st0 K i g0) M o, nc, ns) (As := [.int (nI p), .int (nI 0)]) d_H_layPart_99 cv_H_77 cw_P_partOf (ob_P (st0 K i g0) M o) np_P_partOf (Nat.le_of_ble_eq_true rfl) (Nat.le_of_ble_eq_true rfl) (fun post2 k2 => c_P_partOf0 (by omega) ((congrFun (st0_o (by omega)) _).trans (t1112.1.trans mF.1)) k2) rfl ?_
        refine G_istore (ls' := [(7, .int (nI (pf R p))), (6, .int (nI 0)), (5, .int (nI (pn R p))), (0, .ref 14), (1, .int (nI p)), (2, .int (nI j)), (3, .int (nI i)), (4, .int (nI dep))]) d_H_layPart_102 (by decide) rfl ?_
        have key0 : ∀ g : SH, LAY R s0 ([((zP h j), lab (pn R p))] ++ askL R f (pf R p) (0 :: (zP h j))) (1 + pd R (pf R p)) (zP h j) j h g → lB (zA g) j = true → zB g j = nI (pn R p) → mj_G y_H_layPart b_H_layPart 8 none [] (e + 2) none 137 [(6, .int (nI 0)), (5, .int (nI (pn R p))), (0, .ref 14), (1, .int (nI p)), (2, .int (nI j)), (3, .int (nI i)), (4, .int (nI dep))] [] (hp (st0 K i g) M o, nc, ns) post := by
          intro g1 A1 Ea1 Eb1
          refine G_iinc 0 (v := nI 1) (ls' := [(6, .int (nI 1)), (5, .int (nI (pn R p))), (0, .ref 14), (1, .int (nI p)), (2, .int (nI j)), (3, .int (nI i)), (4, .int (nI dep))]) d_H_layPart_137 rfl (nI_1 0) (by decide) rfl ?_
          refine G_goto 77 d_H_layPart_140 (by decide) ?_
          refine G_iload 0 d_H_layPart_77 rfl ?_
          refine G_aload_n 2 d_H_layPart_79 rfl ?_
          refine G_gt d_H_layPart_80 fr_H_9 (rd_H0_sorts (st0 K i g1) M o) ?_
          refine G_gt d_H_layPart_83 fr_H_72 (rd_S_partCount (st0 K i g1) M o) ?_
          refine G_iload 1 d_H_layPart_86 rfl ?_
          refine G_ialN d_H_layPart_88 (ar_4 (st0 K i g1) M o) (by decide) (by omega) ?_
          rw [show (st0 K i g1).2.1 4 (pn R p) = nI 1 from (congrFun (st0_o (by omega)) _).trans ((hK.2.2 _ b45).2.1.trans (by rw [e40, hn]))]
          refine G_icge 143 d_H_layPart_89 (by decide) (fun _ => ?_) (fun h => absurd h (by decide))
          exact G_ret d_H_layPart_143 rfl (k _ (by rw [askL_made hk, if_pos (by omega), if_neg (by omega), List.append_nil, hdd]; exact A1))
        refine G_aload_n 3 d_H_layPart_104 rfl ?_
        refine G_gt d_H_layPart_105 fr_H_15 (rd_H0_patterns (st0 K i g0) M o) ?_
        refine G_gt d_H_layPart_108 fr_H_66 (rd_P_kind (st0 K i g0) M o) ?_
        refine G_iload 0 d_H_layPart_111 rfl ?_
        refine G_ialN d_H_layPart_113 (ar_8 (st0 K i g0) M o) (by decide) (by omega) ?_
        rw [show (st0 K i g0).2.1 8 (pf R p) = nI (pk R (pf R p)) from (congrFun (st0_o (by omega)) _).trans ((hT.2 (pf R p) hqm).1.trans q43)]
        refine G_ifeq 137 d_H_layPart_114 (by decide) (fun h114 => ?_) (fun h114 => ?_)
        · have hq0 : pk R (pf R p) = 0 := (nI_eq (by omega) (by omega)).mp (show nI (pk R (pf R p)) = nI 0 from h114)
          exact G_sub [1, 2, 3, 4, 5, 6, 7] rfl (key0 g0 (by have z := (hP.2.2 (pf R p) hqm).2.2.2.1 hq0; rw [show askL R f (pf R p) (0 :: (zP h j)) = [] from askL_0 hq0, z]; exact LAY_nil A0) Ea0 Eb0)
        · have hq1 : 1 ≤ pk R (pf R p) := by
            rcases Nat.eq_zero_or_pos (pk R (pf R p)) with z | z
            · exact absurd (show nI (pk R (pf R p)) = 0 by rw [z]; rfl) h114
            · exact z
          have hq2 := pd_pos hP hqm hq1
          refine G_aload_n 3 d_H_layPart_117 rfl ?_
          refine G_iload 0 d_H_layPart_118 rfl ?_
          refine G_aload_n 3 d_H_layPart_120 rfl ?_
          refine G_iload_n 5 d_H_layPart_121 rfl ?_
          refine G_iload 2 d_H_layPart_122 rfl ?_
          refine G_iload 1 d_H_layPart_124 rfl ?_
          refine G_cvp (fun a9 A9 => ∃ (h3 : SH) (j3 : Nat), PB R s0 g0 h3 j (pn R p) 0 j3 ∧ a9 = some (.int (nI j3)) ∧ A9 = (hp (st0 K i h3) M o, nc, ns)) (As := [.int (nI j), .int (nI (pn R p)), .int (nI 0)]) d_H_layPart_126 cv_H_81 cw_H_placeBelow (ob_H0 (st0 K i g0) M o) np_H_placeBelow (Nat.le_of_ble_eq_true rfl) (Nat.le_of_ble_eq_true rfl) (fun post2 kq => c_H0_place hC hK A0.2.2.1 (by omega) (Nat.lt_of_lt_of_le hj A0.1.1) b45 (by omega) (by rw [(A0.1.2 j hj).1, hs, s45]) (fun h3 j3 hB => kq _ _ ⟨h3, j3, hB, rfl, rfl⟩)) (fun a9 A9 h9 => by obtain ⟨h3, j3, -, -, rfl⟩ := h9; rfl) (fun a9 A9 h9 => ?_)
          obtain ⟨h3, j3, hB, rfl, rfl⟩ := h9
          refine G_iload_n 6 d_H_layPart_129 rfl ?_
          refine G_iload 7 d_H_layPart_130 rfl ?_
          refine G_iconst (v := 1) d_H_layPart_132 (by decide) ?_
          refine G_iadd d_H_layPart_133 ?_
          rw [nI_1]
          obtain ⟨B1, B2, B3, B4, B5, B6, B7, B8, B9, B10, B11⟩ := id hB
          rw [(A0.1.2 j hj).2.2.2.2] at B9
          have hno3 := LAY_no A0 hB (fun e he => by rw [List.mem_singleton.mp he]; exact nosuf1)
          refine G_cvp (fun a9 A9 => ∃ h4 : SH, LAY R s0 (askL R f (pf R p) (zP h3 j3)) (pd R (pf R p)) (zP h3 j3) j3 h3 h4 ∧ a9 = none ∧ A9 = (hp (st0 K i h4) M o, nc, ns)) (As := [.int (nI (pf R p)), .int (nI j3), .int (nI i), .int (nI (dep + 1))]) d_H_layPart_134 cv_H_58 cw_H_layPart (ob_H0 (st0 K i h3) M o) np_H_layPart (Nat.le_of_ble_eq_true rfl) (Nat.le_of_ble_eq_true rfl) (fun post2 kq => ih (pf R p) (e + 1) j3 (dep + 1) h3 (by omega) (by omega) (by omega) (by omega) (by omega) (by omega) B5 (fun x hx => by rw [B3] at hx; exact Nat.lt_of_lt_of_le (A0.2.2.2.1 x hx) B1.1) B6.2 (by rw [B10, mF.2.2]; rfl) (by rw [B9]; exact hno3) (by omega) (fun h4 hA => kq _ _ ⟨h4, hA, rfl, rfl⟩)) (fun a9 A9 h9 => by obtain ⟨h4, -, -, rfl⟩ := h9; rfl) (fun a9 A9 h9 => ?_)
          obtain ⟨h4, hA4, rfl, rfl⟩ := h9
          rw [B9] at hA4
          obtain ⟨z1, z2, z3⟩ := LAY_2 A0 hj rfl Ea0 Eb0 B1 B2 B3 B4 B6 B7 B8 B9 B11 hA4 (fun e he => by rw [List.mem_singleton.mp he]; exact nosuf1) (fun e he => askL_suf _ _ _ _ he)
          exact G_sub [1, 2, 3, 4, 5, 6, 7] rfl (key0 h4 z1 z2 z3)
      · have hdd : pd R p = (1 + pd R (pf R p) + pd R (pg R p)) := by rw [dd, if_pos (by omega), if_pos (by omega)]
        refine G_iload 0 d_H_layPart_77 rfl ?_
        refine G_aload_n 2 d_H_layPart_79 rfl ?_
        refine G_gt d_H_layPart_80 fr_H_9 (rd_H0_sorts (st0 K i g0) M o) ?_
        refine G_gt d_H_layPart_83 fr_H_72 (rd_S_partCount (st0 K i g0) M o) ?_
        refine G_iload 1 d_H_layPart_86 rfl ?_
        refine G_ialN d_H_layPart_88 (ar_4 (st0 K i g0) M o) (by decide) (by omega) ?_
        rw [show (st0 K i g0).2.1 4 (pn R p) = nI 2 from (congrFun (st0_o (by omega)) _).trans ((hK.2.2 _ b45).2.1.trans (by rw [e40, hn]))]
        refine G_icge 143 d_H_layPart_89 (by decide) (fun h => absurd h (by decide)) (fun _ => ?_)
        have mF := mF0 (by omega)
        have hqm : (pf R p) < mP R := by omega
        obtain ⟨⟨q43, c43⟩, -⟩ := hP.2.2 (pf R p) hqm
        have a20 := A0.2.1
        refine G_aload_n 2 d_H_layPart_92 rfl ?_
        refine G_gt d_H_layPart_93 fr_H_15 (rd_H0_patterns (st0 K i g0) M o) ?_
        refine G_iload_n 3 d_H_layPart_96 rfl ?_
        refine G_iload 0 d_H_layPart_97 rfl ?_
        refine G_cv1 (some (.int (nI (pf R p)))) (hp (st0 K i g0) M o, nc, ns) (As := [.int (nI p), .int (nI 0)]) d_H_layPart_99 cv_H_77 cw_P_partOf (ob_P (st0 K i g0) M o) np_P_partOf (Nat.le_of_ble_eq_true rfl) (Nat.le_of_ble_eq_true rfl) (fun post2 k2 => c_P_partOf0 (by omega) ((congrFun (st0_o (by omega)) _).trans (t1112.1.trans mF.1)) k2) rfl ?_
        refine G_istore (ls' := [(7, .int (nI (pf R p))), (6, .int (nI 0)), (5, .int (nI (pn R p))), (0, .ref 14), (1, .int (nI p)), (2, .int (nI j)), (3, .int (nI i)), (4, .int (nI dep))]) d_H_layPart_102 (by decide) rfl ?_
        have key0 : ∀ g : SH, LAY R s0 ([((zP h j), lab (pn R p))] ++ askL R f (pf R p) (0 :: (zP h j))) (1 + pd R (pf R p)) (zP h j) j h g → lB (zA g) j = true → zB g j = nI (pn R p) → mj_G y_H_layPart b_H_layPart 8 none [] (e + 2) none 137 [(6, .int (nI 0)), (5, .int (nI (pn R p))), (0, .ref 14), (1, .int (nI p)), (2, .int (nI j)), (3, .int (nI i)), (4, .int (nI dep))] [] (hp (st0 K i g) M o, nc, ns) post := by
          intro g1 A1 Ea1 Eb1
          refine G_iinc 0 (v := nI 1) (ls' := [(6, .int (nI 1)), (5, .int (nI (pn R p))), (0, .ref 14), (1, .int (nI p)), (2, .int (nI j)), (3, .int (nI i)), (4, .int (nI dep))]) d_H_layPart_137 rfl (nI_1 0) (by decide) rfl ?_
          refine G_goto 77 d_H_layPart_140 (by decide) ?_
          refine G_iload 0 d_H_layPart_77 rfl ?_
          refine G_aload_n 2 d_H_layPart_79 rfl ?_
          refine G_gt d_H_layPart_80 fr_H_9 (rd_H0_sorts (st0 K i g1) M o) ?_
          refine G_gt d_H_layPart_83 fr_H_72 (rd_S_partCount (st0 K i g1) M o) ?_
          refine G_iload 1 d_H_layPart_86 rfl ?_
          refine G_ialN d_H_layPart_88 (ar_4 (st0 K i g1) M o) (by decide) (by omega) ?_
          rw [show (st0 K i g1).2.1 4 (pn R p) = nI 2 from (congrFun (st0_o (by omega)) _).trans ((hK.2.2 _ b45).2.1.trans (by rw [e40, hn]))]
          refine G_icge 143 d_H_layPart_89 (by decide) (fun h => absurd h (by decide)) (fun _ => ?_)
          have mG := mG0 (by omega)
          have hqm : (pg R p) < mP R := by omega
          obtain ⟨⟨q43, c43⟩, -⟩ := hP.2.2 (pg R p) hqm
          have a21 := A1.2.1
          refine G_aload_n 2 d_H_layPart_92 rfl ?_
          refine G_gt d_H_layPart_93 fr_H_15 (rd_H0_patterns (st0 K i g1) M o) ?_
          refine G_iload_n 3 d_H_layPart_96 rfl ?_
          refine G_iload 0 d_H_layPart_97 rfl ?_
          refine G_cv1 (some (.int (nI (pg R p)))) (hp (st0 K i g1) M o, nc, ns) (As := [.int (nI p), .int (nI 1)]) d_H_layPart_99 cv_H_77 cw_P_partOf (ob_P (st0 K i g1) M o) np_P_partOf (Nat.le_of_ble_eq_true rfl) (Nat.le_of_ble_eq_true rfl) (fun post2 k2 => c_P_partOf1 (by omega) ((congrFun (st0_o (by omega)) _).trans (t1112.2.trans mG.1)) k2) rfl ?_
          refine G_istore (ls' := [(7, .int (nI (pg R p))), (6, .int (nI 1)), (5, .int (nI (pn R p))), (0, .ref 14), (1, .int (nI p)), (2, .int (nI j)), (3, .int (nI i)), (4, .int (nI dep))]) d_H_layPart_102 (by decide) rfl ?_
          have key1 : ∀ g : SH, LAY R s0 (([((zP h j), lab (pn R p))] ++ askL R f (pf R p) (0 :: (zP h j))) ++ askL R f (pg R p) (1 :: (zP h j))) ((1 + pd R (pf R p)) + pd R (pg R p)) (zP h j) j h g → lB (zA g) j = true → zB g j = nI (pn R p) → mj_G y_H_layPart b_H_layPart 8 none [] (e + 2) none 137 [(6, .int (nI 1)), (5, .int (nI (pn R p))), (0, .ref 14), (1, .int (nI p)), (2, .int (nI j)), (3, .int (nI i)), (4, .int (nI dep))] [] (hp (st0 K i g) M o, nc, ns) post := by
            intro g2 A2 Ea2 Eb2
            refine G_iinc 0 (v := nI 2) (ls' := [(6, .int (nI 2)), (5, .int (nI (pn R p))), (0, .ref 14), (1, .int (nI p)), (2, .int (nI j)), (3, .int (nI i)), (4, .int (nI dep))]) d_H_layPart_137 rfl (nI_1 1) (by decide) rfl ?_
            refine G_goto 77 d_H_layPart_140 (by decide) ?_
            refine G_iload 0 d_H_layPart_77 rfl ?_
            refine G_aload_n 2 d_H_layPart_79 rfl ?_
            refine G_gt d_H_layPart_80 fr_H_9 (rd_H0_sorts (st0 K i g2) M o) ?_
            refine G_gt d_H_layPart_83 fr_H_72 (rd_S_partCount (st0 K i g2) M o) ?_
            refine G_iload 1 d_H_layPart_86 rfl ?_
            refine G_ialN d_H_layPart_88 (ar_4 (st0 K i g2) M o) (by decide) (by omega) ?_
            rw [show (st0 K i g2).2.1 4 (pn R p) = nI 2 from (congrFun (st0_o (by omega)) _).trans ((hK.2.2 _ b45).2.1.trans (by rw [e40, hn]))]
            refine G_icge 143 d_H_layPart_89 (by decide) (fun _ => ?_) (fun h => absurd h (by decide))
            exact G_ret d_H_layPart_143 rfl (k _ (by rw [askL_made hk, if_pos (by omega), if_pos (by omega), hdd]; exact A2))
          refine G_aload_n 3 d_H_layPart_104 rfl ?_
          refine G_gt d_H_layPart_105 fr_H_15 (rd_H0_patterns (st0 K i g1) M o) ?_
          refine G_gt d_H_layPart_108 fr_H_66 (rd_P_kind (st0 K i g1) M o) ?_
          refine G_iload 0 d_H_layPart_111 rfl ?_
          refine G_ialN d_H_layPart_113 (ar_8 (st0 K i g1) M o) (by decide) (by omega) ?_
          rw [show (st0 K i g1).2.1 8 (pg R p) = nI (pk R (pg R p)) from (congrFun (st0_o (by omega)) _).trans ((hT.2 (pg R p) hqm).1.trans q43)]
          refine G_ifeq 137 d_H_layPart_114 (by decide) (fun h114 => ?_) (fun h114 => ?_)
          · have hq0 : pk R (pg R p) = 0 := (nI_eq (by omega) (by omega)).mp (show nI (pk R (pg R p)) = nI 0 from h114)
            exact G_sub [1, 2, 3, 4, 5, 6, 7] rfl (key1 g1 (by have z := (hP.2.2 (pg R p) hqm).2.2.2.1 hq0; rw [show askL R f (pg R p) (1 :: (zP h j)) = [] from askL_0 hq0, z]; exact LAY_nil A1) Ea1 Eb1)
          · have hq1 : 1 ≤ pk R (pg R p) := by
              rcases Nat.eq_zero_or_pos (pk R (pg R p)) with z | z
              · exact absurd (show nI (pk R (pg R p)) = 0 by rw [z]; rfl) h114
              · exact z
            have hq2 := pd_pos hP hqm hq1
            refine G_aload_n 3 d_H_layPart_117 rfl ?_
            refine G_iload 0 d_H_layPart_118 rfl ?_
            refine G_aload_n 3 d_H_layPart_120 rfl ?_
            refine G_iload_n 5 d_H_layPart_121 rfl ?_
            refine G_iload 2 d_H_layPart_122 rfl ?_
            refine G_iload 1 d_H_layPart_124 rfl ?_
            refine G_cvp (fun a9 A9 => ∃ (h3 : SH) (j3 : Nat), PB R s0 g1 h3 j (pn R p) 1 j3 ∧ a9 = some (.int (nI j3)) ∧ A9 = (hp (st0 K i h3) M o, nc, ns)) (As := [.int (nI j), .int (nI (pn R p)), .int (nI 1)]) d_H_layPart_126 cv_H_81 cw_H_placeBelow (ob_H0 (st0 K i g1) M o) np_H_placeBelow (Nat.le_of_ble_eq_true rfl) (Nat.le_of_ble_eq_true rfl) (fun post2 kq => c_H0_place hC hK A1.2.2.1 (by omega) (Nat.lt_of_lt_of_le hj A1.1.1) b45 (by omega) (by rw [(A1.1.2 j hj).1, hs, s45]) (fun h3 j3 hB => kq _ _ ⟨h3, j3, hB, rfl, rfl⟩)) (fun a9 A9 h9 => by obtain ⟨h3, j3, -, -, rfl⟩ := h9; rfl) (fun a9 A9 h9 => ?_)
            obtain ⟨h3, j3, hB, rfl, rfl⟩ := h9
            refine G_iload_n 6 d_H_layPart_129 rfl ?_
            refine G_iload 7 d_H_layPart_130 rfl ?_
            refine G_iconst (v := 1) d_H_layPart_132 (by decide) ?_
            refine G_iadd d_H_layPart_133 ?_
            rw [nI_1]
            obtain ⟨B1, B2, B3, B4, B5, B6, B7, B8, B9, B10, B11⟩ := id hB
            rw [(A1.1.2 j hj).2.2.2.2] at B9
            have hno3 := LAY_no A1 hB (fun e he => (List.mem_append.mp he).elim (fun he => by rw [List.mem_singleton.mp he]; exact nosuf1) (fun he => nosuf2 (askL_suf _ _ _ _ he) (by decide)))
            refine G_cvp (fun a9 A9 => ∃ h4 : SH, LAY R s0 (askL R f (pg R p) (zP h3 j3)) (pd R (pg R p)) (zP h3 j3) j3 h3 h4 ∧ a9 = none ∧ A9 = (hp (st0 K i h4) M o, nc, ns)) (As := [.int (nI (pg R p)), .int (nI j3), .int (nI i), .int (nI (dep + 1))]) d_H_layPart_134 cv_H_58 cw_H_layPart (ob_H0 (st0 K i h3) M o) np_H_layPart (Nat.le_of_ble_eq_true rfl) (Nat.le_of_ble_eq_true rfl) (fun post2 kq => ih (pg R p) (e + 1) j3 (dep + 1) h3 (by omega) (by omega) (by omega) (by omega) (by omega) (by omega) B5 (fun x hx => by rw [B3] at hx; exact Nat.lt_of_lt_of_le (A1.2.2.2.1 x hx) B1.1) B6.2 (by rw [B10, mG.2.2]; rfl) (by rw [B9]; exact hno3) (by omega) (fun h4 hA => kq _ _ ⟨h4, hA, rfl, rfl⟩)) (fun a9 A9 h9 => by obtain ⟨h4, -, -, rfl⟩ := h9; rfl) (fun a9 A9 h9 => ?_)
            obtain ⟨h4, hA4, rfl, rfl⟩ := h9
            rw [B9] at hA4
            obtain ⟨z1, z2, z3⟩ := LAY_2 A1 hj rfl Ea1 Eb1 B1 B2 B3 B4 B6 B7 B8 B9 B11 hA4 (fun e he => (List.mem_append.mp he).elim (fun he => by rw [List.mem_singleton.mp he]; exact nosuf1) (fun he => nosuf2 (askL_suf _ _ _ _ he) (by decide))) (fun e he => askL_suf _ _ _ _ he)
            exact G_sub [1, 2, 3, 4, 5, 6, 7] rfl (key1 h4 z1 z2 z3)
        refine G_aload_n 3 d_H_layPart_104 rfl ?_
        refine G_gt d_H_layPart_105 fr_H_15 (rd_H0_patterns (st0 K i g0) M o) ?_
        refine G_gt d_H_layPart_108 fr_H_66 (rd_P_kind (st0 K i g0) M o) ?_
        refine G_iload 0 d_H_layPart_111 rfl ?_
        refine G_ialN d_H_layPart_113 (ar_8 (st0 K i g0) M o) (by decide) (by omega) ?_
        rw [show (st0 K i g0).2.1 8 (pf R p) = nI (pk R (pf R p)) from (congrFun (st0_o (by omega)) _).trans ((hT.2 (pf R p) hqm).1.trans q43)]
        refine G_ifeq 137 d_H_layPart_114 (by decide) (fun h114 => ?_) (fun h114 => ?_)
        · have hq0 : pk R (pf R p) = 0 := (nI_eq (by omega) (by omega)).mp (show nI (pk R (pf R p)) = nI 0 from h114)
          exact G_sub [1, 2, 3, 4, 5, 6, 7] rfl (key0 g0 (by have z := (hP.2.2 (pf R p) hqm).2.2.2.1 hq0; rw [show askL R f (pf R p) (0 :: (zP h j)) = [] from askL_0 hq0, z]; exact LAY_nil A0) Ea0 Eb0)
        · have hq1 : 1 ≤ pk R (pf R p) := by
            rcases Nat.eq_zero_or_pos (pk R (pf R p)) with z | z
            · exact absurd (show nI (pk R (pf R p)) = 0 by rw [z]; rfl) h114
            · exact z
          have hq2 := pd_pos hP hqm hq1
          refine G_aload_n 3 d_H_layPart_117 rfl ?_
          refine G_iload 0 d_H_layPart_118 rfl ?_
          refine G_aload_n 3 d_H_layPart_120 rfl ?_
          refine G_iload_n 5 d_H_layPart_121 rfl ?_
          refine G_iload 2 d_H_layPart_122 rfl ?_
          refine G_iload 1 d_H_layPart_124 rfl ?_
          refine G_cvp (fun a9 A9 => ∃ (h3 : SH) (j3 : Nat), PB R s0 g0 h3 j (pn R p) 0 j3 ∧ a9 = some (.int (nI j3)) ∧ A9 = (hp (st0 K i h3) M o, nc, ns)) (As := [.int (nI j), .int (nI (pn R p)), .int (nI 0)]) d_H_layPart_126 cv_H_81 cw_H_placeBelow (ob_H0 (st0 K i g0) M o) np_H_placeBelow (Nat.le_of_ble_eq_true rfl) (Nat.le_of_ble_eq_true rfl) (fun post2 kq => c_H0_place hC hK A0.2.2.1 (by omega) (Nat.lt_of_lt_of_le hj A0.1.1) b45 (by omega) (by rw [(A0.1.2 j hj).1, hs, s45]) (fun h3 j3 hB => kq _ _ ⟨h3, j3, hB, rfl, rfl⟩)) (fun a9 A9 h9 => by obtain ⟨h3, j3, -, -, rfl⟩ := h9; rfl) (fun a9 A9 h9 => ?_)
          obtain ⟨h3, j3, hB, rfl, rfl⟩ := h9
          refine G_iload_n 6 d_H_layPart_129 rfl ?_
          refine G_iload 7 d_H_layPart_130 rfl ?_
          refine G_iconst (v := 1) d_H_layPart_132 (by decide) ?_
          refine G_iadd d_H_layPart_133 ?_
          rw [nI_1]
          obtain ⟨B1, B2, B3, B4, B5, B6, B7, B8, B9, B10, B11⟩ := id hB
          rw [(A0.1.2 j hj).2.2.2.2] at B9
          have hno3 := LAY_no A0 hB (fun e he => by rw [List.mem_singleton.mp he]; exact nosuf1)
          refine G_cvp (fun a9 A9 => ∃ h4 : SH, LAY R s0 (askL R f (pf R p) (zP h3 j3)) (pd R (pf R p)) (zP h3 j3) j3 h3 h4 ∧ a9 = none ∧ A9 = (hp (st0 K i h4) M o, nc, ns)) (As := [.int (nI (pf R p)), .int (nI j3), .int (nI i), .int (nI (dep + 1))]) d_H_layPart_134 cv_H_58 cw_H_layPart (ob_H0 (st0 K i h3) M o) np_H_layPart (Nat.le_of_ble_eq_true rfl) (Nat.le_of_ble_eq_true rfl) (fun post2 kq => ih (pf R p) (e + 1) j3 (dep + 1) h3 (by omega) (by omega) (by omega) (by omega) (by omega) (by omega) B5 (fun x hx => by rw [B3] at hx; exact Nat.lt_of_lt_of_le (A0.2.2.2.1 x hx) B1.1) B6.2 (by rw [B10, mF.2.2]; rfl) (by rw [B9]; exact hno3) (by omega) (fun h4 hA => kq _ _ ⟨h4, hA, rfl, rfl⟩)) (fun a9 A9 h9 => by obtain ⟨h4, -, -, rfl⟩ := h9; rfl) (fun a9 A9 h9 => ?_)
          obtain ⟨h4, hA4, rfl, rfl⟩ := h9
          rw [B9] at hA4
          obtain ⟨z1, z2, z3⟩ := LAY_2 A0 hj rfl Ea0 Eb0 B1 B2 B3 B4 B6 B7 B8 B9 B11 hA4 (fun e he => by rw [List.mem_singleton.mp he]; exact nosuf1) (fun e he => askL_suf _ _ _ _ he)
          exact G_sub [1, 2, 3, 4, 5, 6, 7] rfl (key0 h4 z1 z2 z3)
set_option maxHeartbeats 600000 in
set_option maxRecDepth 100000 in
theorem c_H1_lay {K : KC} {M : MC} {o : Nat → Int64} {nc ns : Nat} {R : MC} {s0 i : Nat} (hS : wfS R) (hC : wfC R) (hP : wfP R) (hK : rS K R) (hT : rP K R) (hi : i < 2) : ∀ (f p d j dep : Nat) (h : SH) {post : mj_O → mj_H → Prop}, p < mP R → 1 ≤ pk R p → pd R p < f → pd R p + 2 ≤ d → 1 ≤ dep → dep + pd R p ≤ 13 → PLW R s0 h → bOk h → j < zN h → zS h j = nI (ps R p) → (∀ x, lB (zA h) x = true → ¬ zP h j <:+ zP h x) → zN h + pd R p ≤ 24 + 1 → (∀ h', LAY R s0 (askL R f p (zP h j)) (pd R p) (zP h j) j h h' → post (.inl none) (hp (st1 K i h') M o, nc, ns)) → mj_G y_H_layPart b_H_layPart 8 none [] d none 0 [(0, .ref 29), (1, .int (nI p)), (2, .int (nI j)), (3, .int (nI i)), (4, .int (nI dep))] [] (hp (st1 K i h) M o, nc, ns) post := by
  have q12 := hS.2.2
  have q30 := hC.2.1
  have q200 := hP.2.1
  intro f
  induction f with
  | zero => intro p d j dep h post h1 h2 h3; omega
  | succ f ih =>
    intro p d j dep h post hp1 hk1 hf hd hdep1 hdep2 hPL hb hj hs hno hN0 k
    obtain ⟨⟨e43, b43⟩, ⟨e44, b44⟩, ⟨e48, b48⟩, w4, w5, w6⟩ := hP.2.2 p hp1
    obtain ⟨t8, t9, t10, t13, t1112⟩ := hT.2 p hp1
    have hpp := pd_pos hP hp1 hk1
    obtain ⟨e, rfl⟩ : ∃ e, d = e + 2 := ⟨d - 2, by omega⟩
    rcases (show pk R p = 1 ∨ pk R p = 2 by omega) with hk | hk
    · refine G_aload_n 0 d_H_layPart_0 rfl ?_
      refine G_gt d_H_layPart_1 fr_H_15 (rd_H1_patterns (st1 K i h) M o) ?_
      refine G_gt d_H_layPart_4 fr_H_66 (rd_P_kind (st1 K i h) M o) ?_
      refine G_iload_n 1 d_H_layPart_7 rfl ?_
      refine G_ialN d_H_layPart_8 (ar_8 (st1 K i h) M o) (by decide) (by omega) ?_
      rw [show (st1 K i h).2.1 8 p = nI 1 from (congrFun (st1_o (by omega)) _).trans (t8.trans (by rw [e43, hk]))]
      refine G_ifeq 19 d_H_layPart_9 (by decide) (fun h9 => False.elim (absurd h9 (by decide))) (fun h9 => ?_)
      refine G_iload 4 d_H_layPart_12 rfl ?_
      refine G_bipush (v := nI 12) d_H_layPart_14 (by decide) ?_
      refine G_icle 20 d_H_layPart_16 (by decide) (fun h16 => ?_) (fun h16 => False.elim (h16 (nI_le (by omega) (by omega))))
      refine G_aload_n 0 d_H_layPart_20 rfl ?_
      refine G_gt d_H_layPart_21 fr_H_19 (rd_H1_asked (st1 K i h) M o) ?_
      refine G_iload_n 3 d_H_layPart_24 rfl ?_
      refine G_dup2 d_H_layPart_25 rfl rfl ?_
      refine G_lalN d_H_layPart_26 (ar_30 (st1 K i h) M o) (by decide) (by omega) ?_
      rw [st1_a]
      refine G_lconst (v := 1) d_H_layPart_27 (by decide) ?_
      refine G_iload_n 2 d_H_layPart_28 rfl ?_
      refine G_lshl d_H_layPart_29 ?_
      refine G_lor d_H_layPart_30 ?_
      refine G_lasN d_H_layPart_31 (ar_30 (st1 K i h) M o) (by decide) (by omega) (aw_30 (st1 K i h) M o i ((zA h) ||| (1 <<< ((nI j).toInt64 &&& 63)))) ?_
      rw [show kl (st1 K i h) 30 i ((zA h) ||| (1 <<< ((nI j).toInt64 &&& 63))) = st1 K i (shA h (zA h ||| (1 <<< ((nI j).toInt64 &&& 63)))) from st1_wA]
      refine G_aload_n 0 d_H_layPart_32 rfl ?_
      refine G_gt d_H_layPart_33 fr_H_25 (rd_H1_asks (st1 K i (shA h (zA h ||| (1 <<< ((nI j).toInt64 &&& 63))))) M o) ?_
      refine G_iload_n 3 d_H_layPart_36 rfl ?_
      refine G_aalN (r := 32 + i) d_H_layPart_37 (ar_31 (st1 K i (shA h (zA h ||| (1 <<< ((nI j).toInt64 &&& 63))))) M o) (by decide) (by omega) (if_pos (by omega)) ?_
      refine G_iload_n 2 d_H_layPart_38 rfl ?_
      refine G_aload_n 0 d_H_layPart_39 rfl ?_
      refine G_gt d_H_layPart_40 fr_H_15 (rd_H1_patterns (st1 K i (shA h (zA h ||| (1 <<< ((nI j).toInt64 &&& 63))))) M o) ?_
      refine G_gt d_H_layPart_43 fr_H_69 (rd_P_top (st1 K i (shA h (zA h ||| (1 <<< ((nI j).toInt64 &&& 63))))) M o) ?_
      refine G_iload_n 1 d_H_layPart_46 rfl ?_
      refine G_ialN d_H_layPart_47 (ar_10 (st1 K i (shA h (zA h ||| (1 <<< ((nI j).toInt64 &&& 63))))) M o) (by decide) (by omega) ?_
      rw [show (st1 K i (shA h (zA h ||| (1 <<< ((nI j).toInt64 &&& 63))))).2.1 10 p = R.2 45 p from (congrFun (st1_o (by omega)) _).trans (t10)]
      refine G_iasN d_H_layPart_48 (arr_32 (st1 K i (shA h (zA h ||| (1 <<< ((nI j).toInt64 &&& 63))))) M o (by omega)) (by decide) (by omega) (awr_32 (st1 K i (shA h (zA h ||| (1 <<< ((nI j).toInt64 &&& 63))))) M o (by omega) j (R.2 45 p)) ?_
      rw [show ka (st1 K i (shA h (zA h ||| (1 <<< ((nI j).toInt64 &&& 63))))) (32 + i) j (R.2 45 p) = st1 K i (setJ h j (R.2 45 p)) from st1_wB hi]
      refine G_aload_n 0 d_H_layPart_49 rfl ?_
      refine G_gt d_H_layPart_50 fr_H_15 (rd_H1_patterns (st1 K i (setJ h j (R.2 45 p))) M o) ?_
      refine G_gt d_H_layPart_53 fr_H_66 (rd_P_kind (st1 K i (setJ h j (R.2 45 p))) M o) ?_
      refine G_iload_n 1 d_H_layPart_56 rfl ?_
      refine G_ialN d_H_layPart_57 (ar_8 (st1 K i (setJ h j (R.2 45 p))) M o) (by decide) (by omega) ?_
      rw [show (st1 K i (setJ h j (R.2 45 p))).2.1 8 p = nI 1 from (congrFun (st1_o (by omega)) _).trans (t8.trans (by rw [e43, hk]))]
      refine G_iconst (v := nI 1) d_H_layPart_58 (by decide) ?_
      refine G_icne 63 d_H_layPart_59 (by decide) (fun h => absurd h (by decide)) (fun _ => ?_)
      exact G_ret d_H_layPart_62 rfl (k _ (by rw [askL_num hk, (w5 hk).2]; exact LAY_1 hPL hb hj (by omega) hno (if_pos (hs.trans (by rw [(w5 hk).1])))))
    · obtain ⟨⟨e45, b45, s45⟩, mF0, mG0, dd⟩ := w6 hk
      have t1112 := t1112 hk
      have hcs1 := (hC.2.2 (pn R p) b45).1.2
      obtain ⟨e40, b40⟩ := (hC.2.2 (pn R p) b45).2.1
      refine G_aload_n 0 d_H_layPart_0 rfl ?_
      refine G_gt d_H_layPart_1 fr_H_15 (rd_H1_patterns (st1 K i h) M o) ?_
      refine G_gt d_H_layPart_4 fr_H_66 (rd_P_kind (st1 K i h) M o) ?_
      refine G_iload_n 1 d_H_layPart_7 rfl ?_
      refine G_ialN d_H_layPart_8 (ar_8 (st1 K i h) M o) (by decide) (by omega) ?_
      rw [show (st1 K i h).2.1 8 p = nI 2 from (congrFun (st1_o (by omega)) _).trans (t8.trans (by rw [e43, hk]))]
      refine G_ifeq 19 d_H_layPart_9 (by decide) (fun h9 => False.elim (absurd h9 (by decide))) (fun h9 => ?_)
      refine G_iload 4 d_H_layPart_12 rfl ?_
      refine G_bipush (v := nI 12) d_H_layPart_14 (by decide) ?_
      refine G_icle 20 d_H_layPart_16 (by decide) (fun h16 => ?_) (fun h16 => False.elim (h16 (nI_le (by omega) (by omega))))
      refine G_aload_n 0 d_H_layPart_20 rfl ?_
      refine G_gt d_H_layPart_21 fr_H_19 (rd_H1_asked (st1 K i h) M o) ?_
      refine G_iload_n 3 d_H_layPart_24 rfl ?_
      refine G_dup2 d_H_layPart_25 rfl rfl ?_
      refine G_lalN d_H_layPart_26 (ar_30 (st1 K i h) M o) (by decide) (by omega) ?_
      rw [st1_a]
      refine G_lconst (v := 1) d_H_layPart_27 (by decide) ?_
      refine G_iload_n 2 d_H_layPart_28 rfl ?_
      refine G_lshl d_H_layPart_29 ?_
      refine G_lor d_H_layPart_30 ?_
      refine G_lasN d_H_layPart_31 (ar_30 (st1 K i h) M o) (by decide) (by omega) (aw_30 (st1 K i h) M o i ((zA h) ||| (1 <<< ((nI j).toInt64 &&& 63)))) ?_
      rw [show kl (st1 K i h) 30 i ((zA h) ||| (1 <<< ((nI j).toInt64 &&& 63))) = st1 K i (shA h (zA h ||| (1 <<< ((nI j).toInt64 &&& 63)))) from st1_wA]
      refine G_aload_n 0 d_H_layPart_32 rfl ?_
      refine G_gt d_H_layPart_33 fr_H_25 (rd_H1_asks (st1 K i (shA h (zA h ||| (1 <<< ((nI j).toInt64 &&& 63))))) M o) ?_
      refine G_iload_n 3 d_H_layPart_36 rfl ?_
      refine G_aalN (r := 32 + i) d_H_layPart_37 (ar_31 (st1 K i (shA h (zA h ||| (1 <<< ((nI j).toInt64 &&& 63))))) M o) (by decide) (by omega) (if_pos (by omega)) ?_
      refine G_iload_n 2 d_H_layPart_38 rfl ?_
      refine G_aload_n 0 d_H_layPart_39 rfl ?_
      refine G_gt d_H_layPart_40 fr_H_15 (rd_H1_patterns (st1 K i (shA h (zA h ||| (1 <<< ((nI j).toInt64 &&& 63))))) M o) ?_
      refine G_gt d_H_layPart_43 fr_H_69 (rd_P_top (st1 K i (shA h (zA h ||| (1 <<< ((nI j).toInt64 &&& 63))))) M o) ?_
      refine G_iload_n 1 d_H_layPart_46 rfl ?_
      refine G_ialN d_H_layPart_47 (ar_10 (st1 K i (shA h (zA h ||| (1 <<< ((nI j).toInt64 &&& 63))))) M o) (by decide) (by omega) ?_
      rw [show (st1 K i (shA h (zA h ||| (1 <<< ((nI j).toInt64 &&& 63))))).2.1 10 p = nI (pn R p) from (congrFun (st1_o (by omega)) _).trans (t10.trans e45)]
      refine G_iasN d_H_layPart_48 (arr_32 (st1 K i (shA h (zA h ||| (1 <<< ((nI j).toInt64 &&& 63))))) M o (by omega)) (by decide) (by omega) (awr_32 (st1 K i (shA h (zA h ||| (1 <<< ((nI j).toInt64 &&& 63))))) M o (by omega) j (nI (pn R p))) ?_
      rw [show ka (st1 K i (shA h (zA h ||| (1 <<< ((nI j).toInt64 &&& 63))))) (32 + i) j (nI (pn R p)) = st1 K i (setJ h j (nI (pn R p))) from st1_wB hi]
      refine G_aload_n 0 d_H_layPart_49 rfl ?_
      refine G_gt d_H_layPart_50 fr_H_15 (rd_H1_patterns (st1 K i (setJ h j (nI (pn R p)))) M o) ?_
      refine G_gt d_H_layPart_53 fr_H_66 (rd_P_kind (st1 K i (setJ h j (nI (pn R p)))) M o) ?_
      refine G_iload_n 1 d_H_layPart_56 rfl ?_
      refine G_ialN d_H_layPart_57 (ar_8 (st1 K i (setJ h j (nI (pn R p)))) M o) (by decide) (by omega) ?_
      rw [show (st1 K i (setJ h j (nI (pn R p)))).2.1 8 p = nI 2 from (congrFun (st1_o (by omega)) _).trans (t8.trans (by rw [e43, hk]))]
      refine G_iconst (v := nI 1) d_H_layPart_58 (by decide) ?_
      refine G_icne 63 d_H_layPart_59 (by decide) (fun _ => ?_) (fun h => absurd h (by decide))
      refine G_aload_n 0 d_H_layPart_63 rfl ?_
      refine G_gt d_H_layPart_64 fr_H_15 (rd_H1_patterns (st1 K i (setJ h j (nI (pn R p)))) M o) ?_
      refine G_gt d_H_layPart_67 fr_H_69 (rd_P_top (st1 K i (setJ h j (nI (pn R p)))) M o) ?_
      refine G_iload_n 1 d_H_layPart_70 rfl ?_
      refine G_ialN d_H_layPart_71 (ar_10 (st1 K i (setJ h j (nI (pn R p)))) M o) (by decide) (by omega) ?_
      rw [show (st1 K i (setJ h j (nI (pn R p)))).2.1 10 p = nI (pn R p) from (congrFun (st1_o (by omega)) _).trans (t10.trans e45)]
      refine G_istore (ls' := [(5, .int (nI (pn R p))), (0, .ref 29), (1, .int (nI p)), (2, .int (nI j)), (3, .int (nI i)), (4, .int (nI dep))]) d_H_layPart_72 (by decide) rfl ?_
      refine G_iconst (v := nI 0) d_H_layPart_74 (by decide) ?_
      refine G_istore (ls' := [(6, .int (nI 0)), (5, .int (nI (pn R p))), (0, .ref 29), (1, .int (nI p)), (2, .int (nI j)), (3, .int (nI i)), (4, .int (nI dep))]) d_H_layPart_75 (by decide) rfl ?_
      have A0 : LAY R s0 [((zP h j), lab (pn R p))] 1 (zP h j) j h (setJ h j (nI (pn R p))) := LAY_1 hPL hb hj (by omega) hno (by rw [if_neg (by rw [hs]; exact fun z => absurd ((nI_eq (by omega) (by omega)).mp z) (by omega)), nI_toInt (by omega)]; rfl)
      have Ea0 : lB (zA (setJ h j (nI (pn R p)))) j = true := by
        show lB (zA h ||| 1 <<< ((nI j).toInt64 &&& 63)) j = true
        rw [lB_or, lB_one (by omega), decide_eq_true rfl, Bool.or_true]
      have Eb0 : zB (setJ h j (nI (pn R p))) j = nI (pn R p) := pk_us
      generalize setJ h j (nI (pn R p)) = g0 at A0 Ea0 Eb0
      refine G_sub [0, 1, 2, 3, 4, 5, 6] rfl ?_
      rcases (show cP R (pn R p) = 0 ∨ cP R (pn R p) = 1 ∨ cP R (pn R p) = 2 by omega) with hn | hn | hn
      · have hdd : pd R p = 1 := by rw [dd, if_neg (by omega), if_neg (by omega)]
        refine G_iload 0 d_H_layPart_77 rfl ?_
        refine G_aload_n 2 d_H_layPart_79 rfl ?_
        refine G_gt d_H_layPart_80 fr_H_9 (rd_H1_sorts (st1 K i g0) M o) ?_
        refine G_gt d_H_layPart_83 fr_H_72 (rd_S_partCount (st1 K i g0) M o) ?_
        refine G_iload 1 d_H_layPart_86 rfl ?_
        refine G_ialN d_H_layPart_88 (ar_4 (st1 K i g0) M o) (by decide) (by omega) ?_
        rw [show (st1 K i g0).2.1 4 (pn R p) = nI 0 from (congrFun (st1_o (by omega)) _).trans ((hK.2.2 _ b45).2.1.trans (by rw [e40, hn]))]
        refine G_icge 143 d_H_layPart_89 (by decide) (fun _ => ?_) (fun h => absurd h (by decide))
        exact G_ret d_H_layPart_143 rfl (k _ (by rw [askL_made hk, if_neg (by omega), if_neg (by omega), hdd]; exact A0))
      · have hdd : pd R p = (1 + pd R (pf R p)) := by rw [dd, if_pos (by omega), if_neg (by omega)]; rfl
        refine G_iload 0 d_H_layPart_77 rfl ?_
        refine G_aload_n 2 d_H_layPart_79 rfl ?_
        refine G_gt d_H_layPart_80 fr_H_9 (rd_H1_sorts (st1 K i g0) M o) ?_
        refine G_gt d_H_layPart_83 fr_H_72 (rd_S_partCount (st1 K i g0) M o) ?_
        refine G_iload 1 d_H_layPart_86 rfl ?_
        refine G_ialN d_H_layPart_88 (ar_4 (st1 K i g0) M o) (by decide) (by omega) ?_
        rw [show (st1 K i g0).2.1 4 (pn R p) = nI 1 from (congrFun (st1_o (by omega)) _).trans ((hK.2.2 _ b45).2.1.trans (by rw [e40, hn]))]
        refine G_icge 143 d_H_layPart_89 (by decide) (fun h => absurd h (by decide)) (fun _ => ?_)
        have mF := mF0 (by omega)
        have hqm : (pf R p) < mP R := by omega
        obtain ⟨⟨q43, c43⟩, -⟩ := hP.2.2 (pf R p) hqm
        have a20 := A0.2.1
        refine G_aload_n 2 d_H_layPart_92 rfl ?_
        refine G_gt d_H_layPart_93 fr_H_15 (rd_H1_patterns (st1 K i g0) M o) ?_
        refine G_iload_n 3 d_H_layPart_96 rfl ?_
        refine G_iload 0 d_H_layPart_97 rfl ?_
        refine G_cv1 (some (.int (nI (pf R p)))) (hp (st1 K i g0) M o, nc, ns) (As := [.int (nI p), .int (nI 0)]) d_H_layPart_99 cv_H_77 cw_P_partOf (ob_P (st1 K i g0) M o) np_P_partOf (Nat.le_of_ble_eq_true rfl) (Nat.le_of_ble_eq_true rfl) (fun post2 k2 => c_P_partOf0 (by omega) ((congrFun (st1_o (by omega)) _).trans (t1112.1.trans mF.1)) k2) rfl ?_
        refine G_istore (ls' := [(7, .int (nI (pf R p))), (6, .int (nI 0)), (5, .int (nI (pn R p))), (0, .ref 29), (1, .int (nI p)), (2, .int (nI j)), (3, .int (nI i)), (4, .int (nI dep))]) d_H_layPart_102 (by decide) rfl ?_
        have key0 : ∀ g : SH, LAY R s0 ([((zP h j), lab (pn R p))] ++ askL R f (pf R p) (0 :: (zP h j))) (1 + pd R (pf R p)) (zP h j) j h g → lB (zA g) j = true → zB g j = nI (pn R p) → mj_G y_H_layPart b_H_layPart 8 none [] (e + 2) none 137 [(6, .int (nI 0)), (5, .int (nI (pn R p))), (0, .ref 29), (1, .int (nI p)), (2, .int (nI j)), (3, .int (nI i)), (4, .int (nI dep))] [] (hp (st1 K i g) M o, nc, ns) post := by
          intro g1 A1 Ea1 Eb1
          refine G_iinc 0 (v := nI 1) (ls' := [(6, .int (nI 1)), (5, .int (nI (pn R p))), (0, .ref 29), (1, .int (nI p)), (2, .int (nI j)), (3, .int (nI i)), (4, .int (nI dep))]) d_H_layPart_137 rfl (nI_1 0) (by decide) rfl ?_
          refine G_goto 77 d_H_layPart_140 (by decide) ?_
          refine G_iload 0 d_H_layPart_77 rfl ?_
          refine G_aload_n 2 d_H_layPart_79 rfl ?_
          refine G_gt d_H_layPart_80 fr_H_9 (rd_H1_sorts (st1 K i g1) M o) ?_
          refine G_gt d_H_layPart_83 fr_H_72 (rd_S_partCount (st1 K i g1) M o) ?_
          refine G_iload 1 d_H_layPart_86 rfl ?_
          refine G_ialN d_H_layPart_88 (ar_4 (st1 K i g1) M o) (by decide) (by omega) ?_
          rw [show (st1 K i g1).2.1 4 (pn R p) = nI 1 from (congrFun (st1_o (by omega)) _).trans ((hK.2.2 _ b45).2.1.trans (by rw [e40, hn]))]
          refine G_icge 143 d_H_layPart_89 (by decide) (fun _ => ?_) (fun h => absurd h (by decide))
          exact G_ret d_H_layPart_143 rfl (k _ (by rw [askL_made hk, if_pos (by omega), if_neg (by omega), List.append_nil, hdd]; exact A1))
        refine G_aload_n 3 d_H_layPart_104 rfl ?_
        refine G_gt d_H_layPart_105 fr_H_15 (rd_H1_patterns (st1 K i g0) M o) ?_
        refine G_gt d_H_layPart_108 fr_H_66 (rd_P_kind (st1 K i g0) M o) ?_
        refine G_iload 0 d_H_layPart_111 rfl ?_
        refine G_ialN d_H_layPart_113 (ar_8 (st1 K i g0) M o) (by decide) (by omega) ?_
        rw [show (st1 K i g0).2.1 8 (pf R p) = nI (pk R (pf R p)) from (congrFun (st1_o (by omega)) _).trans ((hT.2 (pf R p) hqm).1.trans q43)]
        refine G_ifeq 137 d_H_layPart_114 (by decide) (fun h114 => ?_) (fun h114 => ?_)
        · have hq0 : pk R (pf R p) = 0 := (nI_eq (by omega) (by omega)).mp (show nI (pk R (pf R p)) = nI 0 from h114)
          exact G_sub [1, 2, 3, 4, 5, 6, 7] rfl (key0 g0 (by have z := (hP.2.2 (pf R p) hqm).2.2.2.1 hq0; rw [show askL R f (pf R p) (0 :: (zP h j)) = [] from askL_0 hq0, z]; exact LAY_nil A0) Ea0 Eb0)
        · have hq1 : 1 ≤ pk R (pf R p) := by
            rcases Nat.eq_zero_or_pos (pk R (pf R p)) with z | z
            · exact absurd (show nI (pk R (pf R p)) = 0 by rw [z]; rfl) h114
            · exact z
          have hq2 := pd_pos hP hqm hq1
          refine G_aload_n 3 d_H_layPart_117 rfl ?_
          refine G_iload 0 d_H_layPart_118 rfl ?_
          refine G_aload_n 3 d_H_layPart_120 rfl ?_
          refine G_iload_n 5 d_H_layPart_121 rfl ?_
          refine G_iload 2 d_H_layPart_122 rfl ?_
          refine G_iload 1 d_H_layPart_124 rfl ?_
          refine G_cvp (fun a9 A9 => ∃ (h3 : SH) (j3 : Nat), PB R s0 g0 h3 j (pn R p) 0 j3 ∧ a9 = some (.int (nI j3)) ∧ A9 = (hp (st1 K i h3) M o, nc, ns)) (As := [.int (nI j), .int (nI (pn R p)), .int (nI 0)]) d_H_layPart_126 cv_H_81 cw_H_placeBelow (ob_H1 (st1 K i g0) M o) np_H_placeBelow (Nat.le_of_ble_eq_true rfl) (Nat.le_of_ble_eq_true rfl) (fun post2 kq => c_H1_place hC hK A0.2.2.1 (by omega) (Nat.lt_of_lt_of_le hj A0.1.1) b45 (by omega) (by rw [(A0.1.2 j hj).1, hs, s45]) (fun h3 j3 hB => kq _ _ ⟨h3, j3, hB, rfl, rfl⟩)) (fun a9 A9 h9 => by obtain ⟨h3, j3, -, -, rfl⟩ := h9; rfl) (fun a9 A9 h9 => ?_)
          obtain ⟨h3, j3, hB, rfl, rfl⟩ := h9
          refine G_iload_n 6 d_H_layPart_129 rfl ?_
          refine G_iload 7 d_H_layPart_130 rfl ?_
          refine G_iconst (v := 1) d_H_layPart_132 (by decide) ?_
          refine G_iadd d_H_layPart_133 ?_
          rw [nI_1]
          obtain ⟨B1, B2, B3, B4, B5, B6, B7, B8, B9, B10, B11⟩ := id hB
          rw [(A0.1.2 j hj).2.2.2.2] at B9
          have hno3 := LAY_no A0 hB (fun e he => by rw [List.mem_singleton.mp he]; exact nosuf1)
          refine G_cvp (fun a9 A9 => ∃ h4 : SH, LAY R s0 (askL R f (pf R p) (zP h3 j3)) (pd R (pf R p)) (zP h3 j3) j3 h3 h4 ∧ a9 = none ∧ A9 = (hp (st1 K i h4) M o, nc, ns)) (As := [.int (nI (pf R p)), .int (nI j3), .int (nI i), .int (nI (dep + 1))]) d_H_layPart_134 cv_H_58 cw_H_layPart (ob_H1 (st1 K i h3) M o) np_H_layPart (Nat.le_of_ble_eq_true rfl) (Nat.le_of_ble_eq_true rfl) (fun post2 kq => ih (pf R p) (e + 1) j3 (dep + 1) h3 (by omega) (by omega) (by omega) (by omega) (by omega) (by omega) B5 (fun x hx => by rw [B3] at hx; exact Nat.lt_of_lt_of_le (A0.2.2.2.1 x hx) B1.1) B6.2 (by rw [B10, mF.2.2]; rfl) (by rw [B9]; exact hno3) (by omega) (fun h4 hA => kq _ _ ⟨h4, hA, rfl, rfl⟩)) (fun a9 A9 h9 => by obtain ⟨h4, -, -, rfl⟩ := h9; rfl) (fun a9 A9 h9 => ?_)
          obtain ⟨h4, hA4, rfl, rfl⟩ := h9
          rw [B9] at hA4
          obtain ⟨z1, z2, z3⟩ := LAY_2 A0 hj rfl Ea0 Eb0 B1 B2 B3 B4 B6 B7 B8 B9 B11 hA4 (fun e he => by rw [List.mem_singleton.mp he]; exact nosuf1) (fun e he => askL_suf _ _ _ _ he)
          exact G_sub [1, 2, 3, 4, 5, 6, 7] rfl (key0 h4 z1 z2 z3)
      · have hdd : pd R p = (1 + pd R (pf R p) + pd R (pg R p)) := by rw [dd, if_pos (by omega), if_pos (by omega)]
        refine G_iload 0 d_H_layPart_77 rfl ?_
        refine G_aload_n 2 d_H_layPart_79 rfl ?_
        refine G_gt d_H_layPart_80 fr_H_9 (rd_H1_sorts (st1 K i g0) M o) ?_
        refine G_gt d_H_layPart_83 fr_H_72 (rd_S_partCount (st1 K i g0) M o) ?_
        refine G_iload 1 d_H_layPart_86 rfl ?_
        refine G_ialN d_H_layPart_88 (ar_4 (st1 K i g0) M o) (by decide) (by omega) ?_
        rw [show (st1 K i g0).2.1 4 (pn R p) = nI 2 from (congrFun (st1_o (by omega)) _).trans ((hK.2.2 _ b45).2.1.trans (by rw [e40, hn]))]
        refine G_icge 143 d_H_layPart_89 (by decide) (fun h => absurd h (by decide)) (fun _ => ?_)
        have mF := mF0 (by omega)
        have hqm : (pf R p) < mP R := by omega
        obtain ⟨⟨q43, c43⟩, -⟩ := hP.2.2 (pf R p) hqm
        have a20 := A0.2.1
        refine G_aload_n 2 d_H_layPart_92 rfl ?_
        refine G_gt d_H_layPart_93 fr_H_15 (rd_H1_patterns (st1 K i g0) M o) ?_
        refine G_iload_n 3 d_H_layPart_96 rfl ?_
        refine G_iload 0 d_H_layPart_97 rfl ?_
        refine G_cv1 (some (.int (nI (pf R p)))) (hp (st1 K i g0) M o, nc, ns) (As := [.int (nI p), .int (nI 0)]) d_H_layPart_99 cv_H_77 cw_P_partOf (ob_P (st1 K i g0) M o) np_P_partOf (Nat.le_of_ble_eq_true rfl) (Nat.le_of_ble_eq_true rfl) (fun post2 k2 => c_P_partOf0 (by omega) ((congrFun (st1_o (by omega)) _).trans (t1112.1.trans mF.1)) k2) rfl ?_
        refine G_istore (ls' := [(7, .int (nI (pf R p))), (6, .int (nI 0)), (5, .int (nI (pn R p))), (0, .ref 29), (1, .int (nI p)), (2, .int (nI j)), (3, .int (nI i)), (4, .int (nI dep))]) d_H_layPart_102 (by decide) rfl ?_
        have key0 : ∀ g : SH, LAY R s0 ([((zP h j), lab (pn R p))] ++ askL R f (pf R p) (0 :: (zP h j))) (1 + pd R (pf R p)) (zP h j) j h g → lB (zA g) j = true → zB g j = nI (pn R p) → mj_G y_H_layPart b_H_layPart 8 none [] (e + 2) none 137 [(6, .int (nI 0)), (5, .int (nI (pn R p))), (0, .ref 29), (1, .int (nI p)), (2, .int (nI j)), (3, .int (nI i)), (4, .int (nI dep))] [] (hp (st1 K i g) M o, nc, ns) post := by
          intro g1 A1 Ea1 Eb1
          refine G_iinc 0 (v := nI 1) (ls' := [(6, .int (nI 1)), (5, .int (nI (pn R p))), (0, .ref 29), (1, .int (nI p)), (2, .int (nI j)), (3, .int (nI i)), (4, .int (nI dep))]) d_H_layPart_137 rfl (nI_1 0) (by decide) rfl ?_
          refine G_goto 77 d_H_layPart_140 (by decide) ?_
          refine G_iload 0 d_H_layPart_77 rfl ?_
          refine G_aload_n 2 d_H_layPart_79 rfl ?_
          refine G_gt d_H_layPart_80 fr_H_9 (rd_H1_sorts (st1 K i g1) M o) ?_
          refine G_gt d_H_layPart_83 fr_H_72 (rd_S_partCount (st1 K i g1) M o) ?_
          refine G_iload 1 d_H_layPart_86 rfl ?_
          refine G_ialN d_H_layPart_88 (ar_4 (st1 K i g1) M o) (by decide) (by omega) ?_
          rw [show (st1 K i g1).2.1 4 (pn R p) = nI 2 from (congrFun (st1_o (by omega)) _).trans ((hK.2.2 _ b45).2.1.trans (by rw [e40, hn]))]
          refine G_icge 143 d_H_layPart_89 (by decide) (fun h => absurd h (by decide)) (fun _ => ?_)
          have mG := mG0 (by omega)
          have hqm : (pg R p) < mP R := by omega
          obtain ⟨⟨q43, c43⟩, -⟩ := hP.2.2 (pg R p) hqm
          have a21 := A1.2.1
          refine G_aload_n 2 d_H_layPart_92 rfl ?_
          refine G_gt d_H_layPart_93 fr_H_15 (rd_H1_patterns (st1 K i g1) M o) ?_
          refine G_iload_n 3 d_H_layPart_96 rfl ?_
          refine G_iload 0 d_H_layPart_97 rfl ?_
          refine G_cv1 (some (.int (nI (pg R p)))) (hp (st1 K i g1) M o, nc, ns) (As := [.int (nI p), .int (nI 1)]) d_H_layPart_99 cv_H_77 cw_P_partOf (ob_P (st1 K i g1) M o) np_P_partOf (Nat.le_of_ble_eq_true rfl) (Nat.le_of_ble_eq_true rfl) (fun post2 k2 => c_P_partOf1 (by omega) ((congrFun (st1_o (by omega)) _).trans (t1112.2.trans mG.1)) k2) rfl ?_
          refine G_istore (ls' := [(7, .int (nI (pg R p))), (6, .int (nI 1)), (5, .int (nI (pn R p))), (0, .ref 29), (1, .int (nI p)), (2, .int (nI j)), (3, .int (nI i)), (4, .int (nI dep))]) d_H_layPart_102 (by decide) rfl ?_
          have key1 : ∀ g : SH, LAY R s0 (([((zP h j), lab (pn R p))] ++ askL R f (pf R p) (0 :: (zP h j))) ++ askL R f (pg R p) (1 :: (zP h j))) ((1 + pd R (pf R p)) + pd R (pg R p)) (zP h j) j h g → lB (zA g) j = true → zB g j = nI (pn R p) → mj_G y_H_layPart b_H_layPart 8 none [] (e + 2) none 137 [(6, .int (nI 1)), (5, .int (nI (pn R p))), (0, .ref 29), (1, .int (nI p)), (2, .int (nI j)), (3, .int (nI i)), (4, .int (nI dep))] [] (hp (st1 K i g) M o, nc, ns) post := by
            intro g2 A2 Ea2 Eb2
            refine G_iinc 0 (v := nI 2) (ls' := [(6, .int (nI 2)), (5, .int (nI (pn R p))), (0, .ref 29), (1, .int (nI p)), (2, .int (nI j)), (3, .int (nI i)), (4, .int (nI dep))]) d_H_layPart_137 rfl (nI_1 1) (by decide) rfl ?_
            refine G_goto 77 d_H_layPart_140 (by decide) ?_
            refine G_iload 0 d_H_layPart_77 rfl ?_
            refine G_aload_n 2 d_H_layPart_79 rfl ?_
            refine G_gt d_H_layPart_80 fr_H_9 (rd_H1_sorts (st1 K i g2) M o) ?_
            refine G_gt d_H_layPart_83 fr_H_72 (rd_S_partCount (st1 K i g2) M o) ?_
            refine G_iload 1 d_H_layPart_86 rfl ?_
            refine G_ialN d_H_layPart_88 (ar_4 (st1 K i g2) M o) (by decide) (by omega) ?_
            rw [show (st1 K i g2).2.1 4 (pn R p) = nI 2 from (congrFun (st1_o (by omega)) _).trans ((hK.2.2 _ b45).2.1.trans (by rw [e40, hn]))]
            refine G_icge 143 d_H_layPart_89 (by decide) (fun _ => ?_) (fun h => absurd h (by decide))
            exact G_ret d_H_layPart_143 rfl (k _ (by rw [askL_made hk, if_pos (by omega), if_pos (by omega), hdd]; exact A2))
          refine G_aload_n 3 d_H_layPart_104 rfl ?_
          refine G_gt d_H_layPart_105 fr_H_15 (rd_H1_patterns (st1 K i g1) M o) ?_
          refine G_gt d_H_layPart_108 fr_H_66 (rd_P_kind (st1 K i g1) M o) ?_
          refine G_iload 0 d_H_layPart_111 rfl ?_
          refine G_ialN d_H_layPart_113 (ar_8 (st1 K i g1) M o) (by decide) (by omega) ?_
          rw [show (st1 K i g1).2.1 8 (pg R p) = nI (pk R (pg R p)) from (congrFun (st1_o (by omega)) _).trans ((hT.2 (pg R p) hqm).1.trans q43)]
          refine G_ifeq 137 d_H_layPart_114 (by decide) (fun h114 => ?_) (fun h114 => ?_)
          · have hq0 : pk R (pg R p) = 0 := (nI_eq (by omega) (by omega)).mp (show nI (pk R (pg R p)) = nI 0 from h114)
            exact G_sub [1, 2, 3, 4, 5, 6, 7] rfl (key1 g1 (by have z := (hP.2.2 (pg R p) hqm).2.2.2.1 hq0; rw [show askL R f (pg R p) (1 :: (zP h j)) = [] from askL_0 hq0, z]; exact LAY_nil A1) Ea1 Eb1)
          · have hq1 : 1 ≤ pk R (pg R p) := by
              rcases Nat.eq_zero_or_pos (pk R (pg R p)) with z | z
              · exact absurd (show nI (pk R (pg R p)) = 0 by rw [z]; rfl) h114
              · exact z
            have hq2 := pd_pos hP hqm hq1
            refine G_aload_n 3 d_H_layPart_117 rfl ?_
            refine G_iload 0 d_H_layPart_118 rfl ?_
            refine G_aload_n 3 d_H_layPart_120 rfl ?_
            refine G_iload_n 5 d_H_layPart_121 rfl ?_
            refine G_iload 2 d_H_layPart_122 rfl ?_
            refine G_iload 1 d_H_layPart_124 rfl ?_
            refine G_cvp (fun a9 A9 => ∃ (h3 : SH) (j3 : Nat), PB R s0 g1 h3 j (pn R p) 1 j3 ∧ a9 = some (.int (nI j3)) ∧ A9 = (hp (st1 K i h3) M o, nc, ns)) (As := [.int (nI j), .int (nI (pn R p)), .int (nI 1)]) d_H_layPart_126 cv_H_81 cw_H_placeBelow (ob_H1 (st1 K i g1) M o) np_H_placeBelow (Nat.le_of_ble_eq_true rfl) (Nat.le_of_ble_eq_true rfl) (fun post2 kq => c_H1_place hC hK A1.2.2.1 (by omega) (Nat.lt_of_lt_of_le hj A1.1.1) b45 (by omega) (by rw [(A1.1.2 j hj).1, hs, s45]) (fun h3 j3 hB => kq _ _ ⟨h3, j3, hB, rfl, rfl⟩)) (fun a9 A9 h9 => by obtain ⟨h3, j3, -, -, rfl⟩ := h9; rfl) (fun a9 A9 h9 => ?_)
            obtain ⟨h3, j3, hB, rfl, rfl⟩ := h9
            refine G_iload_n 6 d_H_layPart_129 rfl ?_
            refine G_iload 7 d_H_layPart_130 rfl ?_
            refine G_iconst (v := 1) d_H_layPart_132 (by decide) ?_
            refine G_iadd d_H_layPart_133 ?_
            rw [nI_1]
            obtain ⟨B1, B2, B3, B4, B5, B6, B7, B8, B9, B10, B11⟩ := id hB
            rw [(A1.1.2 j hj).2.2.2.2] at B9
            have hno3 := LAY_no A1 hB (fun e he => (List.mem_append.mp he).elim (fun he => by rw [List.mem_singleton.mp he]; exact nosuf1) (fun he => nosuf2 (askL_suf _ _ _ _ he) (by decide)))
            refine G_cvp (fun a9 A9 => ∃ h4 : SH, LAY R s0 (askL R f (pg R p) (zP h3 j3)) (pd R (pg R p)) (zP h3 j3) j3 h3 h4 ∧ a9 = none ∧ A9 = (hp (st1 K i h4) M o, nc, ns)) (As := [.int (nI (pg R p)), .int (nI j3), .int (nI i), .int (nI (dep + 1))]) d_H_layPart_134 cv_H_58 cw_H_layPart (ob_H1 (st1 K i h3) M o) np_H_layPart (Nat.le_of_ble_eq_true rfl) (Nat.le_of_ble_eq_true rfl) (fun post2 kq => ih (pg R p) (e + 1) j3 (dep + 1) h3 (by omega) (by omega) (by omega) (by omega) (by omega) (by omega) B5 (fun x hx => by rw [B3] at hx; exact Nat.lt_of_lt_of_le (A1.2.2.2.1 x hx) B1.1) B6.2 (by rw [B10, mG.2.2]; rfl) (by rw [B9]; exact hno3) (by omega) (fun h4 hA => kq _ _ ⟨h4, hA, rfl, rfl⟩)) (fun a9 A9 h9 => by obtain ⟨h4, -, -, rfl⟩ := h9; rfl) (fun a9 A9 h9 => ?_)
            obtain ⟨h4, hA4, rfl, rfl⟩ := h9
            rw [B9] at hA4
            obtain ⟨z1, z2, z3⟩ := LAY_2 A1 hj rfl Ea1 Eb1 B1 B2 B3 B4 B6 B7 B8 B9 B11 hA4 (fun e he => (List.mem_append.mp he).elim (fun he => by rw [List.mem_singleton.mp he]; exact nosuf1) (fun he => nosuf2 (askL_suf _ _ _ _ he) (by decide))) (fun e he => askL_suf _ _ _ _ he)
            exact G_sub [1, 2, 3, 4, 5, 6, 7] rfl (key1 h4 z1 z2 z3)
        refine G_aload_n 3 d_H_layPart_104 rfl ?_
        refine G_gt d_H_layPart_105 fr_H_15 (rd_H1_patterns (st1 K i g0) M o) ?_
        refine G_gt d_H_layPart_108 fr_H_66 (rd_P_kind (st1 K i g0) M o) ?_
        refine G_iload 0 d_H_layPart_111 rfl ?_
        refine G_ialN d_H_layPart_113 (ar_8 (st1 K i g0) M o) (by decide) (by omega) ?_
        rw [show (st1 K i g0).2.1 8 (pf R p) = nI (pk R (pf R p)) from (congrFun (st1_o (by omega)) _).trans ((hT.2 (pf R p) hqm).1.trans q43)]
        refine G_ifeq 137 d_H_layPart_114 (by decide) (fun h114 => ?_) (fun h114 => ?_)
        · have hq0 : pk R (pf R p) = 0 := (nI_eq (by omega) (by omega)).mp (show nI (pk R (pf R p)) = nI 0 from h114)
          exact G_sub [1, 2, 3, 4, 5, 6, 7] rfl (key0 g0 (by have z := (hP.2.2 (pf R p) hqm).2.2.2.1 hq0; rw [show askL R f (pf R p) (0 :: (zP h j)) = [] from askL_0 hq0, z]; exact LAY_nil A0) Ea0 Eb0)
        · have hq1 : 1 ≤ pk R (pf R p) := by
            rcases Nat.eq_zero_or_pos (pk R (pf R p)) with z | z
            · exact absurd (show nI (pk R (pf R p)) = 0 by rw [z]; rfl) h114
            · exact z
          have hq2 := pd_pos hP hqm hq1
          refine G_aload_n 3 d_H_layPart_117 rfl ?_
          refine G_iload 0 d_H_layPart_118 rfl ?_
          refine G_aload_n 3 d_H_layPart_120 rfl ?_
          refine G_iload_n 5 d_H_layPart_121 rfl ?_
          refine G_iload 2 d_H_layPart_122 rfl ?_
          refine G_iload 1 d_H_layPart_124 rfl ?_
          refine G_cvp (fun a9 A9 => ∃ (h3 : SH) (j3 : Nat), PB R s0 g0 h3 j (pn R p) 0 j3 ∧ a9 = some (.int (nI j3)) ∧ A9 = (hp (st1 K i h3) M o, nc, ns)) (As := [.int (nI j), .int (nI (pn R p)), .int (nI 0)]) d_H_layPart_126 cv_H_81 cw_H_placeBelow (ob_H1 (st1 K i g0) M o) np_H_placeBelow (Nat.le_of_ble_eq_true rfl) (Nat.le_of_ble_eq_true rfl) (fun post2 kq => c_H1_place hC hK A0.2.2.1 (by omega) (Nat.lt_of_lt_of_le hj A0.1.1) b45 (by omega) (by rw [(A0.1.2 j hj).1, hs, s45]) (fun h3 j3 hB => kq _ _ ⟨h3, j3, hB, rfl, rfl⟩)) (fun a9 A9 h9 => by obtain ⟨h3, j3, -, -, rfl⟩ := h9; rfl) (fun a9 A9 h9 => ?_)
          obtain ⟨h3, j3, hB, rfl, rfl⟩ := h9
          refine G_iload_n 6 d_H_layPart_129 rfl ?_
          refine G_iload 7 d_H_layPart_130 rfl ?_
          refine G_iconst (v := 1) d_H_layPart_132 (by decide) ?_
          refine G_iadd d_H_layPart_133 ?_
          rw [nI_1]
          obtain ⟨B1, B2, B3, B4, B5, B6, B7, B8, B9, B10, B11⟩ := id hB
          rw [(A0.1.2 j hj).2.2.2.2] at B9
          have hno3 := LAY_no A0 hB (fun e he => by rw [List.mem_singleton.mp he]; exact nosuf1)
          refine G_cvp (fun a9 A9 => ∃ h4 : SH, LAY R s0 (askL R f (pf R p) (zP h3 j3)) (pd R (pf R p)) (zP h3 j3) j3 h3 h4 ∧ a9 = none ∧ A9 = (hp (st1 K i h4) M o, nc, ns)) (As := [.int (nI (pf R p)), .int (nI j3), .int (nI i), .int (nI (dep + 1))]) d_H_layPart_134 cv_H_58 cw_H_layPart (ob_H1 (st1 K i h3) M o) np_H_layPart (Nat.le_of_ble_eq_true rfl) (Nat.le_of_ble_eq_true rfl) (fun post2 kq => ih (pf R p) (e + 1) j3 (dep + 1) h3 (by omega) (by omega) (by omega) (by omega) (by omega) (by omega) B5 (fun x hx => by rw [B3] at hx; exact Nat.lt_of_lt_of_le (A0.2.2.2.1 x hx) B1.1) B6.2 (by rw [B10, mF.2.2]; rfl) (by rw [B9]; exact hno3) (by omega) (fun h4 hA => kq _ _ ⟨h4, hA, rfl, rfl⟩)) (fun a9 A9 h9 => by obtain ⟨h4, -, -, rfl⟩ := h9; rfl) (fun a9 A9 h9 => ?_)
          obtain ⟨h4, hA4, rfl, rfl⟩ := h9
          rw [B9] at hA4
          obtain ⟨z1, z2, z3⟩ := LAY_2 A0 hj rfl Ea0 Eb0 B1 B2 B3 B4 B6 B7 B8 B9 B11 hA4 (fun e he => by rw [List.mem_singleton.mp he]; exact nosuf1) (fun e he => askL_suf _ _ _ _ he)
          exact G_sub [1, 2, 3, 4, 5, 6, 7] rfl (key0 h4 z1 z2 z3)
