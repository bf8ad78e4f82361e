/-! a sheet grows: placeBelow, layPart, addRow, clear -/
def PB (R : MC) (s0 : Nat) (h h3 : SH) (j c k j3 : Nat) : Prop := extP h h3 ∧ zN h3 ≤ zN h + 1 ∧ zA h3 = zA h ∧ zB h3 = zB h ∧ PLW R s0 h3 ∧ (1 ≤ j3 ∧ j3 < zN h3) ∧ zU h3 j3 = nI j ∧ zC h3 j3 = nI c ∧ zP h3 j3 = k :: zP h j ∧ zS h3 j3 = nI (psrt R c k) ∧ j < j3
theorem PB_found {R : MC} {s0 : Nat} {h : SH} {j c k x : Nat} (hP : PLW R s0 h) (h40 : zN h ≤ 40) (hj : j < zN h) (hc : c < mC R) (hc30 : mC R ≤ 30) (hk : k < 2) (hx : 1 ≤ x) (hx2 : x < zN h) (e1 : zU h x = nI j) (e2 : zC h x = nI c) (e3 : zQ h x = nI k) : PB R s0 h h j c k x := by
  obtain ⟨a, c', k', g1, g2, g3, g4, g5, g6, g7, g8, g9⟩ := hP.2.2.2.1 x hx hx2
  have q1 : a = j := (nI_eq (by omega) (by omega)).mp (g2.symm.trans e1)
  have q2 : c' = c := (nI_eq (by omega) (by omega)).mp (g3.symm.trans e2)
  have q3 : k' = k := by
    have hk' : k' < 2 ^ 31 := by
      have : cP R c' < 2 ^ 31 := Int32.toNatClampNeg_lt _
      omega
    exact (nI_eq hk' (by omega)).mp (g4.symm.trans e3)
  subst q1 q2 q3
  exact ⟨extP_refl h, by omega, rfl, rfl, hP, ⟨hx, hx2⟩, e1, e2, g7, g8, g1⟩
theorem PB_add {R : MC} {s0 : Nat} {h : SH} {j c k : Nat} (hP : PLW R s0 h) (hj : j < zN h) (hc : c < mC R) (hk : k < cP R c) (hs : zS h j = nI (cS R c)) (hno : ∀ x, 1 ≤ x → x < zN h → ¬ (zU h x = nI j ∧ zC h x = nI c ∧ zQ h x = nI k)) : PB R s0 h (addP h j c k (nI (psrt R c k))) j c k (zN h) :=
  ⟨addP_ext _ _ _ _ _, Nat.le_refl _, rfl, rfl, addP_PLW hP hj hc hk hs hno, ⟨hP.1, Nat.lt_succ_self _⟩, pk_us, pk_us, if_pos rfl, pk_us, hj⟩
theorem c_S_partSortK {K : KC} {M : MC} {o : Nat → Int64} {nc ns : Nat} {R : MC} {d c k : Nat} (hC : wfC R) (hK : K.2.1 5 c = R.2 41 c ∧ K.2.1 6 c = R.2 42 c) (hc : c < mC R) (hk : k < cP R c) {post : mj_O → mj_H → Prop} (kk : post (.inl (some (.int (nI (psrt R c k))))) (hp K M o, nc, ns)) : mj_G y_S_partSort b_S_partSort 3 (some .int) [] d none 0 [(0, .ref 1), (1, .int (nI c)), (2, .int (nI k))] [] (hp K M o, nc, ns) post := by
  obtain ⟨-, ⟨-, b40⟩, w1, w2⟩ := hC.2.2 c hc
  have hc30 := hC.2.1
  rcases (show k = 0 ∨ k = 1 by omega) with rfl | rfl
  · exact c_S_partSort0 (by omega) (hK.1.trans (w1 (by omega)).1) kk
  · exact c_S_partSort1 (by omega) (hK.2.trans (w2 (by omega)).1) kk
def st0 (K : KC) (i : Nat) (h : SH) : KC := (upd K.1 12 (nI (zN h)), fun z => if z = 28 then zQ h else if z = 27 then zC h else if z = 26 then zU h else if z = 25 then zS h else if z = 17 + i then zB h else K.2.1 z, fun z => if z = 15 then vp_updL (K.2.2 15) i (zA h) else K.2.2 z)
theorem st0_o {K : KC} {i a : Nat} {h : SH} (ha : a < 17) : (st0 K i h).2.1 a = K.2.1 a := by
  show (if a = 28 then zQ h else if a = 27 then zC h else if a = 26 then zU h else if a = 25 then zS h else if a = 17 + i then zB h else K.2.1 a) = _
  rw [if_neg (by omega), if_neg (by omega), if_neg (by omega), if_neg (by omega), if_neg (by omega)]
theorem st0_b {K : KC} {i : Nat} {h : SH} (hi : i < 8) : (st0 K i h).2.1 (17 + i) = zB h := by
  show (if 17 + i = 28 then zQ h else if 17 + i = 27 then zC h else if 17 + i = 26 then zU h else if 17 + i = 25 then zS h else if 17 + i = 17 + i then zB h else K.2.1 (17 + i)) = _
  rw [if_neg (by omega), if_neg (by omega), if_neg (by omega), if_neg (by omega), if_pos rfl]
theorem st0_a {K : KC} {i : Nat} {h : SH} : (st0 K i h).2.2 15 i = zA h := pk_uLs
theorem st0_wA {K : KC} {i : Nat} {h : SH} {v : Int64} : kl (st0 K i h) 15 i v = st0 K i (shA h v) := by
  unfold kl
  refine Prod.ext rfl (Prod.ext rfl (funext fun z => ?_))
  show va_up _ 15 (vp_updL (vp_updL (K.2.2 15) i (zA h)) i v) z = (if z = 15 then vp_updL (K.2.2 15) i v else K.2.2 z)
  by_cases e : z = 15
  · rw [e, va_up_self, if_pos rfl]
    funext y
    by_cases e2 : y = i
    · rw [e2, pk_uLs, pk_uLs]
    · rw [pk_uLn e2, pk_uLn e2, pk_uLn e2]
  · rw [va_up_ne _ _ e, if_neg e]; exact if_neg e
theorem st0_wB {K : KC} {i j : Nat} {h : SH} {v : Int32} (hi : i < 8) : ka (st0 K i h) (17 + i) j v = st0 K i (shB h (upd (zB h) j v)) := by
  unfold ka
  refine Prod.ext rfl (Prod.ext (funext fun z => ?_) rfl)
  show va_up (st0 K i h).2.1 (17 + i) (upd ((st0 K i h).2.1 (17 + i)) j v) z = (if z = 28 then zQ h else if z = 27 then zC h else if z = 26 then zU h else if z = 25 then zS h else if z = 17 + i then upd (zB h) j v else K.2.1 z)
  rw [st0_b hi]
  by_cases e : z = 17 + i
  · rw [e, va_up_self, if_neg (by omega), if_neg (by omega), if_neg (by omega), if_neg (by omega), if_pos rfl]
  · rw [va_up_ne _ _ e, if_neg e]
    show (if z = 28 then zQ h else if z = 27 then zC h else if z = 26 then zU h else if z = 25 then zS h else if z = 17 + i then zB h else K.2.1 z) = _
    rw [if_neg e]
theorem st0_add {K : KC} {i j c k : Nat} {h : SH} {sv : Int32} : ki (ka (ka (ka (ka (st0 K i h) 25 (zN h) sv) 26 (zN h) (nI j)) 27 (zN h) (nI c)) 28 (zN h) (nI k)) 12 (nI (zN h + 1)) = st0 K i (addP h j c k sv) := by
  refine Prod.ext (funext fun z => ?_) (Prod.ext (funext fun z => ?_) rfl)
  · show upd (upd K.1 12 (nI (zN h))) 12 (nI (zN h + 1)) z = upd K.1 12 (nI (zN h + 1)) z
    by_cases e : z = 12
    · rw [e, pk_us, pk_us]
    · rw [pk_un e, pk_un e, pk_un e]
  · show va_up (va_up (va_up (va_up (st0 K i h).2.1 25 (upd (zS h) (zN h) sv)) 26 (upd (zU h) (zN h) (nI j))) 27 (upd (zC h) (zN h) (nI c))) 28 (upd (zQ h) (zN h) (nI k)) z = (if z = 28 then upd (zQ h) (zN h) (nI k) else if z = 27 then upd (zC h) (zN h) (nI c) else if z = 26 then upd (zU h) (zN h) (nI j) else if z = 25 then upd (zS h) (zN h) sv else if z = 17 + i then zB h else K.2.1 z)
    by_cases e1 : z = 28
    · rw [e1, va_up_self, if_pos rfl]
    rw [va_up_ne _ _ e1, if_neg e1]
    by_cases e2 : z = 27
    · rw [e2, va_up_self, if_pos rfl]
    rw [va_up_ne _ _ e2, if_neg e2]
    by_cases e3 : z = 26
    · rw [e3, va_up_self, if_pos rfl]
    rw [va_up_ne _ _ e3, if_neg e3]
    by_cases e4 : z = 25
    · rw [e4, va_up_self, if_pos rfl]
    rw [va_up_ne _ _ e4, if_neg e4]
    show (if z = 28 then zQ h else if z = 27 then zC h else if z = 26 then zU h else if z = 25 then zS h else if z = 17 + i then zB h else K.2.1 z) = _
    rw [if_neg e1, if_neg e2, if_neg e3, if_neg e4]
theorem st0_id {K : KC} {i n : Nat} (hn : K.1 12 = nI n) (hi : i < 8) (v : Int64) (pi : Nat → List Nat) : kl K 15 i v = st0 K i ((n, v, K.2.1 (17 + i)), (K.2.1 25, K.2.1 26, K.2.1 27, K.2.1 28), pi) := by
  refine Prod.ext (funext fun z => ?_) (Prod.ext (funext fun z => ?_) (funext fun z => ?_))
  · show K.1 z = upd K.1 12 (nI n) z
    by_cases e : z = 12
    · rw [e, pk_us, hn]
    · rw [pk_un e]
  · show K.2.1 z = (if z = 28 then K.2.1 28 else if z = 27 then K.2.1 27 else if z = 26 then K.2.1 26 else if z = 25 then K.2.1 25 else if z = 17 + i then K.2.1 (17 + i) else K.2.1 z)
    by_cases e1 : z = 28
    · rw [if_pos e1, e1]
    rw [if_neg e1]
    by_cases e2 : z = 27
    · rw [if_pos e2, e2]
    rw [if_neg e2]
    by_cases e3 : z = 26
    · rw [if_pos e3, e3]
    rw [if_neg e3]
    by_cases e4 : z = 25
    · rw [if_pos e4, e4]
    rw [if_neg e4]
    by_cases e5 : z = 17 + i
    · rw [if_pos e5, e5]
    rw [if_neg e5]
  · show va_up K.2.2 15 (vp_updL (K.2.2 15) i v) z = (if z = 15 then vp_updL (K.2.2 15) i v else K.2.2 z)
    by_cases e : z = 15
    · rw [e, va_up_self, if_pos rfl]
    · rw [va_up_ne _ _ e, if_neg e]
set_option maxHeartbeats 600000 in
set_option maxRecDepth 100000 in
theorem l_H0_place {K : KC} {M : MC} {o : Nat → Int64} {nc ns : Nat} {R : MC} {d s0 i j c k : Nat} {h : SH} (hC : wfC R) (hK : rS K R) (hP : PLW R s0 h) (hN0 : zN h < 40) (hj : j < zN h) (hc : c < mC R) (hk : k < cP R c) (hs : zS h j = nI (cS R c)) {post : mj_O → mj_H → Prop} (kk : ∀ h3 j3, PB R s0 h h3 j c k j3 → post (.inl (some (.int (nI j3)))) (hp (st0 K i h3) M o, nc, ns)) : ∀ (q x : Nat), 1 ≤ x → x ≤ zN h → zN h < x + q → (∀ y, 1 ≤ y → y < x → ¬ (zU h y = nI j ∧ zC h y = nI c ∧ zQ h y = nI k)) → mj_G y_H_placeBelow b_H_placeBelow 5 (some .int) [] (d + 1) none 3 [(4, .int (nI x)), (0, .ref 14), (1, .int (nI j)), (2, .int (nI c)), (3, .int (nI k))] [] (hp (st0 K i h) M o, nc, ns) post := by
  have hc30 := hC.2.1
  have b40 := (hC.2.2 c hc).2.1.2
  intro q
  induction q with
  | zero => intro x h0 h1 h2; omega
  | succ q ih =>
    intro x h0 h1 h2 hno
    refine G_iload 0 d_H_placeBelow_3 rfl ?_
    refine G_aload_n 1 d_H_placeBelow_5 rfl ?_
    refine G_gt d_H_placeBelow_6 fr_H_52 (rd_H0_placeCount (st0 K i h) M o) ?_
    rw [show (st0 K i h).1 12 = nI (zN h) from rfl]
    refine G_icge 54 d_H_placeBelow_9 (by decide) (fun h9 => ?_) (fun h9 => ?_)
    · have h9 := (nI_leI (by omega) (by omega)).mp h9
      obtain rfl : x = zN h := by omega
      refine G_aload_n 1 d_H_placeBelow_54 rfl ?_
      refine G_gt d_H_placeBelow_55 fr_H_52 (rd_H0_placeCount (st0 K i h) M o) ?_
      rw [show (st0 K i h).1 12 = nI (zN h) from rfl]
      refine G_istore (ls' := [(4, .int (nI (zN h))), (0, .ref 14), (1, .int (nI j)), (2, .int (nI c)), (3, .int (nI k))]) d_H_placeBelow_58 (by decide) rfl ?_
      refine G_aload_n 1 d_H_placeBelow_60 rfl ?_
      refine G_gt d_H_placeBelow_61 fr_H_28 (rd_H0_placeSort (st0 K i h) M o) ?_
      refine G_iload 0 d_H_placeBelow_64 rfl ?_
      refine G_aload_n 1 d_H_placeBelow_66 rfl ?_
      refine G_gt d_H_placeBelow_67 fr_H_9 (rd_H0_sorts (st0 K i h) M o) ?_
      refine G_iload_n 3 d_H_placeBelow_70 rfl ?_
      refine G_iload_n 4 d_H_placeBelow_71 rfl ?_
      refine G_cv1 (some (.int (nI (psrt R c k)))) (hp (st0 K i h) M o, nc, ns) (As := [.int (nI c), .int (nI k)]) d_H_placeBelow_72 cv_H_85 cw_S_partSort (ob_S (st0 K i h) M o) np_S_partSort (Nat.le_of_ble_eq_true rfl) (Nat.le_of_ble_eq_true rfl) (fun post2 k2 => c_S_partSortK hC (by rw [st0_o (by omega), st0_o (by omega)]; exact ⟨(hK.2.2 c hc).2.2.1, (hK.2.2 c hc).2.2.2⟩) hc hk k2) rfl ?_
      refine G_iasN d_H_placeBelow_75 (ar_25 (st0 K i h) M o) (by decide) (by omega) (aw_25 (st0 K i h) M o (zN h) (nI (psrt R c k))) ?_
      refine G_aload_n 1 d_H_placeBelow_76 rfl ?_
      refine G_gt d_H_placeBelow_77 fr_H_32 (rd_H0_placeAbove (ka (st0 K i h) 25 (zN h) (nI (psrt R c k))) M o) ?_
      refine G_iload 0 d_H_placeBelow_80 rfl ?_
      refine G_iload_n 2 d_H_placeBelow_82 rfl ?_
      refine G_iasN d_H_placeBelow_83 (ar_26 (ka (st0 K i h) 25 (zN h) (nI (psrt R c k))) M o) (by decide) (by omega) (aw_26 (ka (st0 K i h) 25 (zN h) (nI (psrt R c k))) M o (zN h) (nI j)) ?_
      refine G_aload_n 1 d_H_placeBelow_84 rfl ?_
      refine G_gt d_H_placeBelow_85 fr_H_35 (rd_H0_conAbove (ka (ka (st0 K i h) 25 (zN h) (nI (psrt R c k))) 26 (zN h) (nI j)) M o) ?_
      refine G_iload 0 d_H_placeBelow_88 rfl ?_
      refine G_iload_n 3 d_H_placeBelow_90 rfl ?_
      refine G_iasN d_H_placeBelow_91 (ar_27 (ka (ka (st0 K i h) 25 (zN h) (nI (psrt R c k))) 26 (zN h) (nI j)) M o) (by decide) (by omega) (aw_27 (ka (ka (st0 K i h) 25 (zN h) (nI (psrt R c k))) 26 (zN h) (nI j)) M o (zN h) (nI c)) ?_
      refine G_aload_n 1 d_H_placeBelow_92 rfl ?_
      refine G_gt d_H_placeBelow_93 fr_H_38 (rd_H0_partAbove (ka (ka (ka (st0 K i h) 25 (zN h) (nI (psrt R c k))) 26 (zN h) (nI j)) 27 (zN h) (nI c)) M o) ?_
      refine G_iload 0 d_H_placeBelow_96 rfl ?_
      refine G_iload_n 4 d_H_placeBelow_98 rfl ?_
      refine G_iasN d_H_placeBelow_99 (ar_28 (ka (ka (ka (st0 K i h) 25 (zN h) (nI (psrt R c k))) 26 (zN h) (nI j)) 27 (zN h) (nI c)) M o) (by decide) (by omega) (aw_28 (ka (ka (ka (st0 K i h) 25 (zN h) (nI (psrt R c k))) 26 (zN h) (nI j)) 27 (zN h) (nI c)) M o (zN h) (nI k)) ?_
      refine G_aload_n 1 d_H_placeBelow_100 rfl ?_
      refine G_dup d_H_placeBelow_101 rfl ?_
      refine G_gt d_H_placeBelow_102 fr_H_52 (rd_H0_placeCount (ka (ka (ka (ka (st0 K i h) 25 (zN h) (nI (psrt R c k))) 26 (zN h) (nI j)) 27 (zN h) (nI c)) 28 (zN h) (nI k)) M o) ?_
      rw [show (ka (ka (ka (ka (st0 K i h) 25 (zN h) (nI (psrt R c k))) 26 (zN h) (nI j)) 27 (zN h) (nI c)) 28 (zN h) (nI k)).1 12 = nI (zN h) from rfl]
      refine G_iconst (v := 1) d_H_placeBelow_105 (by decide) ?_
      refine G_iadd d_H_placeBelow_106 ?_
      rw [nI_1]
      refine G_pt d_H_placeBelow_107 fp_H_52 (wr_H0_placeCount (ka (ka (ka (ka (st0 K i h) 25 (zN h) (nI (psrt R c k))) 26 (zN h) (nI j)) 27 (zN h) (nI c)) 28 (zN h) (nI k)) M o (nI (zN h + 1))) ?_
      rw [st0_add]
      refine G_iload 0 d_H_placeBelow_110 rfl ?_
      exact G_iret d_H_placeBelow_112 rfl (kk _ _ (PB_add hP hj hc hk hs (fun y y1 y2 => hno y y1 y2)))
    · have h9 : ¬ _ := fun z => h9 ((nI_leI (by omega) (by omega)).mpr z)
      refine G_aload_n 1 d_H_placeBelow_12 rfl ?_
      refine G_gt d_H_placeBelow_13 fr_H_32 (rd_H0_placeAbove (st0 K i h) M o) ?_
      refine G_iload 0 d_H_placeBelow_16 rfl ?_
      refine G_ialN d_H_placeBelow_18 (ar_26 (st0 K i h) M o) (by decide) (by omega) ?_
      rw [show (st0 K i h).2.1 26 x = zU h x from rfl]
      refine G_iload_n 2 d_H_placeBelow_19 rfl ?_
      refine G_icne 48 d_H_placeBelow_20 (by decide) (fun h20 => ?_) (fun h20 => ?_)
      · refine G_iinc 0 (v := nI (x + 1)) (ls' := [(4, .int (nI (x + 1))), (0, .ref 14), (1, .int (nI j)), (2, .int (nI c)), (3, .int (nI k))]) d_H_placeBelow_48 rfl (nI_1 _) (by decide) rfl ?_
        refine G_goto 3 d_H_placeBelow_51 (by decide) ?_
        exact G_sub [0, 1, 2, 3, 4] rfl (ih (x + 1) (by omega) (by omega) (by omega) (fun y y1 y2 => (Nat.lt_succ_iff_lt_or_eq.mp y2).elim (hno y y1) (fun z => by subst z; exact (fun q => h20 q.1))))
      · refine G_aload_n 1 d_H_placeBelow_23 rfl ?_
        refine G_gt d_H_placeBelow_24 fr_H_35 (rd_H0_conAbove (st0 K i h) M o) ?_
        refine G_iload 0 d_H_placeBelow_27 rfl ?_
        refine G_ialN d_H_placeBelow_29 (ar_27 (st0 K i h) M o) (by decide) (by omega) ?_
        rw [show (st0 K i h).2.1 27 x = zC h x from rfl]
        refine G_iload_n 3 d_H_placeBelow_30 rfl ?_
        refine G_icne 48 d_H_placeBelow_31 (by decide) (fun h31 => ?_) (fun h31 => ?_)
        · refine G_iinc 0 (v := nI (x + 1)) (ls' := [(4, .int (nI (x + 1))), (0, .ref 14), (1, .int (nI j)), (2, .int (nI c)), (3, .int (nI k))]) d_H_placeBelow_48 rfl (nI_1 _) (by decide) rfl ?_
          refine G_goto 3 d_H_placeBelow_51 (by decide) ?_
          exact G_sub [0, 1, 2, 3, 4] rfl (ih (x + 1) (by omega) (by omega) (by omega) (fun y y1 y2 => (Nat.lt_succ_iff_lt_or_eq.mp y2).elim (hno y y1) (fun z => by subst z; exact (fun q => h31 q.2.1))))
        · refine G_aload_n 1 d_H_placeBelow_34 rfl ?_
          refine G_gt d_H_placeBelow_35 fr_H_38 (rd_H0_partAbove (st0 K i h) M o) ?_
          refine G_iload 0 d_H_placeBelow_38 rfl ?_
          refine G_ialN d_H_placeBelow_40 (ar_28 (st0 K i h) M o) (by decide) (by omega) ?_
          rw [show (st0 K i h).2.1 28 x = zQ h x from rfl]
          refine G_iload_n 4 d_H_placeBelow_41 rfl ?_
          refine G_icne 48 d_H_placeBelow_42 (by decide) (fun h42 => ?_) (fun h42 => ?_)
          · refine G_iinc 0 (v := nI (x + 1)) (ls' := [(4, .int (nI (x + 1))), (0, .ref 14), (1, .int (nI j)), (2, .int (nI c)), (3, .int (nI k))]) d_H_placeBelow_48 rfl (nI_1 _) (by decide) rfl ?_
            refine G_goto 3 d_H_placeBelow_51 (by decide) ?_
            exact G_sub [0, 1, 2, 3, 4] rfl (ih (x + 1) (by omega) (by omega) (by omega) (fun y y1 y2 => (Nat.lt_succ_iff_lt_or_eq.mp y2).elim (hno y y1) (fun z => by subst z; exact (fun q => h42 q.2.2))))
          · refine G_iload 0 d_H_placeBelow_45 rfl ?_
            exact G_iret d_H_placeBelow_47 rfl (kk h x (PB_found hP (by omega) hj hc hc30 (by omega) (by omega) (by omega) h20 h31 h42))
set_option maxHeartbeats 600000 in
set_option maxRecDepth 100000 in
theorem c_H0_place {K : KC} {M : MC} {o : Nat → Int64} {nc ns : Nat} {R : MC} {d s0 i j c k : Nat} {h : SH} (hC : wfC R) (hK : rS K R) (hP : PLW R s0 h) (hN0 : zN h < 40) (hj : j < zN h) (hc : c < mC R) (hk : k < cP R c) (hs : zS h j = nI (cS R c)) {post : mj_O → mj_H → Prop} (kk : ∀ h3 j3, PB R s0 h h3 j c k j3 → post (.inl (some (.int (nI j3)))) (hp (st0 K i h3) M o, nc, ns)) : mj_G y_H_placeBelow b_H_placeBelow 5 (some .int) [] (d + 1) none 0 [(0, .ref 14), (1, .int (nI j)), (2, .int (nI c)), (3, .int (nI k))] [] (hp (st0 K i h) M o, nc, ns) post := by
  refine G_iconst (v := nI 1) d_H_placeBelow_0 (by decide) ?_
  refine G_istore (ls' := [(4, .int (nI 1)), (0, .ref 14), (1, .int (nI j)), (2, .int (nI c)), (3, .int (nI k))]) d_H_placeBelow_1 (by decide) rfl ?_
  exact G_sub [0, 1, 2, 3, 4] rfl (l_H0_place hC hK hP hN0 hj hc hk hs kk (zN h + 1) 1 (by omega) hP.1 (by omega) (fun y y1 y2 => absurd y1 (by omega)))
def st1 (K : KC) (i : Nat) (h : SH) : KC := (upd K.1 22 (nI (zN h)), fun z => if z = 37 then zQ h else if z = 36 then zC h else if z = 35 then zU h else if z = 34 then zS h else if z = 32 + i then zB h else K.2.1 z, fun z => if z = 30 then vp_updL (K.2.2 30) i (zA h) else K.2.2 z)
theorem st1_o {K : KC} {i a : Nat} {h : SH} (ha : a < 32) : (st1 K i h).2.1 a = K.2.1 a := by
  show (if a = 37 then zQ h else if a = 36 then zC h else if a = 35 then zU h else if a = 34 then zS h else if a = 32 + i then zB h else K.2.1 a) = _
  rw [if_neg (by omega), if_neg (by omega), if_neg (by omega), if_neg (by omega), if_neg (by omega)]
theorem st1_b {K : KC} {i : Nat} {h : SH} (hi : i < 2) : (st1 K i h).2.1 (32 + i) = zB h := by
  show (if 32 + i = 37 then zQ h else if 32 + i = 36 then zC h else if 32 + i = 35 then zU h else if 32 + i = 34 then zS h else if 32 + i = 32 + i then zB h else K.2.1 (32 + i)) = _
  rw [if_neg (by omega), if_neg (by omega), if_neg (by omega), if_neg (by omega), if_pos rfl]
theorem st1_a {K : KC} {i : Nat} {h : SH} : (st1 K i h).2.2 30 i = zA h := pk_uLs
theorem st1_wA {K : KC} {i : Nat} {h : SH} {v : Int64} : kl (st1 K i h) 30 i v = st1 K i (shA h v) := by
  unfold kl
  refine Prod.ext rfl (Prod.ext rfl (funext fun z => ?_))
  show va_up _ 30 (vp_updL (vp_updL (K.2.2 30) i (zA h)) i v) z = (if z = 30 then vp_updL (K.2.2 30) i v else K.2.2 z)
  by_cases e : z = 30
  · rw [e, va_up_self, if_pos rfl]
    funext y
    by_cases e2 : y = i
    · rw [e2, pk_uLs, pk_uLs]
    · rw [pk_uLn e2, pk_uLn e2, pk_uLn e2]
  · rw [va_up_ne _ _ e, if_neg e]; exact if_neg e
theorem st1_wB {K : KC} {i j : Nat} {h : SH} {v : Int32} (hi : i < 2) : ka (st1 K i h) (32 + i) j v = st1 K i (shB h (upd (zB h) j v)) := by
  unfold ka
  refine Prod.ext rfl (Prod.ext (funext fun z => ?_) rfl)
  show va_up (st1 K i h).2.1 (32 + i) (upd ((st1 K i h).2.1 (32 + i)) j v) z = (if z = 37 then zQ h else if z = 36 then zC h else if z = 35 then zU h else if z = 34 then zS h else if z = 32 + i then upd (zB h) j v else K.2.1 z)
  rw [st1_b hi]
  by_cases e : z = 32 + i
  · rw [e, va_up_self, if_neg (by omega), if_neg (by omega), if_neg (by omega), if_neg (by omega), if_pos rfl]
  · rw [va_up_ne _ _ e, if_neg e]
    show (if z = 37 then zQ h else if z = 36 then zC h else if z = 35 then zU h else if z = 34 then zS h else if z = 32 + i then zB h else K.2.1 z) = _
    rw [if_neg e]
theorem st1_add {K : KC} {i j c k : Nat} {h : SH} {sv : Int32} : ki (ka (ka (ka (ka (st1 K i h) 34 (zN h) sv) 35 (zN h) (nI j)) 36 (zN h) (nI c)) 37 (zN h) (nI k)) 22 (nI (zN h + 1)) = st1 K i (addP h j c k sv) := by
  refine Prod.ext (funext fun z => ?_) (Prod.ext (funext fun z => ?_) rfl)
  · show upd (upd K.1 22 (nI (zN h))) 22 (nI (zN h + 1)) z = upd K.1 22 (nI (zN h + 1)) z
    by_cases e : z = 22
    · rw [e, pk_us, pk_us]
    · rw [pk_un e, pk_un e, pk_un e]
  · show va_up (va_up (va_up (va_up (st1 K i h).2.1 34 (upd (zS h) (zN h) sv)) 35 (upd (zU h) (zN h) (nI j))) 36 (upd (zC h) (zN h) (nI c))) 37 (upd (zQ h) (zN h) (nI k)) z = (if z = 37 then upd (zQ h) (zN h) (nI k) else if z = 36 then upd (zC h) (zN h) (nI c) else if z = 35 then upd (zU h) (zN h) (nI j) else if z = 34 then upd (zS h) (zN h) sv else if z = 32 + i then zB h else K.2.1 z)
    by_cases e1 : z = 37
    · rw [e1, va_up_self, if_pos rfl]
    rw [va_up_ne _ _ e1, if_neg e1]
    by_cases e2 : z = 36
    · rw [e2, va_up_self, if_pos rfl]
    rw [va_up_ne _ _ e2, if_neg e2]
    by_cases e3 : z = 35
    · rw [e3, va_up_self, if_pos rfl]
    rw [va_up_ne _ _ e3, if_neg e3]
    by_cases e4 : z = 34
    · rw [e4, va_up_self, if_pos rfl]
    rw [va_up_ne _ _ e4, if_neg e4]
    show (if z = 37 then zQ h else if z = 36 then zC h else if z = 35 then zU h else if z = 34 then zS h else if z = 32 + i then zB h else K.2.1 z) = _
    rw [if_neg e1, if_neg e2, if_neg e3, if_neg e4]
theorem st1_id {K : KC} {i n : Nat} (hn : K.1 22 = nI n) (hi : i < 2) (v : Int64) (pi : Nat → List Nat) : kl K 30 i v = st1 K i ((n, v, K.2.1 (32 + i)), (K.2.1 34, K.2.1 35, K.2.1 36, K.2.1 37), pi) := by
  refine Prod.ext (funext fun z => ?_) (Prod.ext (funext fun z => ?_) (funext fun z => ?_))
  · show K.1 z = upd K.1 22 (nI n) z
    by_cases e : z = 22
    · rw [e, pk_us, hn]
    · rw [pk_un e]
  · show K.2.1 z = (if z = 37 then K.2.1 37 else if z = 36 then K.2.1 36 else if z = 35 then K.2.1 35 else if z = 34 then K.2.1 34 else if z = 32 + i then K.2.1 (32 + i) else K.2.1 z)
    by_cases e1 : z = 37
    · rw [if_pos e1, e1]
    rw [if_neg e1]
    by_cases e2 : z = 36
    · rw [if_pos e2, e2]
    rw [if_neg e2]
    by_cases e3 : z = 35
    · rw [if_pos e3, e3]
    rw [if_neg e3]
    by_cases e4 : z = 34
    · rw [if_pos e4, e4]
    rw [if_neg e4]
    by_cases e5 : z = 32 + i
    · rw [if_pos e5, e5]
    rw [if_neg e5]
  · show va_up K.2.2 30 (vp_updL (K.2.2 30) i v) z = (if z = 30 then vp_updL (K.2.2 30) i v else K.2.2 z)
    by_cases e : z = 30
    · rw [e, va_up_self, if_pos rfl]
    · rw [va_up_ne _ _ e, if_neg e]
set_option maxHeartbeats 600000 in
set_option maxRecDepth 100000 in
theorem l_H1_place {K : KC} {M : MC} {o : Nat → Int64} {nc ns : Nat} {R : MC} {d s0 i j c k : Nat} {h : SH} (hC : wfC R) (hK : rS K R) (hP : PLW R s0 h) (hN0 : zN h < 24) (hj : j < zN h) (hc : c < mC R) (hk : k < cP R c) (hs : zS h j = nI (cS R c)) {post : mj_O → mj_H → Prop} (kk : ∀ h3 j3, PB R s0 h h3 j c k j3 → post (.inl (some (.int (nI j3)))) (hp (st1 K i h3) M o, nc, ns)) : ∀ (q x : Nat), 1 ≤ x → x ≤ zN h → zN h < x + q → (∀ y, 1 ≤ y → y < x → ¬ (zU h y = nI j ∧ zC h y = nI c ∧ zQ h y = nI k)) → mj_G y_H_placeBelow b_H_placeBelow 5 (some .int) [] (d + 1) none 3 [(4, .int (nI x)), (0, .ref 29), (1, .int (nI j)), (2, .int (nI c)), (3, .int (nI k))] [] (hp (st1 K i h) M o, nc, ns) post := by
  have hc30 := hC.2.1
  have b40 := (hC.2.2 c hc).2.1.2
  intro q
  induction q with
  | zero => intro x h0 h1 h2; omega
  | succ q ih =>
    intro x h0 h1 h2 hno
    refine G_iload 0 d_H_placeBelow_3 rfl ?_
    refine G_aload_n 1 d_H_placeBelow_5 rfl ?_
    refine G_gt d_H_placeBelow_6 fr_H_52 (rd_H1_placeCount (st1 K i h) M o) ?_
    rw [show (st1 K i h).1 22 = nI (zN h) from rfl]
    refine G_icge 54 d_H_placeBelow_9 (by decide) (fun h9 => ?_) (fun h9 => ?_)
    · have h9 := (nI_leI (by omega) (by omega)).mp h9
      obtain rfl : x = zN h := by omega
      refine G_aload_n 1 d_H_placeBelow_54 rfl ?_
      refine G_gt d_H_placeBelow_55 fr_H_52 (rd_H1_placeCount (st1 K i h) M o) ?_
      rw [show (st1 K i h).1 22 = nI (zN h) from rfl]
      refine G_istore (ls' := [(4, .int (nI (zN h))), (0, .ref 29), (1, .int (nI j)), (2, .int (nI c)), (3, .int (nI k))]) d_H_placeBelow_58 (by decide) rfl ?_
      refine G_aload_n 1 d_H_placeBelow_60 rfl ?_
      refine G_gt d_H_placeBelow_61 fr_H_28 (rd_H1_placeSort (st1 K i h) M o) ?_
      refine G_iload 0 d_H_placeBelow_64 rfl ?_
      refine G_aload_n 1 d_H_placeBelow_66 rfl ?_
      refine G_gt d_H_placeBelow_67 fr_H_9 (rd_H1_sorts (st1 K i h) M o) ?_
      refine G_iload_n 3 d_H_placeBelow_70 rfl ?_
      refine G_iload_n 4 d_H_placeBelow_71 rfl ?_
      refine G_cv1 (some (.int (nI (psrt R c k)))) (hp (st1 K i h) M o, nc, ns) (As := [.int (nI c), .int (nI k)]) d_H_placeBelow_72 cv_H_85 cw_S_partSort (ob_S (st1 K i h) M o) np_S_partSort (Nat.le_of_ble_eq_true rfl) (Nat.le_of_ble_eq_true rfl) (fun post2 k2 => c_S_partSortK hC (by rw [st1_o (by omega), st1_o (by omega)]; exact ⟨(hK.2.2 c hc).2.2.1, (hK.2.2 c hc).2.2.2⟩) hc hk k2) rfl ?_
      refine G_iasN d_H_placeBelow_75 (ar_34 (st1 K i h) M o) (by decide) (by omega) (aw_34 (st1 K i h) M o (zN h) (nI (psrt R c k))) ?_
      refine G_aload_n 1 d_H_placeBelow_76 rfl ?_
      refine G_gt d_H_placeBelow_77 fr_H_32 (rd_H1_placeAbove (ka (st1 K i h) 34 (zN h) (nI (psrt R c k))) M o) ?_
      refine G_iload 0 d_H_placeBelow_80 rfl ?_
      refine G_iload_n 2 d_H_placeBelow_82 rfl ?_
      refine G_iasN d_H_placeBelow_83 (ar_35 (ka (st1 K i h) 34 (zN h) (nI (psrt R c k))) M o) (by decide) (by omega) (aw_35 (ka (st1 K i h) 34 (zN h) (nI (psrt R c k))) M o (zN h) (nI j)) ?_
      refine G_aload_n 1 d_H_placeBelow_84 rfl ?_
      refine G_gt d_H_placeBelow_85 fr_H_35 (rd_H1_conAbove (ka (ka (st1 K i h) 34 (zN h) (nI (psrt R c k))) 35 (zN h) (nI j)) M o) ?_
      refine G_iload 0 d_H_placeBelow_88 rfl ?_
      refine G_iload_n 3 d_H_placeBelow_90 rfl ?_
      refine G_iasN d_H_placeBelow_91 (ar_36 (ka (ka (st1 K i h) 34 (zN h) (nI (psrt R c k))) 35 (zN h) (nI j)) M o) (by decide) (by omega) (aw_36 (ka (ka (st1 K i h) 34 (zN h) (nI (psrt R c k))) 35 (zN h) (nI j)) M o (zN h) (nI c)) ?_
      refine G_aload_n 1 d_H_placeBelow_92 rfl ?_
      refine G_gt d_H_placeBelow_93 fr_H_38 (rd_H1_partAbove (ka (ka (ka (st1 K i h) 34 (zN h) (nI (psrt R c k))) 35 (zN h) (nI j)) 36 (zN h) (nI c)) M o) ?_
      refine G_iload 0 d_H_placeBelow_96 rfl ?_
      refine G_iload_n 4 d_H_placeBelow_98 rfl ?_
      refine G_iasN d_H_placeBelow_99 (ar_37 (ka (ka (ka (st1 K i h) 34 (zN h) (nI (psrt R c k))) 35 (zN h) (nI j)) 36 (zN h) (nI c)) M o) (by decide) (by omega) (aw_37 (ka (ka (ka (st1 K i h) 34 (zN h) (nI (psrt R c k))) 35 (zN h) (nI j)) 36 (zN h) (nI c)) M o (zN h) (nI k)) ?_
      refine G_aload_n 1 d_H_placeBelow_100 rfl ?_
      refine G_dup d_H_placeBelow_101 rfl ?_
      refine G_gt d_H_placeBelow_102 fr_H_52 (rd_H1_placeCount (ka (ka (ka (ka (st1 K i h) 34 (zN h) (nI (psrt R c k))) 35 (zN h) (nI j)) 36 (zN h) (nI c)) 37 (zN h) (nI k)) M o) ?_
      rw [show (ka (ka (ka (ka (st1 K i h) 34 (zN h) (nI (psrt R c k))) 35 (zN h) (nI j)) 36 (zN h) (nI c)) 37 (zN h) (nI k)).1 22 = nI (zN h) from rfl]
      refine G_iconst (v := 1) d_H_placeBelow_105 (by decide) ?_
      refine G_iadd d_H_placeBelow_106 ?_
      rw [nI_1]
      refine G_pt d_H_placeBelow_107 fp_H_52 (wr_H1_placeCount (ka (ka (ka (ka (st1 K i h) 34 (zN h) (nI (psrt R c k))) 35 (zN h) (nI j)) 36 (zN h) (nI c)) 37 (zN h) (nI k)) M o (nI (zN h + 1))) ?_
      rw [st1_add]
      refine G_iload 0 d_H_placeBelow_110 rfl ?_
      exact G_iret d_H_placeBelow_112 rfl (kk _ _ (PB_add hP hj hc hk hs (fun y y1 y2 => hno y y1 y2)))
    · have h9 : ¬ _ := fun z => h9 ((nI_leI (by omega) (by omega)).mpr z)
      refine G_aload_n 1 d_H_placeBelow_12 rfl ?_
      refine G_gt d_H_placeBelow_13 fr_H_32 (rd_H1_placeAbove (st1 K i h) M o) ?_
      refine G_iload 0 d_H_placeBelow_16 rfl ?_
      refine G_ialN d_H_placeBelow_18 (ar_35 (st1 K i h) M o) (by decide) (by omega) ?_
      rw [show (st1 K i h).2.1 35 x = zU h x from rfl]
      refine G_iload_n 2 d_H_placeBelow_19 rfl ?_
      refine G_icne 48 d_H_placeBelow_20 (by decide) (fun h20 => ?_) (fun h20 => ?_)
      · refine G_iinc 0 (v := nI (x + 1)) (ls' := [(4, .int (nI (x + 1))), (0, .ref 29), (1, .int (nI j)), (2, .int (nI c)), (3, .int (nI k))]) d_H_placeBelow_48 rfl (nI_1 _) (by decide) rfl ?_
        refine G_goto 3 d_H_placeBelow_51 (by decide) ?_
        exact G_sub [0, 1, 2, 3, 4] rfl (ih (x + 1) (by omega) (by omega) (by omega) (fun y y1 y2 => (Nat.lt_succ_iff_lt_or_eq.mp y2).elim (hno y y1) (fun z => by subst z; exact (fun q => h20 q.1))))
      · refine G_aload_n 1 d_H_placeBelow_23 rfl ?_
        refine G_gt d_H_placeBelow_24 fr_H_35 (rd_H1_conAbove (st1 K i h) M o) ?_
        refine G_iload 0 d_H_placeBelow_27 rfl ?_
        refine G_ialN d_H_placeBelow_29 (ar_36 (st1 K i h) M o) (by decide) (by omega) ?_
        rw [show (st1 K i h).2.1 36 x = zC h x from rfl]
        refine G_iload_n 3 d_H_placeBelow_30 rfl ?_
        refine G_icne 48 d_H_placeBelow_31 (by decide) (fun h31 => ?_) (fun h31 => ?_)
        · refine G_iinc 0 (v := nI (x + 1)) (ls' := [(4, .int (nI (x + 1))), (0, .ref 29), (1, .int (nI j)), (2, .int (nI c)), (3, .int (nI k))]) d_H_placeBelow_48 rfl (nI_1 _) (by decide) rfl ?_
          refine G_goto 3 d_H_placeBelow_51 (by decide) ?_
          exact G_sub [0, 1, 2, 3, 4] rfl (ih (x + 1) (by omega) (by omega) (by omega) (fun y y1 y2 => (Nat.lt_succ_iff_lt_or_eq.mp y2).elim (hno y y1) (fun z => by subst z; exact (fun q => h31 q.2.1))))
        · refine G_aload_n 1 d_H_placeBelow_34 rfl ?_
          refine G_gt d_H_placeBelow_35 fr_H_38 (rd_H1_partAbove (st1 K i h) M o) ?_
          refine G_iload 0 d_H_placeBelow_38 rfl ?_
          refine G_ialN d_H_placeBelow_40 (ar_37 (st1 K i h) M o) (by decide) (by omega) ?_
          rw [show (st1 K i h).2.1 37 x = zQ h x from rfl]
          refine G_iload_n 4 d_H_placeBelow_41 rfl ?_
          refine G_icne 48 d_H_placeBelow_42 (by decide) (fun h42 => ?_) (fun h42 => ?_)
          · refine G_iinc 0 (v := nI (x + 1)) (ls' := [(4, .int (nI (x + 1))), (0, .ref 29), (1, .int (nI j)), (2, .int (nI c)), (3, .int (nI k))]) d_H_placeBelow_48 rfl (nI_1 _) (by decide) rfl ?_
            refine G_goto 3 d_H_placeBelow_51 (by decide) ?_
            exact G_sub [0, 1, 2, 3, 4] rfl (ih (x + 1) (by omega) (by omega) (by omega) (fun y y1 y2 => (Nat.lt_succ_iff_lt_or_eq.mp y2).elim (hno y y1) (fun z => by subst z; exact (fun q => h42 q.2.2))))
          · refine G_iload 0 d_H_placeBelow_45 rfl ?_
            exact G_iret d_H_placeBelow_47 rfl (kk h x (PB_found hP (by omega) hj hc hc30 (by omega) (by omega) (by omega) h20 h31 h42))
set_option maxHeartbeats 600000 in
set_option maxRecDepth 100000 in
theorem c_H1_place {K : KC} {M : MC} {o : Nat → Int64} {nc ns : Nat} {R : MC} {d s0 i j c k : Nat} {h : SH} (hC : wfC R) (hK : rS K R) (hP : PLW R s0 h) (hN0 : zN h < 24) (hj : j < zN h) (hc : c < mC R) (hk : k < cP R c) (hs : zS h j = nI (cS R c)) {post : mj_O → mj_H → Prop} (kk : ∀ h3 j3, PB R s0 h h3 j c k j3 → post (.inl (some (.int (nI j3)))) (hp (st1 K i h3) M o, nc, ns)) : mj_G y_H_placeBelow b_H_placeBelow 5 (some .int) [] (d + 1) none 0 [(0, .ref 29), (1, .int (nI j)), (2, .int (nI c)), (3, .int (nI k))] [] (hp (st1 K i h) M o, nc, ns) post := by
  refine G_iconst (v := nI 1) d_H_placeBelow_0 (by decide) ?_
  refine G_istore (ls' := [(4, .int (nI 1)), (0, .ref 29), (1, .int (nI j)), (2, .int (nI c)), (3, .int (nI k))]) d_H_placeBelow_1 (by decide) rfl ?_
  exact G_sub [0, 1, 2, 3, 4] rfl (l_H1_place hC hK hP hN0 hj hc hk hs kk (zN h + 1) 1 (by omega) hP.1 (by omega) (fun y y1 y2 => absurd y1 (by omega)))
