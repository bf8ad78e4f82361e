/-! covers and meets -/
theorem G_cvQ {y : MethodName} {cc : ByteArray} {nL : Nat} {rt : Option FieldType} {hh : List (Nat × Nat × Nat × Nat)} {d : Nat} {sc : Option (Nat × (Nat → Int32))} {pc : Nat} {ls : List (Nat × Value)} {st : List Value} {A : mj_H} {post : mj_O → mj_H → Prop} {y' : MethodName} {cc' : ByteArray} {nL' : Nat} {rt' : Option FieldType} {hh' : List (Nat × Nat × Nat × Nat)} {As : List Value} (Q : mj_H → Prop) (T : Prop) (C : Nat) {index ci b : Nat} (hd : decode cc pc = .ok (.invokevirtual index, 3)) (hcv : mj_cv y.cls index y' ci) (hcw : mj_cw y' cc' nL' rt' hh') (hb : mj_ob A.1 b ci) (hn1 : (parseMethodDescriptor y'.desc).map (fun d => d.parameters.length) = some As.length) (hsl : (lg_sl (.ref b :: As)).length ≤ nL') (hw : (st.map fun v => v.category).sum + (nL' + 11) ≤ 41) (hnh : mj_nh hh pc = true)
    (hG : ∀ post' : mj_O → mj_H → Prop, (∀ A', Q A' → post' (.inl none) A') → (T → post' (.inr C) (A.1, A.2.1 + 1, A.2.2 + 6)) → mj_G y' cc' nL' rt' hh' d none 0 (lv_args 0 (.ref b :: As)) [] A post') (hlen : ∀ A', Q A' → A'.1.length = A.1.length)
    (kr : ∀ A', Q A' → mj_G y cc nL rt hh (d + 1) sc (pc + 3) ls st A' post) (kt : T → post (.inr C) (A.1, A.2.1 + 1, A.2.2 + 6)) : mj_G y cc nL rt hh (d + 1) sc pc ls (As.reverse ++ .ref b :: st) A post := by
  obtain ⟨fs, hb⟩ := hb
  refine G_callv (post' := fun out A' => (out = .inl none ∧ Q A') ∨ (out = .inr C ∧ A' = (A.1, A.2.1 + 1, A.2.2 + 6) ∧ T)) hd hcv hcw hb hn1 hsl hw (hG _ (fun A' p => Or.inl ⟨rfl, p⟩) (fun p => Or.inr ⟨rfl, rfl, p⟩)) (fun out A' h => ?_) (fun v A' h => ?_) (fun C' A' h => ?_)
  · rcases h with ⟨-, p⟩ | ⟨-, rfl, -⟩
    · exact hlen A' p
    · rfl
  · rcases h with ⟨h1, p⟩ | ⟨h1, -⟩
    · cases h1; exact kr A' p
    · cases h1
  · rcases h with ⟨h1, -⟩ | ⟨h1, rfl, p⟩
    · cases h1
    · cases h1; exact ⟨hnh, kt p⟩
def pq (p q : Nat) : Nat → Nat := fun i => if i = 1 then q else if i = 0 then p else 0
theorem frH1_trans {a b c : KC} (h1 : frH1 a b) (h2 : frH1 b c) : frH1 a c := ⟨fun k hk => (h1.1 k hk).trans (h2.1 k hk), fun k hk => (h1.2.1 k hk).trans (h2.2.1 k hk), h1.2.2.trans h2.2.2⟩
theorem fr1_rS {K' K : KC} {R : MC} (hf : frH1 K' K) (h : rS K R) : rS K' R := by
  obtain ⟨f1, f2, f3⟩ := hf
  unfold rS
  rw [f1 0 (by omega), f1 1 (by omega), f2 3 (by omega), f2 4 (by omega), f2 5 (by omega), f2 6 (by omega)]; exact h
theorem fr1_rP {K' K : KC} {R : MC} (hf : frH1 K' K) (h : rP K R) : rP K' R := by
  obtain ⟨f1, f2, f3⟩ := hf
  unfold rP
  rw [f1 4 (by omega), f2 8 (by omega), f2 9 (by omega), f2 10 (by omega), f2 11 (by omega), f2 12 (by omega), f2 13 (by omega)]; exact h
set_option maxHeartbeats 600000 in
set_option maxRecDepth 100000 in
theorem c_C_layPair {K : KC} {M : MC} {o : Nat → Int64} {nc ns : Nat} {R : MC} {d cs kk : Nat} (x1 x2 : Int32) (hI : IM R cs kk) (hK : RK K R cs kk) (hr1 : nc + 1 ≤ 601024) (hr2 : ns + 6 ≤ 7293034) {post : mj_O → mj_H → Prop} (t : ¬ aL R x1 x2 → post (.inr 0) (hp K M o, nc + 1, ns + 6)) (k : ∀ p q, p < mP R → q < mP R → x1 = nI p → x2 = nI q → ps R p = ps R q → ∀ KB, frH1 KB K → SHI1 KB R (ps R p) 2 (pq p q) → post (.inl none) (hp KB M o, nc, ns)) : mj_G y_C_layPair b_C_layPair 3 none [] (d + 17) none 0 [(0, .ref 0), (1, .int x1), (2, .int x2)] [] (hp K M o, nc, ns) post := by
  have q12 := hI.1.2.2
  have q200 := hI.2.2.1.2.1
  have hpd12 : ∀ p, p < mP R → pd R p ≤ 12 := fun p hq => (hI.2.2.1.2.2 p hq).2.2.1.2
  refine G_aload_n 0 d_C_layPair_0 rfl ?_
  refine G_iload_n 1 d_C_layPair_1 rfl ?_
  refine G_cvT (0 ≤ x1 ∧ x1 < K.1 4) 0 (As := [.int x1]) d_C_layPair_2 cv_C_172 cw_C_needPattern (ob_C K M o) np_C_needPattern (Nat.le_of_ble_eq_true rfl) (Nat.le_of_ble_eq_true rfl) rfl (fun post2 k1 k0 => c_C_needPattern x1 hr1 hr2 k1 k0) (fun u2 => ?_) (fun u2 => t (fun q => u2 (by rw [hK.2.2.2.1.1]; exact q.1)))
  obtain ⟨p, hp1, rfl⟩ := iP_of hI.2.2.1 (by rw [hK.2.2.2.1.1] at u2; exact u2)
  refine G_aload_n 0 d_C_layPair_5 rfl ?_
  refine G_iload_n 2 d_C_layPair_6 rfl ?_
  refine G_aload_n 0 d_C_layPair_7 rfl ?_
  refine G_gt d_C_layPair_8 fr_C_19 (rd_C_patterns K M o) ?_
  refine G_gt d_C_layPair_11 fr_C_175 (rd_P_sort K M o) ?_
  refine G_iload_n 1 d_C_layPair_14 rfl ?_
  refine G_ialN d_C_layPair_15 (ar_9 K M o) (by decide) (by omega) ?_
  rw [show K.2.1 9 p = nI (ps R p) from (hK.2.2.2.1.2 p hp1).2.1.trans (hI.2.2.1.2.2 p hp1).2.1.1]
  refine G_cvT (sP R x2 (nI (ps R p))) 0 (As := [.int x2, .int (nI (ps R p))]) d_C_layPair_16 cv_C_94 cw_C_needPatternOf (ob_C K M o) np_C_needPatternOf (Nat.le_of_ble_eq_true rfl) (Nat.le_of_ble_eq_true rfl) rfl (fun post2 k1 k0 => c_C_needPat2 x2 (nI (ps R p)) hK.2.2.2.1 hI.2.2.1 hr1 hr2 k1 k0) (fun u16 => ?_) (fun u16 => t (fun q => u16 ⟨q.2.1, by have q3 := q.2.2; rw [nI_clamp (by omega)] at q3; rw [← q3]; exact (hI.2.2.1.2.2 p hp1).2.1.1⟩))
  obtain ⟨q, hq1, rfl, hqs⟩ := sP_of hI.2.2.1 (by have := (hI.2.2.1.2.2 p hp1).2.1.2; omega) u16
  refine G_aload_n 0 d_C_layPair_19 rfl ?_
  refine G_gt d_C_layPair_20 fr_C_32 (rd_C_pair K M o) ?_
  refine G_aload_n 0 d_C_layPair_23 rfl ?_
  refine G_gt d_C_layPair_24 fr_C_19 (rd_C_patterns K M o) ?_
  refine G_gt d_C_layPair_27 fr_C_175 (rd_P_sort K M o) ?_
  refine G_iload_n 1 d_C_layPair_30 rfl ?_
  refine G_ialN d_C_layPair_31 (ar_9 K M o) (by decide) (by omega) ?_
  rw [show K.2.1 9 p = nI (ps R p) from (hK.2.2.2.1.2 p hp1).2.1.trans (hI.2.2.1.2.2 p hp1).2.1.1]
  refine G_cv1 none (hp (clrK1 K (nI (ps R p))) M o, nc, ns) (As := [.int (nI (ps R p))]) d_C_layPair_32 cv_C_108 cw_H_clear (ob_H1 K M o) np_H_clear (Nat.le_of_ble_eq_true rfl) (Nat.le_of_ble_eq_true rfl) (fun post2 k2 => c_H1_clear (nI (ps R p)) k2) rfl ?_
  refine G_aload_n 0 d_C_layPair_35 rfl ?_
  refine G_gt d_C_layPair_36 fr_C_32 (rd_C_pair (clrK1 K (nI (ps R p))) M o) ?_
  refine G_iload_n 1 d_C_layPair_39 rfl ?_
  refine G_cvp (fun a9 A9 => ∃ KA : KC, a9 = none ∧ A9 = (hp KA M o, nc, ns) ∧ (frH1 KA (clrK1 K (nI (ps R p))) ∧ SHI1 KA R (ps R p) 1 (fun i => if i = 0 then p else (fun _ => 0) i))) (As := [.int (nI p)]) d_C_layPair_40 cv_C_123 cw_H_addRow (ob_H1 (clrK1 K (nI (ps R p))) M o) np_H_addRow (Nat.le_of_ble_eq_true rfl) (Nat.le_of_ble_eq_true rfl) (fun post2 kq => c_H1_addRow (K := (clrK1 K (nI (ps R p)))) (R := R) (d := d) (n := 0) (P := fun _ => 0) hI.1 hI.2.1 hI.2.2.1 (fr1_rS (clr1_fr K _) hK.1) (fr1_rP (clr1_fr K _) hK.2.2.2.1) (clr1_I _) (by omega) hp1 rfl (by have := hpd12 p hp1; show 0 + pd R p ≤ 24; omega) (fun v9 g9 g8 => kq _ _ ⟨v9, rfl, rfl, g9, g8⟩)) (fun a9 A9 h9 => by obtain ⟨v9, -, rfl, -⟩ := h9; rfl) (fun a9 A9 h9 => ?_)
  obtain ⟨KA, rfl, rfl, g_KA⟩ := h9
  have hfA : frH1 KA K := frH1_trans g_KA.1 (clr1_fr K _)
  refine G_aload_n 0 d_C_layPair_43 rfl ?_
  refine G_gt d_C_layPair_44 fr_C_32 (rd_C_pair KA M o) ?_
  refine G_iload_n 2 d_C_layPair_47 rfl ?_
  refine G_cvp (fun a9 A9 => ∃ KB : KC, a9 = none ∧ A9 = (hp KB M o, nc, ns) ∧ (frH1 KB KA ∧ SHI1 KB R (ps R p) 2 (pq p q))) (As := [.int (nI q)]) d_C_layPair_48 cv_C_123 cw_H_addRow (ob_H1 KA M o) np_H_addRow (Nat.le_of_ble_eq_true rfl) (Nat.le_of_ble_eq_true rfl) (fun post2 kq => c_H1_addRow (K := KA) (R := R) (d := d) (n := 1) (P := (fun i => if i = 0 then p else (fun _ => 0) i)) hI.1 hI.2.1 hI.2.2.1 (fr1_rS hfA hK.1) (fr1_rP hfA hK.2.2.2.1) g_KA.2 (by omega) hq1 hqs (by have z1 := hpd12 p hp1; have z2 := hpd12 q hq1; show 0 + pd R p + pd R q ≤ 24; omega) (fun v9 g9 g8 => kq _ _ ⟨v9, rfl, rfl, g9, g8⟩)) (fun a9 A9 h9 => by obtain ⟨v9, -, rfl, -⟩ := h9; rfl) (fun a9 A9 h9 => ?_)
  obtain ⟨KB, rfl, rfl, g_KB⟩ := h9
  exact G_ret d_C_layPair_51 rfl (k p q hp1 hq1 rfl rfl hqs.symm _ (frH1_trans g_KB.1 hfA) g_KB.2)
set_option maxHeartbeats 600000 in
set_option maxRecDepth 100000 in
theorem c_C_covers {K : KC} {M : MC} {o : Nat → Int64} {nc ns : Nat} {R : MC} {d cs kk : Nat} (x1 x2 : Int32) (hI : IM R cs kk) (hK : RK K R cs kk) (hr1 : nc + 1 ≤ 601024) (hr2 : ns + 6 ≤ 7293034) {post : mj_O → mj_H → Prop} (t : ¬ aL R x1 x2 → post (.inr 0) (hp K M o, nc + 1, ns + 6)) (k0 : ∀ p q, p < mP R → q < mP R → x1 = nI p → x2 = nI q → ps R p = ps R q → ∀ KB, RK KB R cs kk → COVQ R p q → post (.inl (some (.int 0))) (hp KB M o, nc, ns)) (k1 : ∀ p q, p < mP R → q < mP R → x1 = nI p → x2 = nI q → ps R p = ps R q → ∀ KB, RK KB R cs kk → ¬ COVQ R p q → post (.inl (some (.int 1))) (hp KB M o, nc, ns)) : mj_G y_C_covers b_C_covers 3 (some .boolean) [] (d + 46) none 0 [(0, .ref 0), (1, .int x1), (2, .int x2)] [] (hp K M o, nc, ns) post := by
  refine G_aload_n 0 d_C_covers_0 rfl ?_
  refine G_iload_n 1 d_C_covers_1 rfl ?_
  refine G_iload_n 2 d_C_covers_2 rfl ?_
  refine G_cvQ (fun A9 => ∃ p q KB, A9 = (hp KB M o, nc, ns) ∧ p < mP R ∧ q < mP R ∧ x1 = nI p ∧ x2 = nI q ∧ ps R p = ps R q ∧ frH1 KB K ∧ SHI1 KB R (ps R p) 2 (pq p q)) (¬ aL R x1 x2) 0 (As := [.int x1, .int x2]) d_C_covers_3 cv_C_135 cw_C_layPair (ob_C K M o) np_C_layPair (Nat.le_of_ble_eq_true rfl) (Nat.le_of_ble_eq_true rfl) rfl (fun post2 k1 k0 => c_C_layPair (d := d + 28) x1 x2 hI hK hr1 hr2 k0 (fun p q a1 a2 a3 a4 a5 KB a6 a7 => k1 _ ⟨p, q, KB, rfl, a1, a2, a3, a4, a5, a6, a7⟩)) (fun A9 h9 => by obtain ⟨p, q, KB, rfl, -⟩ := h9; rfl) (fun A9 h9 => ?_) (fun u3 => t u3)
  obtain ⟨p, q, KB, rfl, hp1, hq1, e1, e2, hpq, hf, hH⟩ := h9
  have hs0 : ps R p < mS R := (hI.2.2.1.2.2 p hp1).2.1.2
  obtain ⟨np, pi, hX, erc, hnp, efs, epc⟩ := SHI1_X hI.1 hI.2.1 hI.2.2.1 hH
  have hRK : RK KB R cs kk := RK_fr1 hI hf hK
  refine G_aload_n 0 d_C_covers_6 rfl ?_
  refine G_gt d_C_covers_7 fr_C_32 (rd_C_pair KB M o) ?_
  refine G_iconst (v := nI 1) d_C_covers_10 (by decide) ?_
  refine G_cvB (COVQ R p q) (As := [.int (nI 1)]) d_C_covers_11 cv_C_126 cw_H_reaches (ob_H1 KB M o) np_H_reaches (Nat.le_of_ble_eq_true rfl) (Nat.le_of_ble_eq_true rfl) (fun post2 k1 k0 => c_H1_reaches (d := d + 1) (R := R) (P := pq p q) (i := 1) hX erc (by omega) hnp hRK.2.1 hRK.2.2.1 efs epc hs0 (by omega) k1 k0) (fun u11 => ?_) (fun u11 => ?_)
  · refine G_ifne 21 d_C_covers_14 (by decide) (fun _ => ?_) (fun h => absurd h (by decide))
    refine G_iconst (v := 0) d_C_covers_21 (by decide) ?_
    exact G_zret d_C_covers_22 rfl rfl (k0 p q hp1 hq1 e1 e2 hpq _ hRK u11)
  · refine G_ifne 21 d_C_covers_14 (by decide) (fun h => absurd h (by decide)) (fun _ => ?_)
    refine G_iconst (v := 1) d_C_covers_17 (by decide) ?_
    refine G_goto 22 d_C_covers_18 (by decide) ?_
    exact G_zret d_C_covers_22 rfl rfl (k1 p q hp1 hq1 e1 e2 hpq _ hRK u11)
set_option maxHeartbeats 600000 in
set_option maxRecDepth 100000 in
theorem c_C_meets {K : KC} {M : MC} {o : Nat → Int64} {nc ns : Nat} {R : MC} {d cs kk : Nat} (x1 x2 : Int32) (hI : IM R cs kk) (hK : RK K R cs kk) (hr1 : nc + 1 ≤ 601024) (hr2 : ns + 6 ≤ 7293034) {post : mj_O → mj_H → Prop} (t : ¬ aL R x1 x2 → post (.inr 0) (hp K M o, nc + 1, ns + 6)) (k1 : ∀ p q, p < mP R → q < mP R → x1 = nI p → x2 = nI q → ps R p = ps R q → ∀ KB, RK KB R cs kk → MEETQ R p q → post (.inl (some (.int 1))) (hp KB M o, nc, ns)) (k0 : ∀ p q, p < mP R → q < mP R → x1 = nI p → x2 = nI q → ps R p = ps R q → ∀ KB, RK KB R cs kk → ¬ MEETQ R p q → post (.inl (some (.int 0))) (hp KB M o, nc, ns)) : mj_G y_C_meets b_C_meets 3 (some .boolean) [] (d + 46) none 0 [(0, .ref 0), (1, .int x1), (2, .int x2)] [] (hp K M o, nc, ns) post := by
  refine G_aload_n 0 d_C_meets_0 rfl ?_
  refine G_iload_n 1 d_C_meets_1 rfl ?_
  refine G_iload_n 2 d_C_meets_2 rfl ?_
  refine G_cvQ (fun A9 => ∃ p q KB, A9 = (hp KB M o, nc, ns) ∧ p < mP R ∧ q < mP R ∧ x1 = nI p ∧ x2 = nI q ∧ ps R p = ps R q ∧ frH1 KB K ∧ SHI1 KB R (ps R p) 2 (pq p q)) (¬ aL R x1 x2) 0 (As := [.int x1, .int x2]) d_C_meets_3 cv_C_135 cw_C_layPair (ob_C K M o) np_C_layPair (Nat.le_of_ble_eq_true rfl) (Nat.le_of_ble_eq_true rfl) rfl (fun post2 k1 k0 => c_C_layPair (d := d + 28) x1 x2 hI hK hr1 hr2 k0 (fun p q a1 a2 a3 a4 a5 KB a6 a7 => k1 _ ⟨p, q, KB, rfl, a1, a2, a3, a4, a5, a6, a7⟩)) (fun A9 h9 => by obtain ⟨p, q, KB, rfl, -⟩ := h9; rfl) (fun A9 h9 => ?_) (fun u3 => t u3)
  obtain ⟨p, q, KB, rfl, hp1, hq1, e1, e2, hpq, hf, hH⟩ := h9
  have hs0 : ps R p < mS R := (hI.2.2.1.2.2 p hp1).2.1.2
  obtain ⟨np, pi, hX, erc, hnp, efs, epc⟩ := SHI1_X hI.1 hI.2.1 hI.2.2.1 hH
  have hRK : RK KB R cs kk := RK_fr1 hI hf hK
  refine G_aload_n 0 d_C_meets_6 rfl ?_
  refine G_gt d_C_meets_7 fr_C_32 (rd_C_pair KB M o) ?_
  refine G_iconst (v := nI 0) d_C_meets_10 (by decide) ?_
  refine G_cvB (LV R (ps R p) ∧ HV R (vw1 KB np pi) 0) (As := [.int (nI 0)]) d_C_meets_11 cv_C_138 cw_H_hasValue (ob_H1 KB M o) np_H_hasValue (Nat.le_of_ble_eq_true rfl) (Nat.le_of_ble_eq_true rfl) (fun post2 k1 k0 => c_H1_hasV2 (R := R) (P := pq p q) (i := 0) hX erc (by omega) hnp hRK.2.1 hRK.2.2.1 efs epc hs0 (by omega) k1 k0) (fun u11 => ?_) (fun u11 => ?_)
  · refine G_ifeq 44 d_C_meets_14 (by decide) (fun h => absurd h (by decide)) (fun _ => ?_)
    refine G_aload_n 0 d_C_meets_17 rfl ?_
    refine G_gt d_C_meets_18 fr_C_32 (rd_C_pair KB M o) ?_
    refine G_iconst (v := nI 1) d_C_meets_21 (by decide) ?_
    refine G_cvB (LV R (ps R p) ∧ HV R (vw1 KB np pi) 1) (As := [.int (nI 1)]) d_C_meets_22 cv_C_138 cw_H_hasValue (ob_H1 KB M o) np_H_hasValue (Nat.le_of_ble_eq_true rfl) (Nat.le_of_ble_eq_true rfl) (fun post2 k1 k0 => c_H1_hasV2 (R := R) (P := pq p q) (i := 1) hX erc (by omega) hnp hRK.2.1 hRK.2.2.1 efs epc hs0 (by omega) k1 k0) (fun u22 => ?_) (fun u22 => ?_)
    · refine G_ifeq 44 d_C_meets_25 (by decide) (fun h => absurd h (by decide)) (fun _ => ?_)
      refine G_aload_n 0 d_C_meets_28 rfl ?_
      refine G_gt d_C_meets_29 fr_C_32 (rd_C_pair KB M o) ?_
      refine G_iconst (v := nI 0) d_C_meets_32 (by decide) ?_
      refine G_iconst (v := nI 1) d_C_meets_33 (by decide) ?_
      refine G_cvB (AGR (vw1 KB np pi) 0 1) (As := [.int (nI 0), .int (nI 1)]) d_C_meets_34 cv_C_141 cw_H_agree (ob_H1 KB M o) np_H_agree (Nat.le_of_ble_eq_true rfl) (Nat.le_of_ble_eq_true rfl) (fun post2 k1 k0 => c_H1_agree (i := 0) (i2 := 1) epc hX.2.2.2.2 hnp (by omega) (by omega) k1 k0) (fun u34 => ?_) (fun u34 => ?_)
      · refine G_ifeq 44 d_C_meets_37 (by decide) (fun h => absurd h (by decide)) (fun _ => ?_)
        refine G_iconst (v := 1) d_C_meets_40 (by decide) ?_
        refine G_goto 45 d_C_meets_41 (by decide) ?_
        exact G_zret d_C_meets_45 rfl rfl (k1 p q hp1 hq1 e1 e2 hpq _ hRK ⟨u11.1, (meet_iff (i := 0) (i' := 1) hX (by omega) (by omega)).mpr ⟨u11.2, u22.2, u34⟩⟩)
      · refine G_ifeq 44 d_C_meets_37 (by decide) (fun _ => ?_) (fun h => absurd h (by decide))
        refine G_iconst (v := 0) d_C_meets_44 (by decide) ?_
        exact G_zret d_C_meets_45 rfl rfl (k0 p q hp1 hq1 e1 e2 hpq _ hRK (fun z => u34 ((meet_iff (i := 0) (i' := 1) hX (by omega) (by omega)).mp z.2).2.2))
    · refine G_ifeq 44 d_C_meets_25 (by decide) (fun _ => ?_) (fun h => absurd h (by decide))
      refine G_iconst (v := 0) d_C_meets_44 (by decide) ?_
      exact G_zret d_C_meets_45 rfl rfl (k0 p q hp1 hq1 e1 e2 hpq _ hRK (fun z => u22 ⟨z.1, ((meet_iff (i := 0) (i' := 1) hX (by omega) (by omega)).mp z.2).2.1⟩))
  · refine G_ifeq 44 d_C_meets_14 (by decide) (fun _ => ?_) (fun h => absurd h (by decide))
    refine G_iconst (v := 0) d_C_meets_44 (by decide) ?_
    exact G_zret d_C_meets_45 rfl rfl (k0 p q hp1 hq1 e1 e2 hpq _ hRK (fun z => u11 ⟨z.1, ((meet_iff (i := 0) (i' := 1) hX (by omega) (by omega)).mp z.2).1⟩))
