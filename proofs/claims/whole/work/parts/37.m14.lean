/-! count of the reference -/
noncomputable def rcnt (P : Nat → Prop) : Nat → Nat
  | 0 => 0
  | n + 1 => rcnt P n + @ite Nat (P n) (Classical.propDecidable (P n)) 1 0
theorem rcnt_y {P : Nat → Prop} {n : Nat} (h : P n) : rcnt P (n + 1) = rcnt P n + 1 := by
  show rcnt P n + _ = _
  rw [if_pos h]
theorem rcnt_n {P : Nat → Prop} {n : Nat} (h : ¬ P n) : rcnt P (n + 1) = rcnt P n := by
  show rcnt P n + _ = _
  rw [if_neg h]; rfl
theorem rcnt_le (P : Nat → Prop) : ∀ n, rcnt P n ≤ n := by
  intro n
  induction n with
  | zero => exact Nat.le_refl _
  | succ n ih =>
    by_cases h : P n
    · rw [rcnt_y h]; omega
    · rw [rcnt_n h]; omega
theorem rcnt_eq {P Q : Nat → Prop} : ∀ n, (∀ i, i < n → (P i ↔ Q i)) → rcnt P n = rcnt Q n := by
  intro n
  induction n with
  | zero => intro _; rfl
  | succ n ih =>
    intro h
    have e := ih (fun i hi => h i (by omega))
    by_cases hp : P n
    · rw [rcnt_y hp, rcnt_y ((h n (by omega)).mp hp), e]
    · rw [rcnt_n hp, rcnt_n (fun z => hp ((h n (by omega)).mpr z)), e]
theorem cR_cl (N : MC) : cl (coR N) = cl N := rfl
theorem cR_REACH (N : MC) : REACH (coR N) = REACH N := by
  funext cs i
  show HASL (coR N) cs _ _ = _
  rw [cR_HASL]; rfl
set_option maxHeartbeats 600000 in
set_option maxRecDepth 100000 in
theorem c_M_count0 {K : KC} {M : MC} {o : Nat → Int64} {nc ns : Nat} {d cs kk : Nat} (hS : wfS M) (hC : wfC M) (hP : wfP M) (hK : wfK M cs kk) {post : mj_O → mj_H → Prop} (k : post (.inl (some (.int (nI (mS M))))) (hp K (mi M 0 0) o, nc, ns)) : mj_G y_M_count b_M_count 4 (some .int) [] d none 0 [(0, .ref 38), (1, .int (nI 0))] [] (hp K M o, nc, ns) post := by
  refine G_aload_n 0 d_M_count_0 rfl ?_
  refine G_iconst (v := 0) d_M_count_1 (by decide) ?_
  refine G_pt d_M_count_2 fp_M_87 (wr_M_thrown K M o 0) ?_
  refine G_iconst (v := nI 0) d_M_count_5 (by decide) ?_
  refine G_istore_n (ls' := [(2, .int (nI 0)), (0, .ref 38), (1, .int (nI 0))]) d_M_count_6 (by decide) rfl ?_
  refine G_iload_n 2 d_M_count_7 rfl ?_
  refine G_swIn 48 d_M_count_8 (by decide) (by decide) (off := 40) rfl (by decide) ?_
  refine G_aload_n 1 d_M_count_48 rfl ?_
  refine G_gt d_M_count_49 fr_M_7 (rd_M_sorts K (mi M 0 0) o) ?_
  rw [show (mi M 0 0).1 1 = nI (mS M) from hS.1]
  exact G_iret d_M_count_52 rfl k
set_option maxHeartbeats 600000 in
set_option maxRecDepth 100000 in
theorem c_M_count1 {K : KC} {M : MC} {o : Nat → Int64} {nc ns : Nat} {d cs kk : Nat} (hS : wfS M) (hC : wfC M) (hP : wfP M) (hK : wfK M cs kk) {post : mj_O → mj_H → Prop} (k : post (.inl (some (.int (nI (mC M))))) (hp K (mi M 0 0) o, nc, ns)) : mj_G y_M_count b_M_count 4 (some .int) [] d none 0 [(0, .ref 38), (1, .int (nI 1))] [] (hp K M o, nc, ns) post := by
  refine G_aload_n 0 d_M_count_0 rfl ?_
  refine G_iconst (v := 0) d_M_count_1 (by decide) ?_
  refine G_pt d_M_count_2 fp_M_87 (wr_M_thrown K M o 0) ?_
  refine G_iconst (v := nI 0) d_M_count_5 (by decide) ?_
  refine G_istore_n (ls' := [(2, .int (nI 0)), (0, .ref 38), (1, .int (nI 1))]) d_M_count_6 (by decide) rfl ?_
  refine G_iload_n 2 d_M_count_7 rfl ?_
  refine G_swIn 53 d_M_count_8 (by decide) (by decide) (off := 45) rfl (by decide) ?_
  refine G_aload_n 1 d_M_count_53 rfl ?_
  refine G_gt d_M_count_54 fr_M_97 (rd_M_cons K (mi M 0 0) o) ?_
  rw [show (mi M 0 0).1 2 = nI (mC M) from hC.1]
  exact G_iret d_M_count_57 rfl k
set_option maxHeartbeats 600000 in
set_option maxRecDepth 100000 in
theorem c_M_count2 {K : KC} {M : MC} {o : Nat → Int64} {nc ns : Nat} {d cs kk : Nat} (hS : wfS M) (hC : wfC M) (hP : wfP M) (hK : wfK M cs kk) {post : mj_O → mj_H → Prop} (k : post (.inl (some (.int (nI (mP M))))) (hp K (mi M 0 0) o, nc, ns)) : mj_G y_M_count b_M_count 4 (some .int) [] d none 0 [(0, .ref 38), (1, .int (nI 2))] [] (hp K M o, nc, ns) post := by
  refine G_aload_n 0 d_M_count_0 rfl ?_
  refine G_iconst (v := 0) d_M_count_1 (by decide) ?_
  refine G_pt d_M_count_2 fp_M_87 (wr_M_thrown K M o 0) ?_
  refine G_iconst (v := nI 0) d_M_count_5 (by decide) ?_
  refine G_istore_n (ls' := [(2, .int (nI 0)), (0, .ref 38), (1, .int (nI 2))]) d_M_count_6 (by decide) rfl ?_
  refine G_iload_n 2 d_M_count_7 rfl ?_
  refine G_swIn 58 d_M_count_8 (by decide) (by decide) (off := 50) rfl (by decide) ?_
  refine G_aload_n 1 d_M_count_58 rfl ?_
  refine G_gt d_M_count_59 fr_M_90 (rd_M_patterns K (mi M 0 0) o) ?_
  rw [show (mi M 0 0).1 3 = nI (mP M) from hP.1]
  exact G_iret d_M_count_62 rfl k
set_option maxHeartbeats 600000 in
set_option maxRecDepth 100000 in
theorem c_M_count3 {K : KC} {M : MC} {o : Nat → Int64} {nc ns : Nat} {d cs kk : Nat} (hS : wfS M) (hC : wfC M) (hP : wfP M) (hK : wfK M cs kk) {post : mj_O → mj_H → Prop} (k : post (.inl (some (.int (nI kk)))) (hp K (mi M 0 0) o, nc, ns)) : mj_G y_M_count b_M_count 4 (some .int) [] d none 0 [(0, .ref 38), (1, .int (nI 3))] [] (hp K M o, nc, ns) post := by
  refine G_aload_n 0 d_M_count_0 rfl ?_
  refine G_iconst (v := 0) d_M_count_1 (by decide) ?_
  refine G_pt d_M_count_2 fp_M_87 (wr_M_thrown K M o 0) ?_
  refine G_iconst (v := nI 0) d_M_count_5 (by decide) ?_
  refine G_istore_n (ls' := [(2, .int (nI 0)), (0, .ref 38), (1, .int (nI 3))]) d_M_count_6 (by decide) rfl ?_
  refine G_iload_n 2 d_M_count_7 rfl ?_
  refine G_swIn 63 d_M_count_8 (by decide) (by decide) (off := 55) rfl (by decide) ?_
  refine G_aload_n 1 d_M_count_63 rfl ?_
  refine G_gt d_M_count_64 fr_M_107 (rd_M_clauses K (mi M 0 0) o) ?_
  rw [show (mi M 0 0).1 4 = nI kk from hK.1]
  exact G_iret d_M_count_67 rfl k
set_option maxHeartbeats 600000 in
set_option maxRecDepth 100000 in
theorem c_M_countO {K : KC} {M : MC} {o : Nat → Int64} {nc ns : Nat} {d : Nat} (x : Int32) (h : x.toInt < 0 ∨ 5 < x.toInt) {post : mj_O → mj_H → Prop} (k : post (.inl (some (.int (-1)))) (hp K (mi M 0 0) o, nc, ns)) : mj_G y_M_count b_M_count 4 (some .int) [] d none 0 [(0, .ref 38), (1, .int x)] [] (hp K M o, nc, ns) post := by
  refine G_aload_n 0 d_M_count_0 rfl ?_
  refine G_iconst (v := 0) d_M_count_1 (by decide) ?_
  refine G_pt d_M_count_2 fp_M_87 (wr_M_thrown K M o 0) ?_
  refine G_iconst (v := nI 0) d_M_count_5 (by decide) ?_
  refine G_istore_n (ls' := [(2, .int (nI 0)), (0, .ref 38), (1, .int x)]) d_M_count_6 (by decide) rfl ?_
  refine G_iload_n 2 d_M_count_7 rfl ?_
  refine G_swOut 131 d_M_count_8 h (by decide) ?_
  refine G_iconst (v := (-1)) d_M_count_131 (by decide) ?_
  exact G_iret d_M_count_132 rfl k
theorem c_reach2 {K : KC} {M : MC} {o : Nat → Int64} {nc ns : Nat} {N : MC} {d cs kk k : Nat} (hS : wfS M) (hC : wfC M) (hP : wfP M) (hK : wfK M cs kk) (hc : coR N = coR M) (hk : k < kk) {post : mj_O → mj_H → Prop} (k1 : ∀ N', coR N' = coR N → REACH M cs k → post (.inl (some (.int 1))) (hp K N' o, nc, ns)) (k0 : ∀ N', coR N' = coR N → ¬ REACH M cs k → post (.inl (some (.int 0))) (hp K N' o, nc, ns)) : mj_G y_M_reaches b_M_reaches 3 (some .boolean) [] (d + 15) none 0 [(0, .ref 38), (1, .int (nI k))] [] (hp K N o, nc, ns) post := by
  have e := cR_of REACH cR_REACH hc
  exact c_M_reaches (cR_P wfS (fun _ => rfl) hc hS) (cR_P wfC (fun _ => rfl) hc hC) (cR_P wfP (fun _ => rfl) hc hP) (cR_P (fun Q => wfK Q cs kk) (fun _ => rfl) hc hK) hk (fun N' g1 g2 => k1 N' g1 (by rw [← e]; exact g2)) (fun N' g1 g2 => k0 N' g1 (by rw [← e]; exact g2))
set_option maxHeartbeats 600000 in
set_option maxRecDepth 100000 in
theorem l_M_count4 {K : KC} {M : MC} {o : Nat → Int64} {nc ns : Nat} {d cs kk : Nat} {x : Int32} (hS : wfS M) (hC : wfC M) (hP : wfP M) (hK : wfK M cs kk) {post : mj_O → mj_H → Prop} (k : ∀ N, coR N = coR (mi M 0 0) → post (.inl (some (.int (nI (rcnt (REACH (mi M 0 0) cs) kk))))) (hp K N o, nc, ns)) : ∀ (q i : Nat) (N : MC), i ≤ kk → kk < i + q → coR N = coR (mi M 0 0) → mj_G y_M_count b_M_count 4 (some .int) [] (d + 16) none 70 [(3, .int (nI i)), (2, .int (nI (rcnt (REACH (mi M 0 0) cs) i))), (0, .ref 38), (1, .int x)] [] (hp K N o, nc, ns) post := by
  have hk8 := hK.2.1
  intro q
  induction q with
  | zero => intro i N h1 h2; omega
  | succ q ih =>
    intro i N h1 h2 hc
    refine G_iload_n 0 d_M_count_70 rfl ?_
    refine G_aload_n 2 d_M_count_71 rfl ?_
    refine G_gt d_M_count_72 fr_M_107 (rd_M_clauses K N o) ?_
    rw [show N.1 4 = nI kk from (cR_of (fun Q => Q.1 4) (fun _ => rfl) hc).trans hK.1]
    refine G_icge 95 d_M_count_75 (by decide) (fun h75 => ?_) (fun h75 => ?_)
    · have h75 := (nI_leI (by omega) (by omega)).mp h75
      obtain rfl : i = kk := by omega
      refine G_iload_n 1 d_M_count_95 rfl ?_
      exact G_iret d_M_count_96 rfl (k N hc)
    · have h75 : ¬ _ := fun z => h75 ((nI_leI (by omega) (by omega)).mpr z)
      refine G_aload_n 2 d_M_count_78 rfl ?_
      refine G_iload_n 0 d_M_count_79 rfl ?_
      refine G_cvp (fun a9 A9 => ∃ N' : MC, A9 = (hp K N' o, nc, ns) ∧ (coR N' = coR N) ∧ ((a9 = some (.int 1) ∧ (REACH (mi M 0 0) cs i)) ∨ (a9 = some (.int 0) ∧ ¬ (REACH (mi M 0 0) cs i)))) (As := [.int (nI i)]) d_M_count_80 cv_M_165 cw_M_reaches (ob_M K N o) np_M_reaches (Nat.le_of_ble_eq_true rfl) (Nat.le_of_ble_eq_true rfl) (fun post2 kq => c_reach2 (wf0S hS) (wf0C hC) (wf0P hP) (wf0K hK) hc (by omega) (fun N9 g1 g2 => kq _ _ ⟨N9, rfl, g1, Or.inl ⟨rfl, g2⟩⟩) (fun N9 g1 g2 => kq _ _ ⟨N9, rfl, g1, Or.inr ⟨rfl, g2⟩⟩)) (fun a9 A9 h9 => by obtain ⟨N9, rfl, -⟩ := h9; rfl) (fun a9 A9 h9 => ?_)
      obtain ⟨N', rfl, hc80, ⟨rfl, u80⟩ | ⟨rfl, u80⟩⟩ := h9
      · refine G_ifeq 89 d_M_count_83 (by decide) (fun h => absurd h (by decide)) (fun _ => ?_)
        refine G_iinc 1 (v := nI ((rcnt (REACH (mi M 0 0) cs) i) + 1)) (ls' := [(2, .int (nI ((rcnt (REACH (mi M 0 0) cs) i) + 1))), (3, .int (nI i)), (0, .ref 38), (1, .int x)]) d_M_count_86 rfl (nI_1 _) (by decide) rfl ?_
        refine G_iinc 1 (v := nI (i + 1)) (ls' := [(3, .int (nI (i + 1))), (2, .int (nI ((rcnt (REACH (mi M 0 0) cs) i) + 1))), (0, .ref 38), (1, .int x)]) d_M_count_89 rfl (nI_1 _) (by decide) rfl ?_
        refine G_goto 70 d_M_count_92 (by decide) ?_
        rw [← rcnt_y u80]; exact G_sub [0, 1, 2, 3] rfl (ih (i + 1) N' (by omega) (by omega) (hc80.trans hc))
      · refine G_ifeq 89 d_M_count_83 (by decide) (fun _ => ?_) (fun h => absurd h (by decide))
        refine G_iinc 0 (v := nI (i + 1)) (ls' := [(3, .int (nI (i + 1))), (2, .int (nI (rcnt (REACH (mi M 0 0) cs) i))), (0, .ref 38), (1, .int x)]) d_M_count_89 rfl (nI_1 _) (by decide) rfl ?_
        refine G_goto 70 d_M_count_92 (by decide) ?_
        rw [← rcnt_n u80]; exact G_sub [0, 1, 2, 3] rfl (ih (i + 1) N' (by omega) (by omega) (hc80.trans hc))
set_option maxHeartbeats 600000 in
set_option maxRecDepth 100000 in
theorem c_M_count4 {K : KC} {M : MC} {o : Nat → Int64} {nc ns : Nat} {d cs kk : Nat} (hS : wfS M) (hC : wfC M) (hP : wfP M) (hK : wfK M cs kk) {post : mj_O → mj_H → Prop} (k : ∀ N, coR N = coR (mi M 0 0) → post (.inl (some (.int (nI (rcnt (REACH (mi M 0 0) cs) kk))))) (hp K N o, nc, ns)) : mj_G y_M_count b_M_count 4 (some .int) [] (d + 16) none 0 [(0, .ref 38), (1, .int (nI 4))] [] (hp K M o, nc, ns) post := by
  refine G_aload_n 0 d_M_count_0 rfl ?_
  refine G_iconst (v := 0) d_M_count_1 (by decide) ?_
  refine G_pt d_M_count_2 fp_M_87 (wr_M_thrown K M o 0) ?_
  refine G_iconst (v := nI 0) d_M_count_5 (by decide) ?_
  refine G_istore_n (ls' := [(2, .int (nI 0)), (0, .ref 38), (1, .int (nI 4))]) d_M_count_6 (by decide) rfl ?_
  refine G_iload_n 2 d_M_count_7 rfl ?_
  refine G_swIn 68 d_M_count_8 (by decide) (by decide) (off := 60) rfl (by decide) ?_
  refine G_iconst (v := nI 0) d_M_count_68 (by decide) ?_
  refine G_istore_n (ls' := [(3, .int (nI 0)), (2, .int (nI 0)), (0, .ref 38), (1, .int (nI 4))]) d_M_count_69 (by decide) rfl ?_
  exact G_sub [0, 1, 2, 3] rfl (l_M_count4 hS hC hP hK k (kk + 1) 0 _ (by omega) (by omega) rfl)
set_option maxHeartbeats 600000 in
set_option maxRecDepth 100000 in
theorem l_M_count5 {K : KC} {M : MC} {o : Nat → Int64} {nc ns : Nat} {d : Nat} {x : Int32} {L : Nat → Int32} (hS : wfS M) (hL : ∀ a, a < mS M → (L a = 1 ∧ LV M a) ∨ (L a = 0 ∧ ¬ LV M a)) {post : mj_O → mj_H → Prop} (k : post (.inl (some (.int (nI (rcnt (LV M) (mS M)))))) (hp K (setL (mi M 0 0) L) o, nc, ns)) : ∀ (q i : Nat), i ≤ mS M → mS M < i + q → mj_G y_M_count b_M_count 4 (some .int) [] d none 103 [(3, .int (nI i)), (2, .int (nI (rcnt (LV M) i))), (0, .ref 38), (1, .int x)] [] (hp K (setL (mi M 0 0) L) o, nc, ns) post := by
  have q12 := hS.2.2
  intro q
  induction q with
  | zero => intro i h1 h2; omega
  | succ q ih =>
    intro i h1 h2
    refine G_iload_n 0 d_M_count_103 rfl ?_
    refine G_aload_n 2 d_M_count_104 rfl ?_
    refine G_gt d_M_count_105 fr_M_7 (rd_M_sorts K (setL (mi M 0 0) L) o) ?_
    rw [show (setL (mi M 0 0) L).1 1 = nI (mS M) from hS.1]
    refine G_icge 129 d_M_count_108 (by decide) (fun h108 => ?_) (fun h108 => ?_)
    · have h108 := (nI_leI (by omega) (by omega)).mp h108
      obtain rfl : i = mS M := by omega
      refine G_iload_n 1 d_M_count_129 rfl ?_
      exact G_iret d_M_count_130 rfl k
    · have h108 : ¬ _ := fun z => h108 ((nI_leI (by omega) (by omega)).mpr z)
      refine G_aload_n 2 d_M_count_111 rfl ?_
      refine G_gt d_M_count_112 fr_M_47 (rd_M_lives K (setL (mi M 0 0) L) o) ?_
      refine G_iload_n 0 d_M_count_115 rfl ?_
      refine G_zalN d_M_count_116 (ar_50 K (setL (mi M 0 0) L) o) (by decide) (by omega) ?_
      rw [show (setL (mi M 0 0) L).2 50 i = L i from rfl]
      refine G_ifeq 123 d_M_count_117 (by decide) (fun h117 => ?_) (fun h117 => ?_)
      · rw [← rcnt_n (n := i) (P := LV M) (fun z => (hL i (by omega)).elim (fun y => absurd (y.1.symm.trans h117) (by decide)) (fun y => y.2 z))]
        refine G_iinc 0 (v := nI (i + 1)) (ls' := [(3, .int (nI (i + 1))), (2, .int (nI (rcnt (LV M) (i + 1)))), (0, .ref 38), (1, .int x)]) d_M_count_123 rfl (nI_1 _) (by decide) rfl ?_
        refine G_goto 103 d_M_count_126 (by decide) ?_
        exact G_sub [0, 1, 2, 3] rfl (ih (i + 1) (by omega) (by omega))
      · have hy := (hL i (by omega)).elim (fun y => y.2) (fun y => absurd y.1 h117)
        refine G_iinc 1 (v := nI (rcnt (LV M) (i + 1))) (ls' := [(2, .int (nI (rcnt (LV M) (i + 1)))), (3, .int (nI i)), (0, .ref 38), (1, .int x)]) d_M_count_120 rfl (by rw [rcnt_y hy]; exact nI_1 _) (by decide) rfl ?_
        refine G_iinc 1 (v := nI (i + 1)) (ls' := [(3, .int (nI (i + 1))), (2, .int (nI (rcnt (LV M) (i + 1)))), (0, .ref 38), (1, .int x)]) d_M_count_123 rfl (nI_1 _) (by decide) rfl ?_
        refine G_goto 103 d_M_count_126 (by decide) ?_
        exact G_sub [0, 1, 2, 3] rfl (ih (i + 1) (by omega) (by omega))
set_option maxHeartbeats 600000 in
set_option maxRecDepth 100000 in
theorem c_M_count5 {K : KC} {M : MC} {o : Nat → Int64} {nc ns : Nat} {d : Nat} (hS : wfS M) (hC : wfC M) {post : mj_O → mj_H → Prop} (k : ∀ N, coR N = coR (mi M 0 0) → post (.inl (some (.int (nI (rcnt (LV M) (mS M)))))) (hp K N o, nc, ns)) : mj_G y_M_count b_M_count 4 (some .int) [] (d + 2) none 0 [(0, .ref 38), (1, .int (nI 5))] [] (hp K M o, nc, ns) post := by
  refine G_aload_n 0 d_M_count_0 rfl ?_
  refine G_iconst (v := 0) d_M_count_1 (by decide) ?_
  refine G_pt d_M_count_2 fp_M_87 (wr_M_thrown K M o 0) ?_
  refine G_iconst (v := nI 0) d_M_count_5 (by decide) ?_
  refine G_istore_n (ls' := [(2, .int (nI 0)), (0, .ref 38), (1, .int (nI 5))]) d_M_count_6 (by decide) rfl ?_
  refine G_iload_n 2 d_M_count_7 rfl ?_
  refine G_swIn 97 d_M_count_8 (by decide) (by decide) (off := 89) rfl (by decide) ?_
  refine G_aload_n 1 d_M_count_97 rfl ?_
  refine G_cvp (fun a9 A9 => a9 = none ∧ ∃ L : Nat → Int32, (∀ a, a < mS M → (L a = 1 ∧ LV M a) ∨ (L a = 0 ∧ ¬ LV M a)) ∧ A9 = (hp K (setL (mi M 0 0) L) o, nc, ns)) (As := []) d_M_count_98 cv_M_153 cw_M_live (ob_M K (mi M 0 0) o) np_M_live (Nat.le_of_ble_eq_true rfl) (Nat.le_of_ble_eq_true rfl) (fun post2 kk => c_M_live (M := mi M 0 0) (wf0S hS) (wf0C hC) (fun L hL => kk _ _ ⟨rfl, L, hL, rfl⟩)) (fun a9 A9 h9 => by obtain ⟨-, L, -, rfl⟩ := h9; rfl) (fun a9 A9 h9 => ?_)
  obtain ⟨rfl, L, hL, rfl⟩ := h9
  refine G_iconst (v := nI 0) d_M_count_101 (by decide) ?_
  refine G_istore_n (ls' := [(3, .int (nI 0)), (2, .int (nI 0)), (0, .ref 38), (1, .int (nI 5))]) d_M_count_102 (by decide) rfl ?_
  exact G_sub [0, 1, 2, 3] rfl (l_M_count5 hS hL (k _ cR_setL) (mS M + 1) 0 (by omega) (by omega))
