set_option maxHeartbeats 600000 in
set_option maxRecDepth 100000 in
theorem c_M_lives {K : KC} {M : MC} {o : Nat → Int64} {nc ns : Nat} {d : Nat} (x : Int32) (hS : wfS M) (hC : wfC M) {post : mj_O → mj_H → Prop} (kn : ¬ iS M x → post (.inl (some (.int 0))) (hp K (mi M 0 1) o, nc, ns)) (k1 : ∀ s, s < mS M → x = nI s → ∀ N', coR N' = coR (mi M 0 0) → LV M s → post (.inl (some (.int 1))) (hp K N' o, nc, ns)) (k0 : ∀ s, s < mS M → x = nI s → ∀ N', coR N' = coR (mi M 0 0) → ¬ LV M s → post (.inl (some (.int 0))) (hp K N' o, nc, ns)) : mj_G y_M_lives b_M_lives 2 (some .boolean) [] (d + 2) none 0 [(0, .ref 38), (1, .int x)] [] (hp K M o, nc, ns) post := by
  refine G_aload_n 0 d_M_lives_0 rfl ?_
  refine G_aload_n 0 d_M_lives_1 rfl ?_
  refine G_iload_n 1 d_M_lives_2 rfl ?_
  refine G_cvB (iS M x) (As := [.int x]) d_M_lives_3 cv_M_93 cw_M_isSort (ob_M K M o) np_M_isSort (Nat.le_of_ble_eq_true rfl) (Nat.le_of_ble_eq_true rfl) (fun post2 k1 k0 => c_M_isSort x k1 k0) (fun u3 => ?_) (fun u3 => ?_)
  · obtain ⟨s, hs, rfl⟩ := iS_of hS u3
    have q12 := hS.2.2
    refine G_ifeq 13 d_M_lives_6 (by decide) (fun h => absurd h (by decide)) (fun _ => ?_)
    refine G_iconst (v := 0) d_M_lives_9 (by decide) ?_
    refine G_goto 14 d_M_lives_10 (by decide) ?_
    refine G_pt d_M_lives_14 fp_M_87 (wr_M_thrown K M o 0) ?_
    refine G_aload_n 0 d_M_lives_17 rfl ?_
    refine G_gt d_M_lives_18 fr_M_87 (rd_M_thrown K (mi M 0 0) o) ?_
    rw [show (mi M 0 0).1 0 = 0 from rfl]
    refine G_ifle 26 d_M_lives_21 (by decide) (fun _ => ?_) (fun h => absurd h (by decide))
    refine G_aload_n 0 d_M_lives_26 rfl ?_
    refine G_cvp (fun a9 A9 => a9 = none ∧ ∃ L : Nat → Int32, (∀ a, a < mS M → (L a = 1 ∧ LV M a) ∨ (L a = 0 ∧ ¬ LV M a)) ∧ A9 = (hp K (setL (mi M 0 0) L) o, nc, ns)) (As := []) d_M_lives_27 cv_M_153 cw_M_live (ob_M K (mi M 0 0) o) np_M_live (Nat.le_of_ble_eq_true rfl) (Nat.le_of_ble_eq_true rfl) (fun post2 kk => c_M_live (M := mi M 0 0) (wf0S hS) (wf0C hC) (fun L hL => kk _ _ ⟨rfl, L, hL, rfl⟩)) (fun a9 A9 h9 => by obtain ⟨-, L, -, rfl⟩ := h9; rfl) (fun a9 A9 h9 => ?_)
    obtain ⟨rfl, L, hL, rfl⟩ := h9
    refine G_aload_n 0 d_M_lives_30 rfl ?_
    refine G_gt d_M_lives_31 fr_M_47 (rd_M_lives K (setL (mi M 0 0) L) o) ?_
    refine G_iload_n 1 d_M_lives_34 rfl ?_
    refine G_zalN d_M_lives_35 (ar_50 K (setL (mi M 0 0) L) o) (by decide) (by omega) ?_
    rcases hL s hs with ⟨e, z⟩ | ⟨e, z⟩
    · rw [show (setL (mi M 0 0) L).2 50 s = 1 from e]
      exact G_zret d_M_lives_36 rfl rfl (k1 s hs rfl _ cR_setL z)
    · rw [show (setL (mi M 0 0) L).2 50 s = 0 from e]
      exact G_zret d_M_lives_36 rfl rfl (k0 s hs rfl _ cR_setL z)
  · refine G_ifeq 13 d_M_lives_6 (by decide) (fun _ => ?_) (fun h => absurd h (by decide))
    refine G_iconst (v := 1) d_M_lives_13 (by decide) ?_
    refine G_pt d_M_lives_14 fp_M_87 (wr_M_thrown K M o 1) ?_
    refine G_aload_n 0 d_M_lives_17 rfl ?_
    refine G_gt d_M_lives_18 fr_M_87 (rd_M_thrown K (mi M 0 1) o) ?_
    rw [show (mi M 0 1).1 0 = 1 from rfl]
    refine G_ifle 26 d_M_lives_21 (by decide) (fun h => absurd h (by decide)) (fun _ => ?_)
    refine G_iconst (v := 0) d_M_lives_24 (by decide) ?_
    exact G_zret d_M_lives_25 rfl rfl (kn u3)
def sP (M : MC) (x s : Int32) : Prop := iP M x ∧ M.2 44 x.toNatClampNeg = s
set_option maxHeartbeats 600000 in
set_option maxRecDepth 100000 in
theorem c_M_madeN {K : KC} {M : MC} {o : Nat → Int64} {nc ns : Nat} {d : Nat} (x1 x2 x3 : Int32) (h : ¬ (0 ≤ x1 ∧ x1 < M.1 2)) {post : mj_O → mj_H → Prop} (k : post (.inl (some (.int 0))) (hp K (mi M 0 1) o, nc, ns)) : mj_G y_M_made b_M_made 7 (some .int) [] (d + 1) none 0 [(0, .ref 38), (1, .int x1), (2, .int x2), (3, .int x3)] [] (hp K M o, nc, ns) post := by
  refine G_iload_n 1 d_M_made_0 rfl ?_
  refine G_iflt 16 d_M_made_1 (by decide) (fun h1 => ?_) (fun h1 => ?_)
  · refine G_iconst (v := 0) d_M_made_16 (by decide) ?_
    refine G_istore (ls' := [(4, .int 0), (0, .ref 38), (1, .int x1), (2, .int x2), (3, .int x3)]) d_M_made_17 (by decide) rfl ?_
    refine G_iload 0 d_M_made_19 rfl ?_
    refine G_ifeq 33 d_M_made_21 (by decide) (fun _ => ?_) (fun h => absurd h (by decide))
    refine G_iconst (v := 0) d_M_made_33 (by decide) ?_
    refine G_istore (ls' := [(5, .int 0), (4, .int 0), (0, .ref 38), (1, .int x1), (2, .int x2), (3, .int x3)]) d_M_made_34 (by decide) rfl ?_
    refine G_iload 1 d_M_made_36 rfl ?_
    refine G_ifeq 76 d_M_made_38 (by decide) (fun _ => ?_) (fun h => absurd h (by decide))
    refine G_iload 1 d_M_made_76 rfl ?_
    refine G_ifeq 117 d_M_made_78 (by decide) (fun _ => ?_) (fun h => absurd h (by decide))
    refine G_iload 1 d_M_made_117 rfl ?_
    refine G_ifne 126 d_M_made_119 (by decide) (fun h => absurd h (by decide)) (fun _ => ?_)
    refine G_iconst (v := 0) d_M_made_122 (by decide) ?_
    refine G_goto 160 d_M_made_123 (by decide) ?_
    refine G_istore (ls' := [(6, .int 0), (5, .int 0), (4, .int 0), (0, .ref 38), (1, .int x1), (2, .int x2), (3, .int x3)]) d_M_made_160 (by decide) rfl ?_
    refine G_aload_n 3 d_M_made_162 rfl ?_
    refine G_iload 2 d_M_made_163 rfl ?_
    refine G_ifne 172 d_M_made_165 (by decide) (fun h => absurd h (by decide)) (fun _ => ?_)
    refine G_iconst (v := 1) d_M_made_168 (by decide) ?_
    refine G_goto 194 d_M_made_169 (by decide) ?_
    refine G_pt d_M_made_194 fp_M_87 (wr_M_thrown K M o 1) ?_
    refine G_aload_n 3 d_M_made_197 rfl ?_
    refine G_gt d_M_made_198 fr_M_87 (rd_M_thrown K (mi M 0 1) o) ?_
    rw [show (mi M 0 1).1 0 = 1 from rfl]
    refine G_ifle 208 d_M_made_201 (by decide) (fun h => absurd h (by decide)) (fun _ => ?_)
    refine G_iconst (v := 0) d_M_made_204 (by decide) ?_
    refine G_goto 224 d_M_made_205 (by decide) ?_
    exact G_iret d_M_made_224 rfl k
  · refine G_iload_n 1 d_M_made_4 rfl ?_
    refine G_aload_n 0 d_M_made_5 rfl ?_
    refine G_gt d_M_made_6 fr_M_97 (rd_M_cons K M o) ?_
    refine G_icge 16 d_M_made_9 (by decide) (fun h9 => ?_) (fun h9 => ?_)
    · refine G_iconst (v := 0) d_M_made_16 (by decide) ?_
      refine G_istore (ls' := [(4, .int 0), (0, .ref 38), (1, .int x1), (2, .int x2), (3, .int x3)]) d_M_made_17 (by decide) rfl ?_
      refine G_iload 0 d_M_made_19 rfl ?_
      refine G_ifeq 33 d_M_made_21 (by decide) (fun _ => ?_) (fun h => absurd h (by decide))
      refine G_iconst (v := 0) d_M_made_33 (by decide) ?_
      refine G_istore (ls' := [(5, .int 0), (4, .int 0), (0, .ref 38), (1, .int x1), (2, .int x2), (3, .int x3)]) d_M_made_34 (by decide) rfl ?_
      refine G_iload 1 d_M_made_36 rfl ?_
      refine G_ifeq 76 d_M_made_38 (by decide) (fun _ => ?_) (fun h => absurd h (by decide))
      refine G_iload 1 d_M_made_76 rfl ?_
      refine G_ifeq 117 d_M_made_78 (by decide) (fun _ => ?_) (fun h => absurd h (by decide))
      refine G_iload 1 d_M_made_117 rfl ?_
      refine G_ifne 126 d_M_made_119 (by decide) (fun h => absurd h (by decide)) (fun _ => ?_)
      refine G_iconst (v := 0) d_M_made_122 (by decide) ?_
      refine G_goto 160 d_M_made_123 (by decide) ?_
      refine G_istore (ls' := [(6, .int 0), (5, .int 0), (4, .int 0), (0, .ref 38), (1, .int x1), (2, .int x2), (3, .int x3)]) d_M_made_160 (by decide) rfl ?_
      refine G_aload_n 3 d_M_made_162 rfl ?_
      refine G_iload 2 d_M_made_163 rfl ?_
      refine G_ifne 172 d_M_made_165 (by decide) (fun h => absurd h (by decide)) (fun _ => ?_)
      refine G_iconst (v := 1) d_M_made_168 (by decide) ?_
      refine G_goto 194 d_M_made_169 (by decide) ?_
      refine G_pt d_M_made_194 fp_M_87 (wr_M_thrown K M o 1) ?_
      refine G_aload_n 3 d_M_made_197 rfl ?_
      refine G_gt d_M_made_198 fr_M_87 (rd_M_thrown K (mi M 0 1) o) ?_
      rw [show (mi M 0 1).1 0 = 1 from rfl]
      refine G_ifle 208 d_M_made_201 (by decide) (fun h => absurd h (by decide)) (fun _ => ?_)
      refine G_iconst (v := 0) d_M_made_204 (by decide) ?_
      refine G_goto 224 d_M_made_205 (by decide) ?_
      exact G_iret d_M_made_224 rfl k
    · exact absurd ⟨Int32.not_lt.mp h1, Int32.not_le.mp h9⟩ h
set_option maxHeartbeats 600000 in
set_option maxRecDepth 100000 in
theorem c_M_made0 {K : KC} {M : MC} {o : Nat → Int64} {nc ns : Nat} {d c : Nat} (x2 x3 : Int32) (hC : wfC M) (hP : wfP M) (hc : c < mC M) (e40 : M.2 40 c = nI 0) {post : mj_O → mj_H → Prop}  (k2 : mP M = 200 → post (.inl (some (.int 0))) (hp K (mi M 0 2) o, nc, ns)) (k0 : mP M ≠ 200 → post (.inl (some (.int (nI (mP M))))) (hp K (patM (mi M 0 0) (mP M) 2 (M.2 39 c) (nI c) x2 x3 (nI 1)) o, nc, ns)) : mj_G y_M_made b_M_made 7 (some .int) [] (d + 1) none 0 [(0, .ref 38), (1, .int (nI c)), (2, .int x2), (3, .int x3)] [] (hp K M o, nc, ns) post := by
  have q30 := hC.2.1
  have q200 := hP.2.1
  refine G_iload_n 1 d_M_made_0 rfl ?_
  refine G_iflt 16 d_M_made_1 (by decide) (fun h1 => False.elim (nI_pos (n := c) (by omega) h1)) (fun h1 => ?_)
  refine G_iload_n 1 d_M_made_4 rfl ?_
  refine G_aload_n 0 d_M_made_5 rfl ?_
  refine G_gt d_M_made_6 fr_M_97 (rd_M_cons K M o) ?_
  rw [show M.1 2 = nI (mC M) from hC.1]
  refine G_icge 16 d_M_made_9 (by decide) (fun h9 => False.elim (nI_ge hc (by omega) h9)) (fun h9 => ?_)
  refine G_iconst (v := 1) d_M_made_12 (by decide) ?_
  refine G_goto 17 d_M_made_13 (by decide) ?_
  refine G_istore (ls' := [(4, .int 1), (0, .ref 38), (1, .int (nI c)), (2, .int x2), (3, .int x3)]) d_M_made_17 (by decide) rfl ?_
  refine G_iload 0 d_M_made_19 rfl ?_
  refine G_ifeq 33 d_M_made_21 (by decide) (fun h => absurd h (by decide)) (fun _ => ?_)
  refine G_aload_n 1 d_M_made_24 rfl ?_
  refine G_gt d_M_made_25 fr_M_17 (rd_M_conParts K M o) ?_
  refine G_iload_n 2 d_M_made_28 rfl ?_
  refine G_ialN d_M_made_29 (ar_40 K M o) (by decide) (by omega) ?_
  rw [e40]
  refine G_goto 34 d_M_made_30 (by decide) ?_
  refine G_istore (ls' := [(5, .int (nI 0)), (4, .int 1), (0, .ref 38), (1, .int (nI c)), (2, .int x2), (3, .int x3)]) d_M_made_34 (by decide) rfl ?_
  refine G_iload 1 d_M_made_36 rfl ?_
  refine G_ifeq 76 d_M_made_38 (by decide) (fun h => absurd h (by decide)) (fun _ => ?_)
  refine G_iload 0 d_M_made_41 rfl ?_
  refine G_ifle 76 d_M_made_43 (by decide) (fun _ => ?_) (fun h => absurd h (by decide))
  refine G_iload 1 d_M_made_76 rfl ?_
  refine G_ifeq 117 d_M_made_78 (by decide) (fun h => absurd h (by decide)) (fun _ => ?_)
  refine G_iload 0 d_M_made_81 rfl ?_
  refine G_iconst (v := 1) d_M_made_83 (by decide) ?_
  refine G_icle 117 d_M_made_84 (by decide) (fun _ => ?_) (fun h => absurd h (by decide))
  refine G_iload 1 d_M_made_117 rfl ?_
  refine G_ifne 126 d_M_made_119 (by decide) (fun _ => ?_) (fun h => absurd h (by decide))
  refine G_iconst (v := nI 1) d_M_made_126 (by decide) ?_
  refine G_iload 0 d_M_made_127 rfl ?_
  refine G_ifle 141 d_M_made_129 (by decide) (fun _ => ?_) (fun h => absurd h (by decide))
  refine G_iconst (v := nI 0) d_M_made_141 (by decide) ?_
  refine G_iadd d_M_made_142 ?_
  rw [show nI 1 + nI 0 = nI 1 from Int32.add_zero _]
  refine G_iload 0 d_M_made_143 rfl ?_
  refine G_iconst (v := 1) d_M_made_145 (by decide) ?_
  refine G_icle 158 d_M_made_146 (by decide) (fun _ => ?_) (fun h => absurd h (by decide))
  refine G_iconst (v := nI 0) d_M_made_158 (by decide) ?_
  refine G_iadd d_M_made_159 ?_
  rw [show nI 1 + nI 0 = nI 1 from Int32.add_zero _]
  refine G_istore (ls' := [(6, .int (nI 1)), (5, .int (nI 0)), (4, .int 1), (0, .ref 38), (1, .int (nI c)), (2, .int x2), (3, .int x3)]) d_M_made_160 (by decide) rfl ?_
  refine G_aload_n 3 d_M_made_162 rfl ?_
  refine G_iload 2 d_M_made_163 rfl ?_
  refine G_ifne 172 d_M_made_165 (by decide) (fun _ => ?_) (fun h => absurd h (by decide))
  refine G_aload_n 3 d_M_made_172 rfl ?_
  refine G_gt d_M_made_173 fr_M_90 (rd_M_patterns K M o) ?_
  rw [show M.1 3 = nI (mP M) from hP.1]
  refine G_sipush (v := nI 200) d_M_made_176 (by decide) ?_
  refine G_iceq 189 d_M_made_179 (by decide) (fun h179 => ?_) (fun h179 => ?_)
  · have h179 := (nI_eq (by omega) (by omega)).mp h179
    refine G_iconst (v := 2) d_M_made_189 (by decide) ?_
    refine G_goto 194 d_M_made_190 (by decide) ?_
    refine G_pt d_M_made_194 fp_M_87 (wr_M_thrown K M o 2) ?_
    refine G_aload_n 3 d_M_made_197 rfl ?_
    refine G_gt d_M_made_198 fr_M_87 (rd_M_thrown K (mi M 0 2) o) ?_
    rw [show (mi M 0 2).1 0 = 2 from rfl]
    refine G_ifle 208 d_M_made_201 (by decide) (fun h => absurd h (by decide)) (fun _ => ?_)
    refine G_iconst (v := 0) d_M_made_204 (by decide) ?_
    refine G_goto 224 d_M_made_205 (by decide) ?_
    exact G_iret d_M_made_224 rfl (k2 h179)
  · have h179 := (nI_ne (by omega) (by omega)).mp h179
    refine G_iload 0 d_M_made_182 rfl ?_
    refine G_bipush (v := nI 12) d_M_made_184 (by decide) ?_
    refine G_icle 193 d_M_made_186 (by decide) (fun _ => ?_) (fun h => absurd h (by decide))
    refine G_iconst (v := 0) d_M_made_193 (by decide) ?_
    refine G_pt d_M_made_194 fp_M_87 (wr_M_thrown K M o 0) ?_
    refine G_aload_n 3 d_M_made_197 rfl ?_
    refine G_gt d_M_made_198 fr_M_87 (rd_M_thrown K (mi M 0 0) o) ?_
    rw [show (mi M 0 0).1 0 = 0 from rfl]
    refine G_ifle 208 d_M_made_201 (by decide) (fun _ => ?_) (fun h => absurd h (by decide))
    refine G_aload_n 3 d_M_made_208 rfl ?_
    refine G_iconst (v := 2) d_M_made_209 (by decide) ?_
    refine G_aload_n 3 d_M_made_210 rfl ?_
    refine G_gt d_M_made_211 fr_M_13 (rd_M_conSort K (mi M 0 0) o) ?_
    refine G_iload_n 4 d_M_made_214 rfl ?_
    refine G_ialN d_M_made_215 (ar_39 K (mi M 0 0) o) (by decide) (by omega) ?_
    rw [show (mi M 0 0).2 39 c = M.2 39 c from rfl]
    refine G_iload_n 4 d_M_made_216 rfl ?_
    refine G_iload_n 5 d_M_made_217 rfl ?_
    refine G_iload_n 6 d_M_made_218 rfl ?_
    refine G_iload 0 d_M_made_219 rfl ?_
    refine G_cv1 (some (.int (nI (mP M)))) (hp K (patM (mi M 0 0) (mP M) 2 (M.2 39 c) (nI c) x2 x3 (nI 1)) o, nc, ns) (As := [.int 2, .int (M.2 39 c), .int (nI c), .int x2, .int x3, .int (nI 1)]) d_M_made_221 cv_M_100 cw_M_pattern (ob_M K (mi M 0 0) o) np_M_pattern (Nat.le_of_ble_eq_true rfl) (Nat.le_of_ble_eq_true rfl) (fun post2 k2 => c_M_pattern (M := mi M 0 0) 2 (M.2 39 c) (nI c) x2 x3 (nI 1) (mP M) hP.1 (by omega) k2) rfl ?_
    exact G_iret d_M_made_224 rfl (k0  h179 )
set_option maxHeartbeats 600000 in
set_option maxRecDepth 100000 in
theorem c_M_made1 {K : KC} {M : MC} {o : Nat → Int64} {nc ns : Nat} {d c : Nat} (x2 x3 : Int32) (hC : wfC M) (hP : wfP M) (hc : c < mC M) (e40 : M.2 40 c = nI 1) {post : mj_O → mj_H → Prop} (kn : ¬ sP M x2 (M.2 41 c) → post (.inl (some (.int 0))) (hp K (mi M 0 1) o, nc, ns)) (k2 : ∀ p, p < mP M → x2 = nI p → M.2 44 p = M.2 41 c → (mP M = 200 ∨ ¬ 1 + pd M p ≤ 12) → post (.inl (some (.int 0))) (hp K (mi M 0 2) o, nc, ns)) (k0 : ∀ p, p < mP M → x2 = nI p → M.2 44 p = M.2 41 c → mP M ≠ 200 → 1 + pd M p ≤ 12 → post (.inl (some (.int (nI (mP M))))) (hp K (patM (mi M 0 0) (mP M) 2 (M.2 39 c) (nI c) x2 x3 (nI (1 + pd M p))) o, nc, ns)) : mj_G y_M_made b_M_made 7 (some .int) [] (d + 1) none 0 [(0, .ref 38), (1, .int (nI c)), (2, .int x2), (3, .int x3)] [] (hp K M o, nc, ns) post := by
  have q30 := hC.2.1
  have q200 := hP.2.1
  refine G_iload_n 1 d_M_made_0 rfl ?_
  refine G_iflt 16 d_M_made_1 (by decide) (fun h1 => False.elim (nI_pos (n := c) (by omega) h1)) (fun h1 => ?_)
  refine G_iload_n 1 d_M_made_4 rfl ?_
  refine G_aload_n 0 d_M_made_5 rfl ?_
  refine G_gt d_M_made_6 fr_M_97 (rd_M_cons K M o) ?_
  rw [show M.1 2 = nI (mC M) from hC.1]
  refine G_icge 16 d_M_made_9 (by decide) (fun h9 => False.elim (nI_ge hc (by omega) h9)) (fun h9 => ?_)
  refine G_iconst (v := 1) d_M_made_12 (by decide) ?_
  refine G_goto 17 d_M_made_13 (by decide) ?_
  refine G_istore (ls' := [(4, .int 1), (0, .ref 38), (1, .int (nI c)), (2, .int x2), (3, .int x3)]) d_M_made_17 (by decide) rfl ?_
  refine G_iload 0 d_M_made_19 rfl ?_
  refine G_ifeq 33 d_M_made_21 (by decide) (fun h => absurd h (by decide)) (fun _ => ?_)
  refine G_aload_n 1 d_M_made_24 rfl ?_
  refine G_gt d_M_made_25 fr_M_17 (rd_M_conParts K M o) ?_
  refine G_iload_n 2 d_M_made_28 rfl ?_
  refine G_ialN d_M_made_29 (ar_40 K M o) (by decide) (by omega) ?_
  rw [e40]
  refine G_goto 34 d_M_made_30 (by decide) ?_
  refine G_istore (ls' := [(5, .int (nI 1)), (4, .int 1), (0, .ref 38), (1, .int (nI c)), (2, .int x2), (3, .int x3)]) d_M_made_34 (by decide) rfl ?_
  refine G_iload 1 d_M_made_36 rfl ?_
  refine G_ifeq 76 d_M_made_38 (by decide) (fun h => absurd h (by decide)) (fun _ => ?_)
  refine G_iload 0 d_M_made_41 rfl ?_
  refine G_ifle 76 d_M_made_43 (by decide) (fun h => absurd h (by decide)) (fun _ => ?_)
  refine G_aload_n 2 d_M_made_46 rfl ?_
  refine G_iload_n 4 d_M_made_47 rfl ?_
  refine G_cvB (iP M x2) (As := [.int x2]) d_M_made_48 cv_M_104 cw_M_isPattern (ob_M K M o) np_M_isPattern (Nat.le_of_ble_eq_true rfl) (Nat.le_of_ble_eq_true rfl) (fun post2 k1 k0 => c_M_isPattern x2 k1 k0) (fun u48 => ?_) (fun u48 => ?_)
  · obtain ⟨p, zp, rfl⟩ := iP_of hP u48
    have ⟨wp, bp⟩ := (hP.2.2 p zp).2.2.1
    refine G_ifeq 73 d_M_made_51 (by decide) (fun h => absurd h (by decide)) (fun _ => ?_)
    refine G_aload_n 2 d_M_made_54 rfl ?_
    refine G_gt d_M_made_55 fr_M_29 (rd_M_sortOf K M o) ?_
    refine G_iload_n 4 d_M_made_58 rfl ?_
    refine G_ialN d_M_made_59 (ar_44 K M o) (by decide) (by omega) ?_
    refine G_aload_n 2 d_M_made_60 rfl ?_
    refine G_gt d_M_made_61 fr_M_20 (rd_M_conFirst K M o) ?_
    refine G_iload_n 3 d_M_made_64 rfl ?_
    refine G_ialN d_M_made_65 (ar_41 K M o) (by decide) (by omega) ?_
    refine G_icne 73 d_M_made_66 (by decide) (fun h66 => ?_) (fun h66 => ?_)
    · refine G_iconst (v := 0) d_M_made_73 (by decide) ?_
      refine G_istore (ls' := [(4, .int 0), (5, .int (nI 1)), (0, .ref 38), (1, .int (nI c)), (2, .int (nI p)), (3, .int x3)]) d_M_made_74 (by decide) rfl ?_
      refine G_iload 0 d_M_made_76 rfl ?_
      refine G_ifeq 117 d_M_made_78 (by decide) (fun _ => ?_) (fun h => absurd h (by decide))
      refine G_iload 0 d_M_made_117 rfl ?_
      refine G_ifne 126 d_M_made_119 (by decide) (fun h => absurd h (by decide)) (fun _ => ?_)
      refine G_iconst (v := 0) d_M_made_122 (by decide) ?_
      refine G_goto 160 d_M_made_123 (by decide) ?_
      refine G_istore (ls' := [(6, .int 0), (4, .int 0), (5, .int (nI 1)), (0, .ref 38), (1, .int (nI c)), (2, .int (nI p)), (3, .int x3)]) d_M_made_160 (by decide) rfl ?_
      refine G_aload_n 3 d_M_made_162 rfl ?_
      refine G_iload 1 d_M_made_163 rfl ?_
      refine G_ifne 172 d_M_made_165 (by decide) (fun h => absurd h (by decide)) (fun _ => ?_)
      refine G_iconst (v := 1) d_M_made_168 (by decide) ?_
      refine G_goto 194 d_M_made_169 (by decide) ?_
      refine G_pt d_M_made_194 fp_M_87 (wr_M_thrown K M o 1) ?_
      refine G_aload_n 3 d_M_made_197 rfl ?_
      refine G_gt d_M_made_198 fr_M_87 (rd_M_thrown K (mi M 0 1) o) ?_
      rw [show (mi M 0 1).1 0 = 1 from rfl]
      refine G_ifle 208 d_M_made_201 (by decide) (fun h => absurd h (by decide)) (fun _ => ?_)
      refine G_iconst (v := 0) d_M_made_204 (by decide) ?_
      refine G_goto 224 d_M_made_205 (by decide) ?_
      exact G_iret d_M_made_224 rfl (kn (fun z1 => h66 (by have e := z1.2; rw [nI_clamp (by omega)] at e; exact e)))
    · refine G_iconst (v := 1) d_M_made_69 (by decide) ?_
      refine G_goto 74 d_M_made_70 (by decide) ?_
      refine G_istore (ls' := [(4, .int 1), (5, .int (nI 1)), (0, .ref 38), (1, .int (nI c)), (2, .int (nI p)), (3, .int x3)]) d_M_made_74 (by decide) rfl ?_
      refine G_iload 0 d_M_made_76 rfl ?_
      refine G_ifeq 117 d_M_made_78 (by decide) (fun h => absurd h (by decide)) (fun _ => ?_)
      refine G_iload 1 d_M_made_81 rfl ?_
      refine G_iconst (v := 1) d_M_made_83 (by decide) ?_
      refine G_icle 117 d_M_made_84 (by decide) (fun _ => ?_) (fun h => absurd h (by decide))
      refine G_iload 0 d_M_made_117 rfl ?_
      refine G_ifne 126 d_M_made_119 (by decide) (fun _ => ?_) (fun h => absurd h (by decide))
      refine G_iconst (v := nI 1) d_M_made_126 (by decide) ?_
      refine G_iload 1 d_M_made_127 rfl ?_
      refine G_ifle 141 d_M_made_129 (by decide) (fun h => absurd h (by decide)) (fun _ => ?_)
      refine G_aload_n 2 d_M_made_132 rfl ?_
      refine G_gt d_M_made_133 fr_M_41 (rd_M_width K M o) ?_
      refine G_iload_n 4 d_M_made_136 rfl ?_
      refine G_ialN d_M_made_137 (ar_48 K M o) (by decide) (by omega) ?_
      rw [wp]
      refine G_goto 142 d_M_made_138 (by decide) ?_
      refine G_iadd d_M_made_142 ?_
      rw [nI_add]
      refine G_iload 1 d_M_made_143 rfl ?_
      refine G_iconst (v := 1) d_M_made_145 (by decide) ?_
      refine G_icle 158 d_M_made_146 (by decide) (fun _ => ?_) (fun h => absurd h (by decide))
      refine G_iconst (v := nI 0) d_M_made_158 (by decide) ?_
      refine G_iadd d_M_made_159 ?_
      rw [show nI (1 + pd M p) + nI 0 = nI (1 + pd M p) from Int32.add_zero _]
      refine G_istore (ls' := [(6, .int (nI (1 + pd M p))), (4, .int 1), (5, .int (nI 1)), (0, .ref 38), (1, .int (nI c)), (2, .int (nI p)), (3, .int x3)]) d_M_made_160 (by decide) rfl ?_
      refine G_aload_n 3 d_M_made_162 rfl ?_
      refine G_iload 1 d_M_made_163 rfl ?_
      refine G_ifne 172 d_M_made_165 (by decide) (fun _ => ?_) (fun h => absurd h (by decide))
      refine G_aload_n 3 d_M_made_172 rfl ?_
      refine G_gt d_M_made_173 fr_M_90 (rd_M_patterns K M o) ?_
      rw [show M.1 3 = nI (mP M) from hP.1]
      refine G_sipush (v := nI 200) d_M_made_176 (by decide) ?_
      refine G_iceq 189 d_M_made_179 (by decide) (fun h179 => ?_) (fun h179 => ?_)
      · have h179 := (nI_eq (by omega) (by omega)).mp h179
        refine G_iconst (v := 2) d_M_made_189 (by decide) ?_
        refine G_goto 194 d_M_made_190 (by decide) ?_
        refine G_pt d_M_made_194 fp_M_87 (wr_M_thrown K M o 2) ?_
        refine G_aload_n 3 d_M_made_197 rfl ?_
        refine G_gt d_M_made_198 fr_M_87 (rd_M_thrown K (mi M 0 2) o) ?_
        rw [show (mi M 0 2).1 0 = 2 from rfl]
        refine G_ifle 208 d_M_made_201 (by decide) (fun h => absurd h (by decide)) (fun _ => ?_)
        refine G_iconst (v := 0) d_M_made_204 (by decide) ?_
        refine G_goto 224 d_M_made_205 (by decide) ?_
        exact G_iret d_M_made_224 rfl (k2 p zp rfl h66 (Or.inl h179))
      · have h179 := (nI_ne (by omega) (by omega)).mp h179
        refine G_iload 0 d_M_made_182 rfl ?_
        refine G_bipush (v := nI 12) d_M_made_184 (by decide) ?_
        refine G_icle 193 d_M_made_186 (by decide) (fun h186 => ?_) (fun h186 => ?_)
        · have h186 := (nI_leI (by omega) (by omega)).mp h186
          refine G_iconst (v := 0) d_M_made_193 (by decide) ?_
          refine G_pt d_M_made_194 fp_M_87 (wr_M_thrown K M o 0) ?_
          refine G_aload_n 3 d_M_made_197 rfl ?_
          refine G_gt d_M_made_198 fr_M_87 (rd_M_thrown K (mi M 0 0) o) ?_
          rw [show (mi M 0 0).1 0 = 0 from rfl]
          refine G_ifle 208 d_M_made_201 (by decide) (fun _ => ?_) (fun h => absurd h (by decide))
          refine G_aload_n 3 d_M_made_208 rfl ?_
          refine G_iconst (v := 2) d_M_made_209 (by decide) ?_
          refine G_aload_n 3 d_M_made_210 rfl ?_
          refine G_gt d_M_made_211 fr_M_13 (rd_M_conSort K (mi M 0 0) o) ?_
          refine G_iload_n 4 d_M_made_214 rfl ?_
          refine G_ialN d_M_made_215 (ar_39 K (mi M 0 0) o) (by decide) (by omega) ?_
          rw [show (mi M 0 0).2 39 c = M.2 39 c from rfl]
          refine G_iload_n 4 d_M_made_216 rfl ?_
          refine G_iload_n 5 d_M_made_217 rfl ?_
          refine G_iload_n 6 d_M_made_218 rfl ?_
          refine G_iload 0 d_M_made_219 rfl ?_
          refine G_cv1 (some (.int (nI (mP M)))) (hp K (patM (mi M 0 0) (mP M) 2 (M.2 39 c) (nI c) (nI p) x3 (nI (1 + pd M p))) o, nc, ns) (As := [.int 2, .int (M.2 39 c), .int (nI c), .int (nI p), .int x3, .int (nI (1 + pd M p))]) d_M_made_221 cv_M_100 cw_M_pattern (ob_M K (mi M 0 0) o) np_M_pattern (Nat.le_of_ble_eq_true rfl) (Nat.le_of_ble_eq_true rfl) (fun post2 k2 => c_M_pattern (M := mi M 0 0) 2 (M.2 39 c) (nI c) (nI p) x3 (nI (1 + pd M p)) (mP M) hP.1 (by omega) k2) rfl ?_
          exact G_iret d_M_made_224 rfl (k0 p zp rfl h66 h179 h186)
        · have h186 : ¬ _ := fun z => h186 ((nI_leI (by omega) (by omega)).mpr z)
          refine G_iconst (v := 2) d_M_made_189 (by decide) ?_
          refine G_goto 194 d_M_made_190 (by decide) ?_
          refine G_pt d_M_made_194 fp_M_87 (wr_M_thrown K M o 2) ?_
          refine G_aload_n 3 d_M_made_197 rfl ?_
          refine G_gt d_M_made_198 fr_M_87 (rd_M_thrown K (mi M 0 2) o) ?_
          rw [show (mi M 0 2).1 0 = 2 from rfl]
          refine G_ifle 208 d_M_made_201 (by decide) (fun h => absurd h (by decide)) (fun _ => ?_)
          refine G_iconst (v := 0) d_M_made_204 (by decide) ?_
          refine G_goto 224 d_M_made_205 (by decide) ?_
          exact G_iret d_M_made_224 rfl (k2 p zp rfl h66 (Or.inr h186))
  · refine G_ifeq 73 d_M_made_51 (by decide) (fun _ => ?_) (fun h => absurd h (by decide))
    refine G_iconst (v := 0) d_M_made_73 (by decide) ?_
    refine G_istore (ls' := [(4, .int 0), (5, .int (nI 1)), (0, .ref 38), (1, .int (nI c)), (2, .int x2), (3, .int x3)]) d_M_made_74 (by decide) rfl ?_
    refine G_iload 0 d_M_made_76 rfl ?_
    refine G_ifeq 117 d_M_made_78 (by decide) (fun _ => ?_) (fun h => absurd h (by decide))
    refine G_iload 0 d_M_made_117 rfl ?_
    refine G_ifne 126 d_M_made_119 (by decide) (fun h => absurd h (by decide)) (fun _ => ?_)
    refine G_iconst (v := 0) d_M_made_122 (by decide) ?_
    refine G_goto 160 d_M_made_123 (by decide) ?_
    refine G_istore (ls' := [(6, .int 0), (4, .int 0), (5, .int (nI 1)), (0, .ref 38), (1, .int (nI c)), (2, .int x2), (3, .int x3)]) d_M_made_160 (by decide) rfl ?_
    refine G_aload_n 3 d_M_made_162 rfl ?_
    refine G_iload 1 d_M_made_163 rfl ?_
    refine G_ifne 172 d_M_made_165 (by decide) (fun h => absurd h (by decide)) (fun _ => ?_)
    refine G_iconst (v := 1) d_M_made_168 (by decide) ?_
    refine G_goto 194 d_M_made_169 (by decide) ?_
    refine G_pt d_M_made_194 fp_M_87 (wr_M_thrown K M o 1) ?_
    refine G_aload_n 3 d_M_made_197 rfl ?_
    refine G_gt d_M_made_198 fr_M_87 (rd_M_thrown K (mi M 0 1) o) ?_
    rw [show (mi M 0 1).1 0 = 1 from rfl]
    refine G_ifle 208 d_M_made_201 (by decide) (fun h => absurd h (by decide)) (fun _ => ?_)
    refine G_iconst (v := 0) d_M_made_204 (by decide) ?_
    refine G_goto 224 d_M_made_205 (by decide) ?_
    exact G_iret d_M_made_224 rfl (kn (fun z1 => u48 z1.1))
set_option maxHeartbeats 600000 in
set_option maxRecDepth 100000 in
theorem c_M_made2 {K : KC} {M : MC} {o : Nat → Int64} {nc ns : Nat} {d c : Nat} (x2 x3 : Int32) (hC : wfC M) (hP : wfP M) (hc : c < mC M) (e40 : M.2 40 c = nI 2) {post : mj_O → mj_H → Prop} (kn : ¬ (sP M x2 (M.2 41 c) ∧ sP M x3 (M.2 42 c)) → post (.inl (some (.int 0))) (hp K (mi M 0 1) o, nc, ns)) (k2 : ∀ p q, p < mP M → q < mP M → x2 = nI p → x3 = nI q → M.2 44 p = M.2 41 c → M.2 44 q = M.2 42 c → (mP M = 200 ∨ ¬ 1 + pd M p + pd M q ≤ 12) → post (.inl (some (.int 0))) (hp K (mi M 0 2) o, nc, ns)) (k0 : ∀ p q, p < mP M → q < mP M → x2 = nI p → x3 = nI q → M.2 44 p = M.2 41 c → M.2 44 q = M.2 42 c → mP M ≠ 200 → 1 + pd M p + pd M q ≤ 12 → post (.inl (some (.int (nI (mP M))))) (hp K (patM (mi M 0 0) (mP M) 2 (M.2 39 c) (nI c) x2 x3 (nI (1 + pd M p + pd M q))) o, nc, ns)) : mj_G y_M_made b_M_made 7 (some .int) [] (d + 1) none 0 [(0, .ref 38), (1, .int (nI c)), (2, .int x2), (3, .int x3)] [] (hp K M o, nc, ns) post := by
  have q30 := hC.2.1
  have q200 := hP.2.1
  refine G_iload_n 1 d_M_made_0 rfl ?_
  refine G_iflt 16 d_M_made_1 (by decide) (fun h1 => False.elim (nI_pos (n := c) (by omega) h1)) (fun h1 => ?_)
  refine G_iload_n 1 d_M_made_4 rfl ?_
  refine G_aload_n 0 d_M_made_5 rfl ?_
  refine G_gt d_M_made_6 fr_M_97 (rd_M_cons K M o) ?_
  rw [show M.1 2 = nI (mC M) from hC.1]
  refine G_icge 16 d_M_made_9 (by decide) (fun h9 => False.elim (nI_ge hc (by omega) h9)) (fun h9 => ?_)
  refine G_iconst (v := 1) d_M_made_12 (by decide) ?_
  refine G_goto 17 d_M_made_13 (by decide) ?_
  refine G_istore (ls' := [(4, .int 1), (0, .ref 38), (1, .int (nI c)), (2, .int x2), (3, .int x3)]) d_M_made_17 (by decide) rfl ?_
  refine G_iload 0 d_M_made_19 rfl ?_
  refine G_ifeq 33 d_M_made_21 (by decide) (fun h => absurd h (by decide)) (fun _ => ?_)
  refine G_aload_n 1 d_M_made_24 rfl ?_
  refine G_gt d_M_made_25 fr_M_17 (rd_M_conParts K M o) ?_
  refine G_iload_n 2 d_M_made_28 rfl ?_
  refine G_ialN d_M_made_29 (ar_40 K M o) (by decide) (by omega) ?_
  rw [e40]
  refine G_goto 34 d_M_made_30 (by decide) ?_
  refine G_istore (ls' := [(5, .int (nI 2)), (4, .int 1), (0, .ref 38), (1, .int (nI c)), (2, .int x2), (3, .int x3)]) d_M_made_34 (by decide) rfl ?_
  refine G_iload 1 d_M_made_36 rfl ?_
  refine G_ifeq 76 d_M_made_38 (by decide) (fun h => absurd h (by decide)) (fun _ => ?_)
  refine G_iload 0 d_M_made_41 rfl ?_
  refine G_ifle 76 d_M_made_43 (by decide) (fun h => absurd h (by decide)) (fun _ => ?_)
  refine G_aload_n 2 d_M_made_46 rfl ?_
  refine G_iload_n 4 d_M_made_47 rfl ?_
  refine G_cvB (iP M x2) (As := [.int x2]) d_M_made_48 cv_M_104 cw_M_isPattern (ob_M K M o) np_M_isPattern (Nat.le_of_ble_eq_true rfl) (Nat.le_of_ble_eq_true rfl) (fun post2 k1 k0 => c_M_isPattern x2 k1 k0) (fun u48 => ?_) (fun u48 => ?_)
  · obtain ⟨p, zp, rfl⟩ := iP_of hP u48
    have ⟨wp, bp⟩ := (hP.2.2 p zp).2.2.1
    refine G_ifeq 73 d_M_made_51 (by decide) (fun h => absurd h (by decide)) (fun _ => ?_)
    refine G_aload_n 2 d_M_made_54 rfl ?_
    refine G_gt d_M_made_55 fr_M_29 (rd_M_sortOf K M o) ?_
    refine G_iload_n 4 d_M_made_58 rfl ?_
    refine G_ialN d_M_made_59 (ar_44 K M o) (by decide) (by omega) ?_
    refine G_aload_n 2 d_M_made_60 rfl ?_
    refine G_gt d_M_made_61 fr_M_20 (rd_M_conFirst K M o) ?_
    refine G_iload_n 3 d_M_made_64 rfl ?_
    refine G_ialN d_M_made_65 (ar_41 K M o) (by decide) (by omega) ?_
    refine G_icne 73 d_M_made_66 (by decide) (fun h66 => ?_) (fun h66 => ?_)
    · refine G_iconst (v := 0) d_M_made_73 (by decide) ?_
      refine G_istore (ls' := [(4, .int 0), (5, .int (nI 2)), (0, .ref 38), (1, .int (nI c)), (2, .int (nI p)), (3, .int x3)]) d_M_made_74 (by decide) rfl ?_
      refine G_iload 0 d_M_made_76 rfl ?_
      refine G_ifeq 117 d_M_made_78 (by decide) (fun _ => ?_) (fun h => absurd h (by decide))
      refine G_iload 0 d_M_made_117 rfl ?_
      refine G_ifne 126 d_M_made_119 (by decide) (fun h => absurd h (by decide)) (fun _ => ?_)
      refine G_iconst (v := 0) d_M_made_122 (by decide) ?_
      refine G_goto 160 d_M_made_123 (by decide) ?_
      refine G_istore (ls' := [(6, .int 0), (4, .int 0), (5, .int (nI 2)), (0, .ref 38), (1, .int (nI c)), (2, .int (nI p)), (3, .int x3)]) d_M_made_160 (by decide) rfl ?_
      refine G_aload_n 3 d_M_made_162 rfl ?_
      refine G_iload 1 d_M_made_163 rfl ?_
      refine G_ifne 172 d_M_made_165 (by decide) (fun h => absurd h (by decide)) (fun _ => ?_)
      refine G_iconst (v := 1) d_M_made_168 (by decide) ?_
      refine G_goto 194 d_M_made_169 (by decide) ?_
      refine G_pt d_M_made_194 fp_M_87 (wr_M_thrown K M o 1) ?_
      refine G_aload_n 3 d_M_made_197 rfl ?_
      refine G_gt d_M_made_198 fr_M_87 (rd_M_thrown K (mi M 0 1) o) ?_
      rw [show (mi M 0 1).1 0 = 1 from rfl]
      refine G_ifle 208 d_M_made_201 (by decide) (fun h => absurd h (by decide)) (fun _ => ?_)
      refine G_iconst (v := 0) d_M_made_204 (by decide) ?_
      refine G_goto 224 d_M_made_205 (by decide) ?_
      exact G_iret d_M_made_224 rfl (kn (fun z1 => h66 (by have e := z1.1.2; rw [nI_clamp (by omega)] at e; exact e)))
    · refine G_iconst (v := 1) d_M_made_69 (by decide) ?_
      refine G_goto 74 d_M_made_70 (by decide) ?_
      refine G_istore (ls' := [(4, .int 1), (5, .int (nI 2)), (0, .ref 38), (1, .int (nI c)), (2, .int (nI p)), (3, .int x3)]) d_M_made_74 (by decide) rfl ?_
      refine G_iload 0 d_M_made_76 rfl ?_
      refine G_ifeq 117 d_M_made_78 (by decide) (fun h => absurd h (by decide)) (fun _ => ?_)
      refine G_iload 1 d_M_made_81 rfl ?_
      refine G_iconst (v := 1) d_M_made_83 (by decide) ?_
      refine G_icle 117 d_M_made_84 (by decide) (fun h => absurd h (by decide)) (fun _ => ?_)
      refine G_aload_n 2 d_M_made_87 rfl ?_
      refine G_iload_n 5 d_M_made_88 rfl ?_
      refine G_cvB (iP M x3) (As := [.int x3]) d_M_made_89 cv_M_104 cw_M_isPattern (ob_M K M o) np_M_isPattern (Nat.le_of_ble_eq_true rfl) (Nat.le_of_ble_eq_true rfl) (fun post2 k1 k0 => c_M_isPattern x3 k1 k0) (fun u89 => ?_) (fun u89 => ?_)
      · obtain ⟨q, zq, rfl⟩ := iP_of hP u89
        have ⟨wq, bq⟩ := (hP.2.2 q zq).2.2.1
        refine G_ifeq 114 d_M_made_92 (by decide) (fun h => absurd h (by decide)) (fun _ => ?_)
        refine G_aload_n 2 d_M_made_95 rfl ?_
        refine G_gt d_M_made_96 fr_M_29 (rd_M_sortOf K M o) ?_
        refine G_iload_n 5 d_M_made_99 rfl ?_
        refine G_ialN d_M_made_100 (ar_44 K M o) (by decide) (by omega) ?_
        refine G_aload_n 2 d_M_made_101 rfl ?_
        refine G_gt d_M_made_102 fr_M_23 (rd_M_conSecond K M o) ?_
        refine G_iload_n 3 d_M_made_105 rfl ?_
        refine G_ialN d_M_made_106 (ar_42 K M o) (by decide) (by omega) ?_
        refine G_icne 114 d_M_made_107 (by decide) (fun h107 => ?_) (fun h107 => ?_)
        · refine G_iconst (v := 0) d_M_made_114 (by decide) ?_
          refine G_istore (ls' := [(4, .int 0), (5, .int (nI 2)), (0, .ref 38), (1, .int (nI c)), (2, .int (nI p)), (3, .int (nI q))]) d_M_made_115 (by decide) rfl ?_
          refine G_iload 0 d_M_made_117 rfl ?_
          refine G_ifne 126 d_M_made_119 (by decide) (fun h => absurd h (by decide)) (fun _ => ?_)
          refine G_iconst (v := 0) d_M_made_122 (by decide) ?_
          refine G_goto 160 d_M_made_123 (by decide) ?_
          refine G_istore (ls' := [(6, .int 0), (4, .int 0), (5, .int (nI 2)), (0, .ref 38), (1, .int (nI c)), (2, .int (nI p)), (3, .int (nI q))]) d_M_made_160 (by decide) rfl ?_
          refine G_aload_n 3 d_M_made_162 rfl ?_
          refine G_iload 1 d_M_made_163 rfl ?_
          refine G_ifne 172 d_M_made_165 (by decide) (fun h => absurd h (by decide)) (fun _ => ?_)
          refine G_iconst (v := 1) d_M_made_168 (by decide) ?_
          refine G_goto 194 d_M_made_169 (by decide) ?_
          refine G_pt d_M_made_194 fp_M_87 (wr_M_thrown K M o 1) ?_
          refine G_aload_n 3 d_M_made_197 rfl ?_
          refine G_gt d_M_made_198 fr_M_87 (rd_M_thrown K (mi M 0 1) o) ?_
          rw [show (mi M 0 1).1 0 = 1 from rfl]
          refine G_ifle 208 d_M_made_201 (by decide) (fun h => absurd h (by decide)) (fun _ => ?_)
          refine G_iconst (v := 0) d_M_made_204 (by decide) ?_
          refine G_goto 224 d_M_made_205 (by decide) ?_
          exact G_iret d_M_made_224 rfl (kn (fun z1 => h107 (by have e := z1.2.2; rw [nI_clamp (by omega)] at e; exact e)))
        · refine G_iconst (v := 1) d_M_made_110 (by decide) ?_
          refine G_goto 115 d_M_made_111 (by decide) ?_
          refine G_istore (ls' := [(4, .int 1), (5, .int (nI 2)), (0, .ref 38), (1, .int (nI c)), (2, .int (nI p)), (3, .int (nI q))]) d_M_made_115 (by decide) rfl ?_
          refine G_iload 0 d_M_made_117 rfl ?_
          refine G_ifne 126 d_M_made_119 (by decide) (fun _ => ?_) (fun h => absurd h (by decide))
          refine G_iconst (v := nI 1) d_M_made_126 (by decide) ?_
          refine G_iload 1 d_M_made_127 rfl ?_
          refine G_ifle 141 d_M_made_129 (by decide) (fun h => absurd h (by decide)) (fun _ => ?_)
          refine G_aload_n 2 d_M_made_132 rfl ?_
          refine G_gt d_M_made_133 fr_M_41 (rd_M_width K M o) ?_
          refine G_iload_n 4 d_M_made_136 rfl ?_
          refine G_ialN d_M_made_137 (ar_48 K M o) (by decide) (by omega) ?_
          rw [wp]
          refine G_goto 142 d_M_made_138 (by decide) ?_
          refine G_iadd d_M_made_142 ?_
          rw [nI_add]
          refine G_iload 1 d_M_made_143 rfl ?_
          refine G_iconst (v := 1) d_M_made_145 (by decide) ?_
          refine G_icle 158 d_M_made_146 (by decide) (fun h => absurd h (by decide)) (fun _ => ?_)
          refine G_aload_n 2 d_M_made_149 rfl ?_
          refine G_gt d_M_made_150 fr_M_41 (rd_M_width K M o) ?_
          refine G_iload_n 5 d_M_made_153 rfl ?_
          refine G_ialN d_M_made_154 (ar_48 K M o) (by decide) (by omega) ?_
          rw [wq]
          refine G_goto 159 d_M_made_155 (by decide) ?_
          refine G_iadd d_M_made_159 ?_
          rw [nI_add]
          refine G_istore (ls' := [(6, .int (nI (1 + pd M p + pd M q))), (4, .int 1), (5, .int (nI 2)), (0, .ref 38), (1, .int (nI c)), (2, .int (nI p)), (3, .int (nI q))]) d_M_made_160 (by decide) rfl ?_
          refine G_aload_n 3 d_M_made_162 rfl ?_
          refine G_iload 1 d_M_made_163 rfl ?_
          refine G_ifne 172 d_M_made_165 (by decide) (fun _ => ?_) (fun h => absurd h (by decide))
          refine G_aload_n 3 d_M_made_172 rfl ?_
          refine G_gt d_M_made_173 fr_M_90 (rd_M_patterns K M o) ?_
          rw [show M.1 3 = nI (mP M) from hP.1]
          refine G_sipush (v := nI 200) d_M_made_176 (by decide) ?_
          refine G_iceq 189 d_M_made_179 (by decide) (fun h179 => ?_) (fun h179 => ?_)
          · have h179 := (nI_eq (by omega) (by omega)).mp h179
            refine G_iconst (v := 2) d_M_made_189 (by decide) ?_
            refine G_goto 194 d_M_made_190 (by decide) ?_
            refine G_pt d_M_made_194 fp_M_87 (wr_M_thrown K M o 2) ?_
            refine G_aload_n 3 d_M_made_197 rfl ?_
            refine G_gt d_M_made_198 fr_M_87 (rd_M_thrown K (mi M 0 2) o) ?_
            rw [show (mi M 0 2).1 0 = 2 from rfl]
            refine G_ifle 208 d_M_made_201 (by decide) (fun h => absurd h (by decide)) (fun _ => ?_)
            refine G_iconst (v := 0) d_M_made_204 (by decide) ?_
            refine G_goto 224 d_M_made_205 (by decide) ?_
            exact G_iret d_M_made_224 rfl (k2 p q zp zq rfl rfl h66 h107 (Or.inl h179))
          · have h179 := (nI_ne (by omega) (by omega)).mp h179
            refine G_iload 0 d_M_made_182 rfl ?_
            refine G_bipush (v := nI 12) d_M_made_184 (by decide) ?_
            refine G_icle 193 d_M_made_186 (by decide) (fun h186 => ?_) (fun h186 => ?_)
            · have h186 := (nI_leI (by omega) (by omega)).mp h186
              refine G_iconst (v := 0) d_M_made_193 (by decide) ?_
              refine G_pt d_M_made_194 fp_M_87 (wr_M_thrown K M o 0) ?_
              refine G_aload_n 3 d_M_made_197 rfl ?_
              refine G_gt d_M_made_198 fr_M_87 (rd_M_thrown K (mi M 0 0) o) ?_
              rw [show (mi M 0 0).1 0 = 0 from rfl]
              refine G_ifle 208 d_M_made_201 (by decide) (fun _ => ?_) (fun h => absurd h (by decide))
              refine G_aload_n 3 d_M_made_208 rfl ?_
              refine G_iconst (v := 2) d_M_made_209 (by decide) ?_
              refine G_aload_n 3 d_M_made_210 rfl ?_
              refine G_gt d_M_made_211 fr_M_13 (rd_M_conSort K (mi M 0 0) o) ?_
              refine G_iload_n 4 d_M_made_214 rfl ?_
              refine G_ialN d_M_made_215 (ar_39 K (mi M 0 0) o) (by decide) (by omega) ?_
              rw [show (mi M 0 0).2 39 c = M.2 39 c from rfl]
              refine G_iload_n 4 d_M_made_216 rfl ?_
              refine G_iload_n 5 d_M_made_217 rfl ?_
              refine G_iload_n 6 d_M_made_218 rfl ?_
              refine G_iload 0 d_M_made_219 rfl ?_
              refine G_cv1 (some (.int (nI (mP M)))) (hp K (patM (mi M 0 0) (mP M) 2 (M.2 39 c) (nI c) (nI p) (nI q) (nI (1 + pd M p + pd M q))) o, nc, ns) (As := [.int 2, .int (M.2 39 c), .int (nI c), .int (nI p), .int (nI q), .int (nI (1 + pd M p + pd M q))]) d_M_made_221 cv_M_100 cw_M_pattern (ob_M K (mi M 0 0) o) np_M_pattern (Nat.le_of_ble_eq_true rfl) (Nat.le_of_ble_eq_true rfl) (fun post2 k2 => c_M_pattern (M := mi M 0 0) 2 (M.2 39 c) (nI c) (nI p) (nI q) (nI (1 + pd M p + pd M q)) (mP M) hP.1 (by omega) k2) rfl ?_
              exact G_iret d_M_made_224 rfl (k0 p q zp zq rfl rfl h66 h107 h179 h186)
            · have h186 : ¬ _ := fun z => h186 ((nI_leI (by omega) (by omega)).mpr z)
              refine G_iconst (v := 2) d_M_made_189 (by decide) ?_
              refine G_goto 194 d_M_made_190 (by decide) ?_
              refine G_pt d_M_made_194 fp_M_87 (wr_M_thrown K M o 2) ?_
              refine G_aload_n 3 d_M_made_197 rfl ?_
              refine G_gt d_M_made_198 fr_M_87 (rd_M_thrown K (mi M 0 2) o) ?_
              rw [show (mi M 0 2).1 0 = 2 from rfl]
              refine G_ifle 208 d_M_made_201 (by decide) (fun h => absurd h (by decide)) (fun _ => ?_)
              refine G_iconst (v := 0) d_M_made_204 (by decide) ?_
              refine G_goto 224 d_M_made_205 (by decide) ?_
              exact G_iret d_M_made_224 rfl (k2 p q zp zq rfl rfl h66 h107 (Or.inr h186))
      · refine G_ifeq 114 d_M_made_92 (by decide) (fun _ => ?_) (fun h => absurd h (by decide))
        refine G_iconst (v := 0) d_M_made_114 (by decide) ?_
        refine G_istore (ls' := [(4, .int 0), (5, .int (nI 2)), (0, .ref 38), (1, .int (nI c)), (2, .int (nI p)), (3, .int x3)]) d_M_made_115 (by decide) rfl ?_
        refine G_iload 0 d_M_made_117 rfl ?_
        refine G_ifne 126 d_M_made_119 (by decide) (fun h => absurd h (by decide)) (fun _ => ?_)
        refine G_iconst (v := 0) d_M_made_122 (by decide) ?_
        refine G_goto 160 d_M_made_123 (by decide) ?_
        refine G_istore (ls' := [(6, .int 0), (4, .int 0), (5, .int (nI 2)), (0, .ref 38), (1, .int (nI c)), (2, .int (nI p)), (3, .int x3)]) d_M_made_160 (by decide) rfl ?_
        refine G_aload_n 3 d_M_made_162 rfl ?_
        refine G_iload 1 d_M_made_163 rfl ?_
        refine G_ifne 172 d_M_made_165 (by decide) (fun h => absurd h (by decide)) (fun _ => ?_)
        refine G_iconst (v := 1) d_M_made_168 (by decide) ?_
        refine G_goto 194 d_M_made_169 (by decide) ?_
        refine G_pt d_M_made_194 fp_M_87 (wr_M_thrown K M o 1) ?_
        refine G_aload_n 3 d_M_made_197 rfl ?_
        refine G_gt d_M_made_198 fr_M_87 (rd_M_thrown K (mi M 0 1) o) ?_
        rw [show (mi M 0 1).1 0 = 1 from rfl]
        refine G_ifle 208 d_M_made_201 (by decide) (fun h => absurd h (by decide)) (fun _ => ?_)
        refine G_iconst (v := 0) d_M_made_204 (by decide) ?_
        refine G_goto 224 d_M_made_205 (by decide) ?_
        exact G_iret d_M_made_224 rfl (kn (fun z1 => u89 z1.2.1))
  · refine G_ifeq 73 d_M_made_51 (by decide) (fun _ => ?_) (fun h => absurd h (by decide))
    refine G_iconst (v := 0) d_M_made_73 (by decide) ?_
    refine G_istore (ls' := [(4, .int 0), (5, .int (nI 2)), (0, .ref 38), (1, .int (nI c)), (2, .int x2), (3, .int x3)]) d_M_made_74 (by decide) rfl ?_
    refine G_iload 0 d_M_made_76 rfl ?_
    refine G_ifeq 117 d_M_made_78 (by decide) (fun _ => ?_) (fun h => absurd h (by decide))
    refine G_iload 0 d_M_made_117 rfl ?_
    refine G_ifne 126 d_M_made_119 (by decide) (fun h => absurd h (by decide)) (fun _ => ?_)
    refine G_iconst (v := 0) d_M_made_122 (by decide) ?_
    refine G_goto 160 d_M_made_123 (by decide) ?_
    refine G_istore (ls' := [(6, .int 0), (4, .int 0), (5, .int (nI 2)), (0, .ref 38), (1, .int (nI c)), (2, .int x2), (3, .int x3)]) d_M_made_160 (by decide) rfl ?_
    refine G_aload_n 3 d_M_made_162 rfl ?_
    refine G_iload 1 d_M_made_163 rfl ?_
    refine G_ifne 172 d_M_made_165 (by decide) (fun h => absurd h (by decide)) (fun _ => ?_)
    refine G_iconst (v := 1) d_M_made_168 (by decide) ?_
    refine G_goto 194 d_M_made_169 (by decide) ?_
    refine G_pt d_M_made_194 fp_M_87 (wr_M_thrown K M o 1) ?_
    refine G_aload_n 3 d_M_made_197 rfl ?_
    refine G_gt d_M_made_198 fr_M_87 (rd_M_thrown K (mi M 0 1) o) ?_
    rw [show (mi M 0 1).1 0 = 1 from rfl]
    refine G_ifle 208 d_M_made_201 (by decide) (fun h => absurd h (by decide)) (fun _ => ?_)
    refine G_iconst (v := 0) d_M_made_204 (by decide) ?_
    refine G_goto 224 d_M_made_205 (by decide) ?_
    exact G_iret d_M_made_224 rfl (kn (fun z1 => u48 z1.1.1))
def sW (M : MC) : Nat → Nat
  | 0 => 0
  | n + 1 => sW M n + pd M (cl M n)
theorem sW_le {M : MC} {cs kk : Nat} (hP : wfP M) (hK : wfK M cs kk) : ∀ n, n ≤ kk → sW M n ≤ 12 * n := by
  intro n
  induction n with
  | zero => intro _; exact Nat.le_refl _
  | succ n ih =>
    intro h
    have := ih (by omega)
    have := (hP.2.2 (cl M n) (hK.2.2.2.2 n (by omega)).2.1).2.2.1.2
    show sW M n + pd M (cl M n) ≤ _
    omega
def clM (M : MC) (kk p : Nat) : MC := mi (ma (mi M 0 0) 49 kk (nI p)) 4 (nI (kk + 1))
theorem clM_wfK {M : MC} {cs kk p : Nat} (hP : wfP M) (hK : wfK M cs kk) (h8 : kk < 8) (hp1 : p < mP M) (hps : ps M p = cs) : wfK (clM M kk p) cs (kk + 1) := by
  obtain ⟨e4, hk8, e5, hcs, hcl⟩ := hK
  have h200 := hP.2.1
  refine ⟨rfl, by omega, e5, hcs, fun i hi => ?_⟩
  by_cases e : i = kk
  · subst e
    have e1 : (clM M i p).2 49 i = nI p := by simp [clM, ma, mi, va_up, upd]
    have e2 : cl (clM M i p) i = p := by unfold cl; rw [e1, nI_clamp (by omega)]
    rw [e2]
    exact ⟨e1, hp1, hps⟩
  · have e1 : (clM M kk p).2 49 i = M.2 49 i := by simp [clM, ma, mi, va_up, upd, e]
    have e2 : cl (clM M kk p) i = cl M i := by unfold cl; rw [e1]
    rw [e2, e1]
    exact hcl i (by omega)
theorem clM_S {M : MC} {kk p : Nat} (h : wfS M) : wfS (clM M kk p) := h
theorem clM_C {M : MC} {kk p : Nat} (h : wfC M) : wfC (clM M kk p) := h
theorem clM_P {M : MC} {kk p : Nat} (h : wfP M) : wfP (clM M kk p) := h
set_option maxHeartbeats 600000 in
set_option maxRecDepth 100000 in
theorem l_M_clause {K : KC} {M : MC} {o : Nat → Int64} {nc ns : Nat} {d cs kk w0 : Nat} {x1 x2 : Int32} (hP : wfP M) (hK : wfK M cs kk) {post : mj_O → mj_H → Prop} (k : mj_G y_M_clause b_M_clause 5 (some .boolean) [] (d + 16) none 75 [(3, .int (nI (w0 + sW M kk))), (2, .int x2), (0, .ref 38), (1, .int x1)] [] (hp K M o, nc, ns) post) : ∀ (q i : Nat), i ≤ kk → kk < i + q → mj_G y_M_clause b_M_clause 5 (some .boolean) [] (d + 16) none 45 [(4, .int (nI i)), (3, .int (nI (w0 + sW M i))), (2, .int x2), (0, .ref 38), (1, .int x1)] [] (hp K M o, nc, ns) post := by
  have hk8 := hK.2.1
  have h200 := hP.2.1
  intro q
  induction q with
  | zero => intro i h1 h2; omega
  | succ q ih =>
    intro i h1 h2
    refine G_iload 0 d_M_clause_45 rfl ?_
    refine G_aload_n 3 d_M_clause_47 rfl ?_
    refine G_gt d_M_clause_48 fr_M_107 (rd_M_clauses K M o) ?_
    rw [hK.1]
    refine G_icge 75 d_M_clause_51 (by decide) (fun h51 => ?_) (fun h51 => ?_)
    · have h51 := (nI_leI (by omega) (by omega)).mp h51
      obtain rfl : i = kk := by omega
      exact G_sub [1, 2, 3, 4] rfl k
    · have h51 : ¬ _ := fun z => h51 ((nI_leI (by omega) (by omega)).mpr z)
      have hcl2 := (hK.2.2.2.2 i (by omega)).2.1
      refine G_iload_n 1 d_M_clause_54 rfl ?_
      refine G_aload_n 3 d_M_clause_55 rfl ?_
      refine G_gt d_M_clause_56 fr_M_41 (rd_M_width K M o) ?_
      refine G_aload_n 3 d_M_clause_59 rfl ?_
      refine G_gt d_M_clause_60 fr_M_44 (rd_M_clause K M o) ?_
      refine G_iload 0 d_M_clause_63 rfl ?_
      refine G_ialN d_M_clause_65 (ar_49 K M o) (by decide) (by omega) ?_
      rw [(hK.2.2.2.2 i (by omega)).1]
      refine G_ialN d_M_clause_66 (ar_48 K M o) (by decide) (by omega) ?_
      rw [(hP.2.2 (cl M i) hcl2).2.2.1.1]
      refine G_iadd d_M_clause_67 ?_
      rw [nI_add, show w0 + sW M i + pd M (cl M i) = w0 + sW M (i + 1) from Nat.add_assoc _ _ _]
      refine G_istore_n (ls' := [(3, .int (nI (w0 + sW M (i + 1)))), (4, .int (nI i)), (2, .int x2), (0, .ref 38), (1, .int x1)]) d_M_clause_68 (by decide) rfl ?_
      refine G_iinc 1 (v := nI (i + 1)) (ls' := [(4, .int (nI (i + 1))), (3, .int (nI (w0 + sW M (i + 1)))), (2, .int x2), (0, .ref 38), (1, .int x1)]) d_M_clause_69 rfl (nI_1 _) (by decide) rfl ?_
      refine G_goto 45 d_M_clause_72 (by decide) ?_
      exact G_sub [0, 1, 2, 3, 4] rfl (ih (i + 1) (by omega) (by omega))
set_option maxHeartbeats 600000 in
set_option maxRecDepth 100000 in
theorem c_M_clause {K : KC} {M : MC} {o : Nat → Int64} {nc ns : Nat} {d cs kk : Nat} (x : Int32) (hS : wfS M) (hC : wfC M) (hP : wfP M) (hK : wfK M cs kk) {post : mj_O → mj_H → Prop} (kn : ¬ sP M x (M.1 5) → post (.inl (some (.int 0))) (hp K (mi M 0 1) o, nc, ns)) (k2 : ∀ p, p < mP M → x = nI p → ps M p = cs → (kk = 8 ∨ ¬ pd M p + sW M kk ≤ 40) → post (.inl (some (.int 0))) (hp K (mi M 0 2) o, nc, ns)) (k1 : ∀ p, p < mP M → x = nI p → ps M p = cs → kk < 8 → pd M p + sW M kk ≤ 40 → ∀ N', coR N' = coR (clM M kk p) → REACH (clM M kk p) cs kk → post (.inl (some (.int 1))) (hp K N' o, nc, ns)) (k0 : ∀ p, p < mP M → x = nI p → ps M p = cs → kk < 8 → pd M p + sW M kk ≤ 40 → ∀ N', coR N' = coR (clM M kk p) → ¬ REACH (clM M kk p) cs kk → post (.inl (some (.int 0))) (hp K N' o, nc, ns)) : mj_G y_M_clause b_M_clause 5 (some .boolean) [] (d + 16) none 0 [(0, .ref 38), (1, .int x)] [] (hp K M o, nc, ns) post := by
  have hk8 := hK.2.1
  have h200 := hP.2.1
  have hcs12 : cs < 12 := Nat.lt_of_lt_of_le hK.2.2.2.1 hS.2.2
  refine G_aload_n 0 d_M_clause_0 rfl ?_
  refine G_iload_n 1 d_M_clause_1 rfl ?_
  refine G_cvB (iP M x) (As := [.int x]) d_M_clause_2 cv_M_104 cw_M_isPattern (ob_M K M o) np_M_isPattern (Nat.le_of_ble_eq_true rfl) (Nat.le_of_ble_eq_true rfl) (fun post2 k1 k0 => c_M_isPattern x k1 k0) (fun u2 => ?_) (fun u2 => ?_)
  · obtain ⟨p, hp1, rfl⟩ := iP_of hP u2
    have ⟨wp, bp⟩ := (hP.2.2 p hp1).2.2.1
    refine G_ifeq 25 d_M_clause_5 (by decide) (fun h => absurd h (by decide)) (fun _ => ?_)
    refine G_aload_n 0 d_M_clause_8 rfl ?_
    refine G_gt d_M_clause_9 fr_M_29 (rd_M_sortOf K M o) ?_
    refine G_iload_n 1 d_M_clause_12 rfl ?_
    refine G_ialN d_M_clause_13 (ar_44 K M o) (by decide) (by omega) ?_
    refine G_aload_n 0 d_M_clause_14 rfl ?_
    refine G_gt d_M_clause_15 fr_M_110 (rd_M_clauseSort K M o) ?_
    rw [show M.1 5 = nI cs from hK.2.2.1]
    refine G_icne 25 d_M_clause_18 (by decide) (fun h18 => ?_) (fun h18 => ?_)
    · refine G_iconst (v := 0) d_M_clause_25 (by decide) ?_
      refine G_istore_n (ls' := [(2, .int 0), (0, .ref 38), (1, .int (nI p))]) d_M_clause_26 (by decide) rfl ?_
      refine G_iload_n 0 d_M_clause_27 rfl ?_
      refine G_ifeq 40 d_M_clause_28 (by decide) (fun _ => ?_) (fun h => absurd h (by decide))
      refine G_iconst (v := nI 0) d_M_clause_40 (by decide) ?_
      refine G_istore_n (ls' := [(3, .int (nI 0)), (2, .int 0), (0, .ref 38), (1, .int (nI p))]) d_M_clause_41 (by decide) rfl ?_
      refine G_iconst (v := nI 0) d_M_clause_42 (by decide) ?_
      refine G_istore (ls' := [(4, .int (nI 0)), (3, .int (nI 0)), (2, .int 0), (0, .ref 38), (1, .int (nI p))]) d_M_clause_43 (by decide) rfl ?_
      have hsw := sW_le hP hK kk (Nat.le_refl _)
      refine G_sub [0, 1, 2, 3, 4] rfl (l_M_clause (w0 := 0) (x2 := 0) hP hK ?_ (kk + 1) 0 (by omega) (by omega))
      refine G_aload_n 2 d_M_clause_75 rfl ?_
      refine G_iload_n 1 d_M_clause_76 rfl ?_
      refine G_ifne 84 d_M_clause_77 (by decide) (fun h => absurd h (by decide)) (fun _ => ?_)
      refine G_iconst (v := 1) d_M_clause_80 (by decide) ?_
      refine G_goto 104 d_M_clause_81 (by decide) ?_
      refine G_pt d_M_clause_104 fp_M_87 (wr_M_thrown K M o 1) ?_
      refine G_aload_n 2 d_M_clause_107 rfl ?_
      refine G_gt d_M_clause_108 fr_M_87 (rd_M_thrown K (mi M 0 1) o) ?_
      rw [show (mi M 0 1).1 0 = 1 from rfl]
      refine G_ifle 116 d_M_clause_111 (by decide) (fun h => absurd h (by decide)) (fun _ => ?_)
      refine G_iconst (v := 0) d_M_clause_114 (by decide) ?_
      exact G_zret d_M_clause_115 rfl rfl (kn (fun z => h18 (by have z := z.2; rw [nI_clamp (by omega), hK.2.2.1] at z; exact z)))
    · refine G_iconst (v := 1) d_M_clause_21 (by decide) ?_
      refine G_goto 26 d_M_clause_22 (by decide) ?_
      refine G_istore_n (ls' := [(2, .int 1), (0, .ref 38), (1, .int (nI p))]) d_M_clause_26 (by decide) rfl ?_
      refine G_iload_n 0 d_M_clause_27 rfl ?_
      refine G_ifeq 40 d_M_clause_28 (by decide) (fun h => absurd h (by decide)) (fun _ => ?_)
      refine G_aload_n 1 d_M_clause_31 rfl ?_
      refine G_gt d_M_clause_32 fr_M_41 (rd_M_width K M o) ?_
      refine G_iload_n 2 d_M_clause_35 rfl ?_
      refine G_ialN d_M_clause_36 (ar_48 K M o) (by decide) (by omega) ?_
      rw [wp]
      refine G_goto 41 d_M_clause_37 (by decide) ?_
      refine G_istore_n (ls' := [(3, .int (nI (pd M p))), (2, .int 1), (0, .ref 38), (1, .int (nI p))]) d_M_clause_41 (by decide) rfl ?_
      refine G_iconst (v := nI 0) d_M_clause_42 (by decide) ?_
      refine G_istore (ls' := [(4, .int (nI 0)), (3, .int (nI (pd M p))), (2, .int 1), (0, .ref 38), (1, .int (nI p))]) d_M_clause_43 (by decide) rfl ?_
      have hps : ps M p = cs := by show (M.2 44 p).toNatClampNeg = cs; rw [h18, nI_clamp (by omega)]
      have hsw := sW_le hP hK kk (Nat.le_refl _)
      refine G_sub [0, 1, 2, 3, 4] rfl (l_M_clause (w0 := pd M p) (x2 := 1) hP hK ?_ (kk + 1) 0 (by omega) (by omega))
      refine G_aload_n 2 d_M_clause_75 rfl ?_
      refine G_iload_n 1 d_M_clause_76 rfl ?_
      refine G_ifne 84 d_M_clause_77 (by decide) (fun _ => ?_) (fun h => absurd h (by decide))
      refine G_aload_n 2 d_M_clause_84 rfl ?_
      refine G_gt d_M_clause_85 fr_M_107 (rd_M_clauses K M o) ?_
      rw [show M.1 4 = nI kk from hK.1]
      refine G_bipush (v := nI 8) d_M_clause_88 (by decide) ?_
      refine G_iceq 99 d_M_clause_90 (by decide) (fun h90 => ?_) (fun h90 => ?_)
      · have h90 := (nI_eq (by omega) (by omega)).mp h90
        refine G_iconst (v := 2) d_M_clause_99 (by decide) ?_
        refine G_goto 104 d_M_clause_100 (by decide) ?_
        refine G_pt d_M_clause_104 fp_M_87 (wr_M_thrown K M o 2) ?_
        refine G_aload_n 2 d_M_clause_107 rfl ?_
        refine G_gt d_M_clause_108 fr_M_87 (rd_M_thrown K (mi M 0 2) o) ?_
        rw [show (mi M 0 2).1 0 = 2 from rfl]
        refine G_ifle 116 d_M_clause_111 (by decide) (fun h => absurd h (by decide)) (fun _ => ?_)
        refine G_iconst (v := 0) d_M_clause_114 (by decide) ?_
        exact G_zret d_M_clause_115 rfl rfl (k2 p hp1 rfl hps (Or.inl h90))
      · have h90 := (nI_ne (by omega) (by omega)).mp h90
        refine G_iload_n 0 d_M_clause_93 rfl ?_
        refine G_bipush (v := nI 40) d_M_clause_94 (by decide) ?_
        refine G_icle 103 d_M_clause_96 (by decide) (fun h96 => ?_) (fun h96 => ?_)
        · have h96 := (nI_leI (by omega) (by omega)).mp h96
          refine G_iconst (v := 0) d_M_clause_103 (by decide) ?_
          refine G_pt d_M_clause_104 fp_M_87 (wr_M_thrown K M o 0) ?_
          refine G_aload_n 2 d_M_clause_107 rfl ?_
          refine G_gt d_M_clause_108 fr_M_87 (rd_M_thrown K (mi M 0 0) o) ?_
          rw [show (mi M 0 0).1 0 = 0 from rfl]
          refine G_ifle 116 d_M_clause_111 (by decide) (fun _ => ?_) (fun h => absurd h (by decide))
          refine G_aload_n 2 d_M_clause_116 rfl ?_
          refine G_gt d_M_clause_117 fr_M_44 (rd_M_clause K (mi M 0 0) o) ?_
          refine G_aload_n 2 d_M_clause_120 rfl ?_
          refine G_gt d_M_clause_121 fr_M_107 (rd_M_clauses K (mi M 0 0) o) ?_
          rw [show (mi M 0 0).1 4 = nI kk from hK.1]
          refine G_iload_n 3 d_M_clause_124 rfl ?_
          refine G_iasN d_M_clause_125 (ar_49 K (mi M 0 0) o) (by decide) (by omega) (aw_49 K (mi M 0 0) o kk (nI p)) ?_
          refine G_aload_n 2 d_M_clause_126 rfl ?_
          refine G_dup d_M_clause_127 rfl ?_
          refine G_gt d_M_clause_128 fr_M_107 (rd_M_clauses K (ma (mi M 0 0) 49 kk (nI p)) o) ?_
          rw [show (ma (mi M 0 0) 49 kk (nI p)).1 4 = nI kk from hK.1]
          refine G_iconst (v := 1) d_M_clause_131 (by decide) ?_
          refine G_iadd d_M_clause_132 ?_
          rw [nI_1]
          refine G_pt d_M_clause_133 fp_M_107 (wr_M_clauses K (ma (mi M 0 0) 49 kk (nI p)) o (nI (kk + 1))) ?_
          refine G_aload_n 2 d_M_clause_136 rfl ?_
          refine G_aload_n 2 d_M_clause_137 rfl ?_
          refine G_gt d_M_clause_138 fr_M_107 (rd_M_clauses K (mi (ma (mi M 0 0) 49 kk (nI p)) 4 (nI (kk + 1))) o) ?_
          rw [show (mi (ma (mi M 0 0) 49 kk (nI p)) 4 (nI (kk + 1))).1 4 = nI (kk + 1) from rfl]
          refine G_iconst (v := 1) d_M_clause_141 (by decide) ?_
          refine G_isub d_M_clause_142 ?_
          rw [nI_pred]
          refine G_cvp (fun a9 A9 => ∃ N' : MC, A9 = (hp K N' o, nc, ns) ∧ (coR N' = coR (clM M kk p)) ∧ ((a9 = some (.int 1) ∧ (REACH (clM M kk p) cs kk)) ∨ (a9 = some (.int 0) ∧ ¬ (REACH (clM M kk p) cs kk)))) (As := [.int (nI kk)]) d_M_clause_143 cv_M_165 cw_M_reaches (ob_M K (mi (ma (mi M 0 0) 49 kk (nI p)) 4 (nI (kk + 1))) o) np_M_reaches (Nat.le_of_ble_eq_true rfl) (Nat.le_of_ble_eq_true rfl) (fun post2 kq => c_M_reaches (M := clM M kk p) (clM_S hS) (clM_C hC) (clM_P hP) (clM_wfK hP hK (by omega) hp1 hps) (by omega) (fun N9 g1 g2 => kq _ _ ⟨N9, rfl, g1, Or.inl ⟨rfl, g2⟩⟩) (fun N9 g1 g2 => kq _ _ ⟨N9, rfl, g1, Or.inr ⟨rfl, g2⟩⟩)) (fun a9 A9 h9 => by obtain ⟨N9, rfl, -⟩ := h9; rfl) (fun a9 A9 h9 => ?_)
          obtain ⟨N', rfl, hc143, ⟨rfl, u143⟩ | ⟨rfl, u143⟩⟩ := h9
          · exact G_zret d_M_clause_146 rfl rfl (k1 p hp1 rfl hps (by omega) h96 N' hc143 u143)
          · exact G_zret d_M_clause_146 rfl rfl (k0 p hp1 rfl hps (by omega) h96 N' hc143 u143)
        · have h96 : ¬ _ := fun z => h96 ((nI_leI (by omega) (by omega)).mpr z)
          refine G_iconst (v := 2) d_M_clause_99 (by decide) ?_
          refine G_goto 104 d_M_clause_100 (by decide) ?_
          refine G_pt d_M_clause_104 fp_M_87 (wr_M_thrown K M o 2) ?_
          refine G_aload_n 2 d_M_clause_107 rfl ?_
          refine G_gt d_M_clause_108 fr_M_87 (rd_M_thrown K (mi M 0 2) o) ?_
          rw [show (mi M 0 2).1 0 = 2 from rfl]
          refine G_ifle 116 d_M_clause_111 (by decide) (fun h => absurd h (by decide)) (fun _ => ?_)
          refine G_iconst (v := 0) d_M_clause_114 (by decide) ?_
          exact G_zret d_M_clause_115 rfl rfl (k2 p hp1 rfl hps (Or.inr h96))
  · refine G_ifeq 25 d_M_clause_5 (by decide) (fun _ => ?_) (fun h => absurd h (by decide))
    refine G_iconst (v := 0) d_M_clause_25 (by decide) ?_
    refine G_istore_n (ls' := [(2, .int 0), (0, .ref 38), (1, .int x)]) d_M_clause_26 (by decide) rfl ?_
    refine G_iload_n 0 d_M_clause_27 rfl ?_
    refine G_ifeq 40 d_M_clause_28 (by decide) (fun _ => ?_) (fun h => absurd h (by decide))
    refine G_iconst (v := nI 0) d_M_clause_40 (by decide) ?_
    refine G_istore_n (ls' := [(3, .int (nI 0)), (2, .int 0), (0, .ref 38), (1, .int x)]) d_M_clause_41 (by decide) rfl ?_
    refine G_iconst (v := nI 0) d_M_clause_42 (by decide) ?_
    refine G_istore (ls' := [(4, .int (nI 0)), (3, .int (nI 0)), (2, .int 0), (0, .ref 38), (1, .int x)]) d_M_clause_43 (by decide) rfl ?_
    have hsw := sW_le hP hK kk (Nat.le_refl _)
    refine G_sub [0, 1, 2, 3, 4] rfl (l_M_clause (w0 := 0) (x2 := 0) hP hK ?_ (kk + 1) 0 (by omega) (by omega))
    refine G_aload_n 2 d_M_clause_75 rfl ?_
    refine G_iload_n 1 d_M_clause_76 rfl ?_
    refine G_ifne 84 d_M_clause_77 (by decide) (fun h => absurd h (by decide)) (fun _ => ?_)
    refine G_iconst (v := 1) d_M_clause_80 (by decide) ?_
    refine G_goto 104 d_M_clause_81 (by decide) ?_
    refine G_pt d_M_clause_104 fp_M_87 (wr_M_thrown K M o 1) ?_
    refine G_aload_n 2 d_M_clause_107 rfl ?_
    refine G_gt d_M_clause_108 fr_M_87 (rd_M_thrown K (mi M 0 1) o) ?_
    rw [show (mi M 0 1).1 0 = 1 from rfl]
    refine G_ifle 116 d_M_clause_111 (by decide) (fun h => absurd h (by decide)) (fun _ => ?_)
    refine G_iconst (v := 0) d_M_clause_114 (by decide) ?_
    exact G_zret d_M_clause_115 rfl rfl (kn (fun z => u2 z.1))
