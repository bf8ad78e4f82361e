/-! the law's cases -/
set_option maxHeartbeats 1000000 in
set_option maxRecDepth 100000 in
theorem w_sort {K : KC} {M : MC} {o : Nat → Int64} {nc ns : Nat} {d L i cs kk : Nat} {xs : Nat → Int32} {post : mj_O → mj_H → Prop} (hI : IM M cs kk) (hK : RK K M cs kk) (hr1 : nc + 1 ≤ 601024) (hr2 : ns + 6 ≤ 7293034) (hi : i + 5 ≤ L) (hL : L ≤ 2560) (k : ∀ (K' : KC) (M' : MC) (o' : Nat → Int64) (nc' ns' cs' kk' : Nat), nc' ≤ nc + 1 → ns' ≤ ns + 6 → IM M' cs' kk' → RK K' M' cs' kk' → mj_G y_L_law b_L_law 7 (some .boolean) [] (d + 100) (some (L, xs)) 845 [(4, .int (nI i)), (0, .ref 1000000), (1, .ref 0), (2, .ref 38), (3, .ref 63)] [] (hp K' M' o', nc', ns') post) : mj_G y_L_law b_L_law 7 (some .boolean) [] (d + 100) (some (L, xs)) 104 [(4, .int (nI i)), (0, .ref 1000000), (1, .ref 0), (2, .ref 38), (3, .ref 63)] [] (hp K M o, nc, ns) post := by
  refine G_aload_n 2 d_L_law_104 rfl ?_
  refine G_aload_n 4 d_L_law_105 rfl ?_
  refine G_csp (fun a9 A9 => (∃ (v : Int32) (KK : KC), a9 = some (.int 0) ∧ A9 = (hp KK M (vp_updL o 0 v.toInt64), nc, ns) ∧ (v = nI (mS M) ∧ mS M ≠ 12 ∧ RK KK (sortM M) cs kk)) ∨ (a9 = some (.int 1) ∧ A9 = (hp K M o, nc + 1, ns + 6) ∧ (mS M = 12))) (As := [.ref 0, .ref 63]) d_L_law_106 cs_L_57 cw_L_sort np_L_sort (Nat.le_of_ble_eq_true rfl) (Nat.le_of_ble_eq_true rfl) (fun post2 kq => c_L_sort (d := d + 98)  (fun v KK => v = nI (mS M) ∧ mS M ≠ 12 ∧ RK KK (sortM M) cs kk) (fun C => (C = 1 ∧ (mS M = 12))) (fun post3 k1 k2 => c_C_sort (d := d + 92) hI hK hr1 hr2 (fun q => k2 1 (⟨rfl, q⟩)) (fun q KK h => k1 _ KK ⟨rfl, q, h⟩)) (fun C h => h.1) (fun v KK h => kq _ _ (Or.inl ⟨v, KK, rfl, rfl, h⟩)) (fun h => kq _ _ (Or.inr (⟨rfl, rfl, h.2⟩)))) (fun a9 A9 h9 => by rcases h9 with ⟨v, KK, -, rfl, -⟩ | ⟨-, rfl, -⟩ <;> rfl) (fun a9 A9 h9 => ?_)
  rcases h9 with ⟨v, KK, rfl, rfl, h9⟩ | ⟨rfl, rfl, h9⟩
  · obtain ⟨rfl, hq, hRK⟩ := h9
    refine G_istore (ls' := [(5, .int 0), (4, .int (nI i)), (0, .ref 1000000), (1, .ref 0), (2, .ref 38), (3, .ref 63)]) d_L_law_109 (by decide) rfl ?_
    refine G_aload_n 4 d_L_law_111 rfl ?_
    refine G_cv1 (some (.int (nI (mS M)))) (hp KK (sortM M) (vp_updL o 0 (nI (mS M)).toInt64), nc, ns) (As := []) d_L_law_112 cv_L_62 cw_M_sort (ob_M KK M (vp_updL o 0 (nI (mS M)).toInt64)) np_M_sort (Nat.le_of_ble_eq_true rfl) (Nat.le_of_ble_eq_true rfl) (fun post2 kq => c_M_sort hI.1 (fun q => absurd q hq) (fun _ => kq)) rfl ?_
    refine G_istore (ls' := [(6, .int (nI (mS M))), (5, .int 0), (4, .int (nI i)), (0, .ref 1000000), (1, .ref 0), (2, .ref 38), (3, .ref 63)]) d_L_law_115 (by decide) rfl ?_
    refine G_aload_n 5 d_L_law_117 rfl ?_
    refine G_cv1 (some (.int 0)) (hp KK (sortM M) (vp_updL o 0 (nI (mS M)).toInt64), nc, ns) (As := []) d_L_law_118 cv_L_63 cw_M_thrown (ob_M KK (sortM M) (vp_updL o 0 (nI (mS M)).toInt64)) np_M_thrown (Nat.le_of_ble_eq_true rfl) (Nat.le_of_ble_eq_true rfl) (fun post2 kq => c_M_thrown kq) rfl ?_
    refine G_iload 1 d_L_law_121 rfl ?_
    refine G_iceq 128 d_L_law_123 (by decide) (fun _ => ?_) (fun h => absurd h (by decide))
    refine G_iload 1 d_L_law_128 rfl ?_
    refine G_ifne 145 d_L_law_130 (by decide) (fun h => absurd h (by decide)) (fun _ => ?_)
    refine G_aload_n 6 d_L_law_133 rfl ?_
    refine G_iconst (v := nI 0) d_L_law_134 (by decide) ?_
    refine G_lalN d_L_law_135 (ar_63 KK (sortM M) (vp_updL o 0 (nI (mS M)).toInt64)) (by decide) (by omega) ?_
    rw [pk_uLs]
    refine G_iload 0 d_L_law_136 rfl ?_
    refine G_i2l d_L_law_138 ?_
    refine G_lcmp d_L_law_139 ?_
    refine G_ifeq 145 d_L_law_140 (by decide) (fun h140 => ?_) (fun h140 => False.elim (h140 (lcmp_self _)))
    refine G_goto 845 d_L_law_145 (by decide) ?_
    exact G_sub [2, 3, 4, 5, 6] rfl (k _ _ _ _ _ _ _ (by omega) (by omega) (sort_IM hI hq) hRK)
  · refine G_istore (ls' := [(5, .int 1), (4, .int (nI i)), (0, .ref 1000000), (1, .ref 0), (2, .ref 38), (3, .ref 63)]) d_L_law_109 (by decide) rfl ?_
    refine G_aload_n 4 d_L_law_111 rfl ?_
    refine G_cv1 (some (.int (0))) (hp K (mi M 0 1) o, nc + 1, ns + 6) (As := []) d_L_law_112 cv_L_62 cw_M_sort (ob_M K M o) np_M_sort (Nat.le_of_ble_eq_true rfl) (Nat.le_of_ble_eq_true rfl) (fun post2 kq => c_M_sort hI.1 (fun _ => kq) (fun q => absurd h9 q)) rfl ?_
    refine G_istore (ls' := [(6, .int 0), (5, .int 1), (4, .int (nI i)), (0, .ref 1000000), (1, .ref 0), (2, .ref 38), (3, .ref 63)]) d_L_law_115 (by decide) rfl ?_
    refine G_aload_n 5 d_L_law_117 rfl ?_
    refine G_cv1 (some (.int 1)) (hp K (mi M 0 1) o, nc + 1, ns + 6) (As := []) d_L_law_118 cv_L_63 cw_M_thrown (ob_M K (mi M 0 1) o) np_M_thrown (Nat.le_of_ble_eq_true rfl) (Nat.le_of_ble_eq_true rfl) (fun post2 kq => c_M_thrown kq) rfl ?_
    refine G_iload 1 d_L_law_121 rfl ?_
    refine G_iceq 128 d_L_law_123 (by decide) (fun _ => ?_) (fun h => absurd h (by decide))
    refine G_iload 1 d_L_law_128 rfl ?_
    refine G_ifne 145 d_L_law_130 (by decide) (fun _ => ?_) (fun h => absurd h (by decide))
    refine G_goto 845 d_L_law_145 (by decide) ?_
    exact G_sub [2, 3, 4, 5, 6] rfl (k _ _ _ _ _ _ _ (by omega) (by omega) (cz_IM (cz_m0 M 1) hI) (cz_RK (cz_m0 M 1) hI hK))
set_option maxHeartbeats 1000000 in
set_option maxRecDepth 100000 in
theorem w_con {K : KC} {M : MC} {o : Nat → Int64} {nc ns : Nat} {d L i cs kk : Nat} {xs : Nat → Int32} {post : mj_O → mj_H → Prop} (hI : IM M cs kk) (hK : RK K M cs kk) (hr1 : nc + 1 ≤ 601024) (hr2 : ns + 6 ≤ 7293034) (hi : i + 5 ≤ L) (hL : L ≤ 2560) (k : ∀ (K' : KC) (M' : MC) (o' : Nat → Int64) (nc' ns' cs' kk' : Nat), nc' ≤ nc + 1 → ns' ≤ ns + 6 → IM M' cs' kk' → RK K' M' cs' kk' → mj_G y_L_law b_L_law 7 (some .boolean) [] (d + 100) (some (L, xs)) 845 [(4, .int (nI i)), (0, .ref 1000000), (1, .ref 0), (2, .ref 38), (3, .ref 63)] [] (hp K' M' o', nc', ns') post) : mj_G y_L_law b_L_law 7 (some .boolean) [] (d + 100) (some (L, xs)) 148 [(4, .int (nI i)), (0, .ref 1000000), (1, .ref 0), (2, .ref 38), (3, .ref 63)] [] (hp K M o, nc, ns) post := by
  obtain ⟨x1, e1⟩ : ∃ z, xs (i + 1) = z := ⟨_, rfl⟩
  obtain ⟨x2, e2⟩ : ∃ z, xs (i + 2) = z := ⟨_, rfl⟩
  obtain ⟨x3, e3⟩ : ∃ z, xs (i + 3) = z := ⟨_, rfl⟩
  obtain ⟨x4, e4⟩ : ∃ z, xs (i + 4) = z := ⟨_, rfl⟩
  refine G_aload_n 2 d_L_law_148 rfl ?_
  refine G_aload_n 1 d_L_law_149 rfl ?_
  refine G_iload 0 d_L_law_150 rfl ?_
  refine G_iconst (v := nI 1) d_L_law_152 (by decide) ?_
  refine G_iadd d_L_law_153 ?_
  rw [nI_add]
  refine G_sldN d_L_law_154 (by omega) (by omega) ?_
  rw [e1]
  refine G_aload_n 1 d_L_law_155 rfl ?_
  refine G_iload 0 d_L_law_156 rfl ?_
  refine G_iconst (v := nI 2) d_L_law_158 (by decide) ?_
  refine G_iadd d_L_law_159 ?_
  rw [nI_add]
  refine G_sldN d_L_law_160 (by omega) (by omega) ?_
  rw [e2]
  refine G_aload_n 1 d_L_law_161 rfl ?_
  refine G_iload 0 d_L_law_162 rfl ?_
  refine G_iconst (v := nI 3) d_L_law_164 (by decide) ?_
  refine G_iadd d_L_law_165 ?_
  rw [nI_add]
  refine G_sldN d_L_law_166 (by omega) (by omega) ?_
  rw [e3]
  refine G_aload_n 1 d_L_law_167 rfl ?_
  refine G_iload 0 d_L_law_168 rfl ?_
  refine G_iconst (v := nI 4) d_L_law_170 (by decide) ?_
  refine G_iadd d_L_law_171 ?_
  rw [nI_add]
  refine G_sldN d_L_law_172 (by omega) (by omega) ?_
  rw [e4]
  refine G_aload_n 4 d_L_law_173 rfl ?_
  refine G_csp (fun a9 A9 => (∃ (v : Int32) (KK : KC), a9 = some (.int 0) ∧ A9 = (hp KK M (vp_updL o 0 v.toInt64), nc, ns) ∧ (v = nI (mC M) ∧ rC M x1 x2 x3 x4 ∧ mC M ≠ 30 ∧ RK KK (conM (mi M 0 0) (mC M) x1 x2 x3 x4) cs kk)) ∨ (a9 = some (.int 1) ∧ A9 = (hp K M o, nc + 1, ns + 6) ∧ (¬ rC M x1 x2 x3 x4)) ∨ (a9 = some (.int 2) ∧ A9 = (hp K M o, nc + 1, ns + 6) ∧ (rC M x1 x2 x3 x4 ∧ mC M = 30))) (As := [.ref 0, .int x1, .int x2, .int x3, .int x4, .ref 63]) d_L_law_174 cs_L_66 cw_L_con np_L_con (Nat.le_of_ble_eq_true rfl) (Nat.le_of_ble_eq_true rfl) (fun post2 kq => c_L_con (d := d + 98) x1 x2 x3 x4 (fun v KK => v = nI (mC M) ∧ rC M x1 x2 x3 x4 ∧ mC M ≠ 30 ∧ RK KK (conM (mi M 0 0) (mC M) x1 x2 x3 x4) cs kk) (fun C => (C = 0 ∧ (¬ rC M x1 x2 x3 x4)) ∨ (C = 1 ∧ (rC M x1 x2 x3 x4 ∧ mC M = 30))) (fun post3 k1 k2 => c_C_con (d := d + 91) x1 x2 x3 x4 hI hK hr1 hr2 (fun q => k2 0 (Or.inl ⟨rfl, q⟩)) (fun q q2 => k2 1 (Or.inr ⟨rfl, q, q2⟩)) (fun s hs hx hr hn KK h => k1 _ KK ⟨rfl, hr, hn, by subst hx; exact h⟩)) (fun C h => h.imp (fun z => z.1) (fun z => z.1)) (fun v KK h => kq _ _ (Or.inl ⟨v, KK, rfl, rfl, h⟩)) (fun h => kq _ _ (Or.inr (Or.inl ⟨rfl, rfl, (h.elim (fun z => z.2) (fun z => absurd z.1 (by decide)))⟩))) (fun h => kq _ _ (Or.inr (Or.inr (⟨rfl, rfl, (h.elim (fun z => absurd z.1 (by decide)) (fun z => z.2))⟩))))) (fun a9 A9 h9 => by rcases h9 with ⟨v, KK, -, rfl, -⟩ | ⟨-, rfl, -⟩ | ⟨-, rfl, -⟩ <;> rfl) (fun a9 A9 h9 => ?_)
  rcases h9 with ⟨v, KK, rfl, rfl, h9⟩ | ⟨rfl, rfl, h9⟩ | ⟨rfl, rfl, h9⟩
  · obtain ⟨rfl, hq, hq2, hRK⟩ := h9
    refine G_istore (ls' := [(5, .int 0), (4, .int (nI i)), (0, .ref 1000000), (1, .ref 0), (2, .ref 38), (3, .ref 63)]) d_L_law_177 (by decide) rfl ?_
    refine G_aload_n 4 d_L_law_179 rfl ?_
    refine G_aload_n 2 d_L_law_180 rfl ?_
    refine G_iload 1 d_L_law_181 rfl ?_
    refine G_iconst (v := nI 1) d_L_law_183 (by decide) ?_
    refine G_iadd d_L_law_184 ?_
    rw [nI_add]
    refine G_sldN d_L_law_185 (by omega) (by omega) ?_
    rw [e1]
    refine G_aload_n 2 d_L_law_186 rfl ?_
    refine G_iload 1 d_L_law_187 rfl ?_
    refine G_iconst (v := nI 2) d_L_law_189 (by decide) ?_
    refine G_iadd d_L_law_190 ?_
    rw [nI_add]
    refine G_sldN d_L_law_191 (by omega) (by omega) ?_
    rw [e2]
    refine G_aload_n 2 d_L_law_192 rfl ?_
    refine G_iload 1 d_L_law_193 rfl ?_
    refine G_iconst (v := nI 3) d_L_law_195 (by decide) ?_
    refine G_iadd d_L_law_196 ?_
    rw [nI_add]
    refine G_sldN d_L_law_197 (by omega) (by omega) ?_
    rw [e3]
    refine G_aload_n 2 d_L_law_198 rfl ?_
    refine G_iload 1 d_L_law_199 rfl ?_
    refine G_iconst (v := nI 4) d_L_law_201 (by decide) ?_
    refine G_iadd d_L_law_202 ?_
    rw [nI_add]
    refine G_sldN d_L_law_203 (by omega) (by omega) ?_
    rw [e4]
    refine G_cv1 (some (.int (nI (mC M)))) (hp KK (conM (mi M 0 0) (mC M) x1 x2 x3 x4) (vp_updL o 0 (nI (mC M)).toInt64), nc, ns) (As := [.int x1, .int x2, .int x3, .int x4]) d_L_law_204 cv_L_69 cw_M_con (ob_M KK M (vp_updL o 0 (nI (mC M)).toInt64)) np_M_con (Nat.le_of_ble_eq_true rfl) (Nat.le_of_ble_eq_true rfl) (fun post2 kq => c_M_con x1 x2 x3 x4 hI.2.1 (fun q => absurd hq q) (fun _ q => absurd q hq2) (fun _ _ => kq)) rfl ?_
    refine G_istore (ls' := [(6, .int (nI (mC M))), (5, .int 0), (4, .int (nI i)), (0, .ref 1000000), (1, .ref 0), (2, .ref 38), (3, .ref 63)]) d_L_law_207 (by decide) rfl ?_
    refine G_aload_n 5 d_L_law_209 rfl ?_
    refine G_cv1 (some (.int 0)) (hp KK (conM (mi M 0 0) (mC M) x1 x2 x3 x4) (vp_updL o 0 (nI (mC M)).toInt64), nc, ns) (As := []) d_L_law_210 cv_L_63 cw_M_thrown (ob_M KK (conM (mi M 0 0) (mC M) x1 x2 x3 x4) (vp_updL o 0 (nI (mC M)).toInt64)) np_M_thrown (Nat.le_of_ble_eq_true rfl) (Nat.le_of_ble_eq_true rfl) (fun post2 kq => c_M_thrown kq) rfl ?_
    refine G_iload 1 d_L_law_213 rfl ?_
    refine G_iceq 220 d_L_law_215 (by decide) (fun _ => ?_) (fun h => absurd h (by decide))
    refine G_iload 1 d_L_law_220 rfl ?_
    refine G_ifne 237 d_L_law_222 (by decide) (fun h => absurd h (by decide)) (fun _ => ?_)
    refine G_aload_n 6 d_L_law_225 rfl ?_
    refine G_iconst (v := nI 0) d_L_law_226 (by decide) ?_
    refine G_lalN d_L_law_227 (ar_63 KK (conM (mi M 0 0) (mC M) x1 x2 x3 x4) (vp_updL o 0 (nI (mC M)).toInt64)) (by decide) (by omega) ?_
    rw [pk_uLs]
    refine G_iload 0 d_L_law_228 rfl ?_
    refine G_i2l d_L_law_230 ?_
    refine G_lcmp d_L_law_231 ?_
    refine G_ifeq 237 d_L_law_232 (by decide) (fun h232 => ?_) (fun h232 => False.elim (h232 (lcmp_self _)))
    refine G_goto 845 d_L_law_237 (by decide) ?_
    exact G_sub [2, 3, 4, 5, 6] rfl (k _ _ _ _ _ _ _ (by omega) (by omega) (con_IM2 hI hq hq2) hRK)
  · refine G_istore (ls' := [(5, .int 1), (4, .int (nI i)), (0, .ref 1000000), (1, .ref 0), (2, .ref 38), (3, .ref 63)]) d_L_law_177 (by decide) rfl ?_
    refine G_aload_n 4 d_L_law_179 rfl ?_
    refine G_aload_n 2 d_L_law_180 rfl ?_
    refine G_iload 1 d_L_law_181 rfl ?_
    refine G_iconst (v := nI 1) d_L_law_183 (by decide) ?_
    refine G_iadd d_L_law_184 ?_
    rw [nI_add]
    refine G_sldN d_L_law_185 (by omega) (by omega) ?_
    rw [e1]
    refine G_aload_n 2 d_L_law_186 rfl ?_
    refine G_iload 1 d_L_law_187 rfl ?_
    refine G_iconst (v := nI 2) d_L_law_189 (by decide) ?_
    refine G_iadd d_L_law_190 ?_
    rw [nI_add]
    refine G_sldN d_L_law_191 (by omega) (by omega) ?_
    rw [e2]
    refine G_aload_n 2 d_L_law_192 rfl ?_
    refine G_iload 1 d_L_law_193 rfl ?_
    refine G_iconst (v := nI 3) d_L_law_195 (by decide) ?_
    refine G_iadd d_L_law_196 ?_
    rw [nI_add]
    refine G_sldN d_L_law_197 (by omega) (by omega) ?_
    rw [e3]
    refine G_aload_n 2 d_L_law_198 rfl ?_
    refine G_iload 1 d_L_law_199 rfl ?_
    refine G_iconst (v := nI 4) d_L_law_201 (by decide) ?_
    refine G_iadd d_L_law_202 ?_
    rw [nI_add]
    refine G_sldN d_L_law_203 (by omega) (by omega) ?_
    rw [e4]
    refine G_cv1 (some (.int (0))) (hp K (mi M 0 1) o, nc + 1, ns + 6) (As := [.int x1, .int x2, .int x3, .int x4]) d_L_law_204 cv_L_69 cw_M_con (ob_M K M o) np_M_con (Nat.le_of_ble_eq_true rfl) (Nat.le_of_ble_eq_true rfl) (fun post2 kq => c_M_con x1 x2 x3 x4 hI.2.1 (fun _ => kq) (fun q _ => absurd q h9) (fun q _ => absurd q h9)) rfl ?_
    refine G_istore (ls' := [(6, .int 0), (5, .int 1), (4, .int (nI i)), (0, .ref 1000000), (1, .ref 0), (2, .ref 38), (3, .ref 63)]) d_L_law_207 (by decide) rfl ?_
    refine G_aload_n 5 d_L_law_209 rfl ?_
    refine G_cv1 (some (.int 1)) (hp K (mi M 0 1) o, nc + 1, ns + 6) (As := []) d_L_law_210 cv_L_63 cw_M_thrown (ob_M K (mi M 0 1) o) np_M_thrown (Nat.le_of_ble_eq_true rfl) (Nat.le_of_ble_eq_true rfl) (fun post2 kq => c_M_thrown kq) rfl ?_
    refine G_iload 1 d_L_law_213 rfl ?_
    refine G_iceq 220 d_L_law_215 (by decide) (fun _ => ?_) (fun h => absurd h (by decide))
    refine G_iload 1 d_L_law_220 rfl ?_
    refine G_ifne 237 d_L_law_222 (by decide) (fun _ => ?_) (fun h => absurd h (by decide))
    refine G_goto 845 d_L_law_237 (by decide) ?_
    exact G_sub [2, 3, 4, 5, 6] rfl (k _ _ _ _ _ _ _ (by omega) (by omega) (cz_IM (cz_m0 M 1) hI) (cz_RK (cz_m0 M 1) hI hK))
  · refine G_istore (ls' := [(5, .int 2), (4, .int (nI i)), (0, .ref 1000000), (1, .ref 0), (2, .ref 38), (3, .ref 63)]) d_L_law_177 (by decide) rfl ?_
    refine G_aload_n 4 d_L_law_179 rfl ?_
    refine G_aload_n 2 d_L_law_180 rfl ?_
    refine G_iload 1 d_L_law_181 rfl ?_
    refine G_iconst (v := nI 1) d_L_law_183 (by decide) ?_
    refine G_iadd d_L_law_184 ?_
    rw [nI_add]
    refine G_sldN d_L_law_185 (by omega) (by omega) ?_
    rw [e1]
    refine G_aload_n 2 d_L_law_186 rfl ?_
    refine G_iload 1 d_L_law_187 rfl ?_
    refine G_iconst (v := nI 2) d_L_law_189 (by decide) ?_
    refine G_iadd d_L_law_190 ?_
    rw [nI_add]
    refine G_sldN d_L_law_191 (by omega) (by omega) ?_
    rw [e2]
    refine G_aload_n 2 d_L_law_192 rfl ?_
    refine G_iload 1 d_L_law_193 rfl ?_
    refine G_iconst (v := nI 3) d_L_law_195 (by decide) ?_
    refine G_iadd d_L_law_196 ?_
    rw [nI_add]
    refine G_sldN d_L_law_197 (by omega) (by omega) ?_
    rw [e3]
    refine G_aload_n 2 d_L_law_198 rfl ?_
    refine G_iload 1 d_L_law_199 rfl ?_
    refine G_iconst (v := nI 4) d_L_law_201 (by decide) ?_
    refine G_iadd d_L_law_202 ?_
    rw [nI_add]
    refine G_sldN d_L_law_203 (by omega) (by omega) ?_
    rw [e4]
    refine G_cv1 (some (.int (0))) (hp K (mi M 0 2) o, nc + 1, ns + 6) (As := [.int x1, .int x2, .int x3, .int x4]) d_L_law_204 cv_L_69 cw_M_con (ob_M K M o) np_M_con (Nat.le_of_ble_eq_true rfl) (Nat.le_of_ble_eq_true rfl) (fun post2 kq => c_M_con x1 x2 x3 x4 hI.2.1 (fun q => absurd h9.1 q) (fun _ _ => kq) (fun _ q => absurd h9.2 q)) rfl ?_
    refine G_istore (ls' := [(6, .int 0), (5, .int 2), (4, .int (nI i)), (0, .ref 1000000), (1, .ref 0), (2, .ref 38), (3, .ref 63)]) d_L_law_207 (by decide) rfl ?_
    refine G_aload_n 5 d_L_law_209 rfl ?_
    refine G_cv1 (some (.int 2)) (hp K (mi M 0 2) o, nc + 1, ns + 6) (As := []) d_L_law_210 cv_L_63 cw_M_thrown (ob_M K (mi M 0 2) o) np_M_thrown (Nat.le_of_ble_eq_true rfl) (Nat.le_of_ble_eq_true rfl) (fun post2 kq => c_M_thrown kq) rfl ?_
    refine G_iload 1 d_L_law_213 rfl ?_
    refine G_iceq 220 d_L_law_215 (by decide) (fun _ => ?_) (fun h => absurd h (by decide))
    refine G_iload 1 d_L_law_220 rfl ?_
    refine G_ifne 237 d_L_law_222 (by decide) (fun _ => ?_) (fun h => absurd h (by decide))
    refine G_goto 845 d_L_law_237 (by decide) ?_
    exact G_sub [2, 3, 4, 5, 6] rfl (k _ _ _ _ _ _ _ (by omega) (by omega) (cz_IM (cz_m0 M 2) hI) (cz_RK (cz_m0 M 2) hI hK))
set_option maxHeartbeats 1000000 in
set_option maxRecDepth 100000 in
theorem w_any {K : KC} {M : MC} {o : Nat → Int64} {nc ns : Nat} {d L i cs kk : Nat} {xs : Nat → Int32} {post : mj_O → mj_H → Prop} (hI : IM M cs kk) (hK : RK K M cs kk) (hr1 : nc + 1 ≤ 601024) (hr2 : ns + 6 ≤ 7293034) (hi : i + 5 ≤ L) (hL : L ≤ 2560) (k : ∀ (K' : KC) (M' : MC) (o' : Nat → Int64) (nc' ns' cs' kk' : Nat), nc' ≤ nc + 1 → ns' ≤ ns + 6 → IM M' cs' kk' → RK K' M' cs' kk' → mj_G y_L_law b_L_law 7 (some .boolean) [] (d + 100) (some (L, xs)) 845 [(4, .int (nI i)), (0, .ref 1000000), (1, .ref 0), (2, .ref 38), (3, .ref 63)] [] (hp K' M' o', nc', ns') post) : mj_G y_L_law b_L_law 7 (some .boolean) [] (d + 100) (some (L, xs)) 240 [(4, .int (nI i)), (0, .ref 1000000), (1, .ref 0), (2, .ref 38), (3, .ref 63)] [] (hp K M o, nc, ns) post := by
  obtain ⟨x1, e1⟩ : ∃ z, xs (i + 1) = z := ⟨_, rfl⟩
  refine G_aload_n 2 d_L_law_240 rfl ?_
  refine G_aload_n 1 d_L_law_241 rfl ?_
  refine G_iload 0 d_L_law_242 rfl ?_
  refine G_iconst (v := nI 1) d_L_law_244 (by decide) ?_
  refine G_iadd d_L_law_245 ?_
  rw [nI_add]
  refine G_sldN d_L_law_246 (by omega) (by omega) ?_
  rw [e1]
  refine G_aload_n 4 d_L_law_247 rfl ?_
  refine G_csp (fun a9 A9 => (∃ (v : Int32) (KK : KC), a9 = some (.int 0) ∧ A9 = (hp KK M (vp_updL o 0 v.toInt64), nc, ns) ∧ (v = nI (mP M) ∧ iS M x1 ∧ mP M ≠ 200 ∧ RK KK (patM (mi M 0 0) (mP M) 0 x1 0 0 0 0) cs kk)) ∨ (a9 = some (.int 1) ∧ A9 = (hp K M o, nc + 1, ns + 6) ∧ (¬ iS M x1)) ∨ (a9 = some (.int 2) ∧ A9 = (hp K M o, nc + 1, ns + 6) ∧ (iS M x1 ∧ mP M = 200))) (As := [.ref 0, .int x1, .ref 63]) d_L_law_248 cs_L_70 cw_L_any np_L_any (Nat.le_of_ble_eq_true rfl) (Nat.le_of_ble_eq_true rfl) (fun post2 kq => c_L_any (d := d + 98) x1 (fun v KK => v = nI (mP M) ∧ iS M x1 ∧ mP M ≠ 200 ∧ RK KK (patM (mi M 0 0) (mP M) 0 x1 0 0 0 0) cs kk) (fun C => (C = 0 ∧ (¬ iS M x1)) ∨ (C = 1 ∧ (iS M x1 ∧ mP M = 200))) (fun post3 k1 k2 => c_C_any (d := d + 91) x1 hI hK hr1 hr2 (fun q => k2 0 (Or.inl ⟨rfl, q⟩)) (fun q q2 => k2 1 (Or.inr ⟨rfl, q, q2⟩)) (fun hr hn KK h => k1 _ KK ⟨rfl, hr, hn, h⟩)) (fun C h => h.imp (fun z => z.1) (fun z => z.1)) (fun v KK h => kq _ _ (Or.inl ⟨v, KK, rfl, rfl, h⟩)) (fun h => kq _ _ (Or.inr (Or.inl ⟨rfl, rfl, (h.elim (fun z => z.2) (fun z => absurd z.1 (by decide)))⟩))) (fun h => kq _ _ (Or.inr (Or.inr (⟨rfl, rfl, (h.elim (fun z => absurd z.1 (by decide)) (fun z => z.2))⟩))))) (fun a9 A9 h9 => by rcases h9 with ⟨v, KK, -, rfl, -⟩ | ⟨-, rfl, -⟩ | ⟨-, rfl, -⟩ <;> rfl) (fun a9 A9 h9 => ?_)
  rcases h9 with ⟨v, KK, rfl, rfl, h9⟩ | ⟨rfl, rfl, h9⟩ | ⟨rfl, rfl, h9⟩
  · obtain ⟨rfl, hq, hq2, hRK⟩ := h9
    refine G_istore (ls' := [(5, .int 0), (4, .int (nI i)), (0, .ref 1000000), (1, .ref 0), (2, .ref 38), (3, .ref 63)]) d_L_law_251 (by decide) rfl ?_
    refine G_aload_n 4 d_L_law_253 rfl ?_
    refine G_aload_n 2 d_L_law_254 rfl ?_
    refine G_iload 1 d_L_law_255 rfl ?_
    refine G_iconst (v := nI 1) d_L_law_257 (by decide) ?_
    refine G_iadd d_L_law_258 ?_
    rw [nI_add]
    refine G_sldN d_L_law_259 (by omega) (by omega) ?_
    rw [e1]
    refine G_cv1 (some (.int (nI (mP M)))) (hp KK (patM (mi M 0 0) (mP M) 0 x1 0 0 0 0) (vp_updL o 0 (nI (mP M)).toInt64), nc, ns) (As := [.int x1]) d_L_law_260 cv_L_73 cw_M_any (ob_M KK M (vp_updL o 0 (nI (mP M)).toInt64)) np_M_any (Nat.le_of_ble_eq_true rfl) (Nat.le_of_ble_eq_true rfl) (fun post2 kq => c_M_any x1 hI.2.2.1 (fun q => absurd hq q) (fun _ q => absurd q hq2) (fun _ _ => kq)) rfl ?_
    refine G_istore (ls' := [(6, .int (nI (mP M))), (5, .int 0), (4, .int (nI i)), (0, .ref 1000000), (1, .ref 0), (2, .ref 38), (3, .ref 63)]) d_L_law_263 (by decide) rfl ?_
    refine G_aload_n 5 d_L_law_265 rfl ?_
    refine G_cv1 (some (.int 0)) (hp KK (patM (mi M 0 0) (mP M) 0 x1 0 0 0 0) (vp_updL o 0 (nI (mP M)).toInt64), nc, ns) (As := []) d_L_law_266 cv_L_63 cw_M_thrown (ob_M KK (patM (mi M 0 0) (mP M) 0 x1 0 0 0 0) (vp_updL o 0 (nI (mP M)).toInt64)) np_M_thrown (Nat.le_of_ble_eq_true rfl) (Nat.le_of_ble_eq_true rfl) (fun post2 kq => c_M_thrown kq) rfl ?_
    refine G_iload 1 d_L_law_269 rfl ?_
    refine G_iceq 276 d_L_law_271 (by decide) (fun _ => ?_) (fun h => absurd h (by decide))
    refine G_iload 1 d_L_law_276 rfl ?_
    refine G_ifne 293 d_L_law_278 (by decide) (fun h => absurd h (by decide)) (fun _ => ?_)
    refine G_aload_n 6 d_L_law_281 rfl ?_
    refine G_iconst (v := nI 0) d_L_law_282 (by decide) ?_
    refine G_lalN d_L_law_283 (ar_63 KK (patM (mi M 0 0) (mP M) 0 x1 0 0 0 0) (vp_updL o 0 (nI (mP M)).toInt64)) (by decide) (by omega) ?_
    rw [pk_uLs]
    refine G_iload 0 d_L_law_284 rfl ?_
    refine G_i2l d_L_law_286 ?_
    refine G_lcmp d_L_law_287 ?_
    refine G_ifeq 293 d_L_law_288 (by decide) (fun h288 => ?_) (fun h288 => False.elim (h288 (lcmp_self _)))
    refine G_goto 845 d_L_law_293 (by decide) ?_
    exact G_sub [2, 3, 4, 5, 6] rfl (k _ _ _ _ _ _ _ (by omega) (by omega) (any_IM hI hq hq2) hRK)
  · refine G_istore (ls' := [(5, .int 1), (4, .int (nI i)), (0, .ref 1000000), (1, .ref 0), (2, .ref 38), (3, .ref 63)]) d_L_law_251 (by decide) rfl ?_
    refine G_aload_n 4 d_L_law_253 rfl ?_
    refine G_aload_n 2 d_L_law_254 rfl ?_
    refine G_iload 1 d_L_law_255 rfl ?_
    refine G_iconst (v := nI 1) d_L_law_257 (by decide) ?_
    refine G_iadd d_L_law_258 ?_
    rw [nI_add]
    refine G_sldN d_L_law_259 (by omega) (by omega) ?_
    rw [e1]
    refine G_cv1 (some (.int (0))) (hp K (mi M 0 1) o, nc + 1, ns + 6) (As := [.int x1]) d_L_law_260 cv_L_73 cw_M_any (ob_M K M o) np_M_any (Nat.le_of_ble_eq_true rfl) (Nat.le_of_ble_eq_true rfl) (fun post2 kq => c_M_any x1 hI.2.2.1 (fun _ => kq) (fun q _ => absurd q h9) (fun q _ => absurd q h9)) rfl ?_
    refine G_istore (ls' := [(6, .int 0), (5, .int 1), (4, .int (nI i)), (0, .ref 1000000), (1, .ref 0), (2, .ref 38), (3, .ref 63)]) d_L_law_263 (by decide) rfl ?_
    refine G_aload_n 5 d_L_law_265 rfl ?_
    refine G_cv1 (some (.int 1)) (hp K (mi M 0 1) o, nc + 1, ns + 6) (As := []) d_L_law_266 cv_L_63 cw_M_thrown (ob_M K (mi M 0 1) o) np_M_thrown (Nat.le_of_ble_eq_true rfl) (Nat.le_of_ble_eq_true rfl) (fun post2 kq => c_M_thrown kq) rfl ?_
    refine G_iload 1 d_L_law_269 rfl ?_
    refine G_iceq 276 d_L_law_271 (by decide) (fun _ => ?_) (fun h => absurd h (by decide))
    refine G_iload 1 d_L_law_276 rfl ?_
    refine G_ifne 293 d_L_law_278 (by decide) (fun _ => ?_) (fun h => absurd h (by decide))
    refine G_goto 845 d_L_law_293 (by decide) ?_
    exact G_sub [2, 3, 4, 5, 6] rfl (k _ _ _ _ _ _ _ (by omega) (by omega) (cz_IM (cz_m0 M 1) hI) (cz_RK (cz_m0 M 1) hI hK))
  · refine G_istore (ls' := [(5, .int 2), (4, .int (nI i)), (0, .ref 1000000), (1, .ref 0), (2, .ref 38), (3, .ref 63)]) d_L_law_251 (by decide) rfl ?_
    refine G_aload_n 4 d_L_law_253 rfl ?_
    refine G_aload_n 2 d_L_law_254 rfl ?_
    refine G_iload 1 d_L_law_255 rfl ?_
    refine G_iconst (v := nI 1) d_L_law_257 (by decide) ?_
    refine G_iadd d_L_law_258 ?_
    rw [nI_add]
    refine G_sldN d_L_law_259 (by omega) (by omega) ?_
    rw [e1]
    refine G_cv1 (some (.int (0))) (hp K (mi M 0 2) o, nc + 1, ns + 6) (As := [.int x1]) d_L_law_260 cv_L_73 cw_M_any (ob_M K M o) np_M_any (Nat.le_of_ble_eq_true rfl) (Nat.le_of_ble_eq_true rfl) (fun post2 kq => c_M_any x1 hI.2.2.1 (fun q => absurd h9.1 q) (fun _ _ => kq) (fun _ q => absurd h9.2 q)) rfl ?_
    refine G_istore (ls' := [(6, .int 0), (5, .int 2), (4, .int (nI i)), (0, .ref 1000000), (1, .ref 0), (2, .ref 38), (3, .ref 63)]) d_L_law_263 (by decide) rfl ?_
    refine G_aload_n 5 d_L_law_265 rfl ?_
    refine G_cv1 (some (.int 2)) (hp K (mi M 0 2) o, nc + 1, ns + 6) (As := []) d_L_law_266 cv_L_63 cw_M_thrown (ob_M K (mi M 0 2) o) np_M_thrown (Nat.le_of_ble_eq_true rfl) (Nat.le_of_ble_eq_true rfl) (fun post2 kq => c_M_thrown kq) rfl ?_
    refine G_iload 1 d_L_law_269 rfl ?_
    refine G_iceq 276 d_L_law_271 (by decide) (fun _ => ?_) (fun h => absurd h (by decide))
    refine G_iload 1 d_L_law_276 rfl ?_
    refine G_ifne 293 d_L_law_278 (by decide) (fun _ => ?_) (fun h => absurd h (by decide))
    refine G_goto 845 d_L_law_293 (by decide) ?_
    exact G_sub [2, 3, 4, 5, 6] rfl (k _ _ _ _ _ _ _ (by omega) (by omega) (cz_IM (cz_m0 M 2) hI) (cz_RK (cz_m0 M 2) hI hK))
set_option maxHeartbeats 1000000 in
set_option maxRecDepth 100000 in
theorem w_number {K : KC} {M : MC} {o : Nat → Int64} {nc ns : Nat} {d L i cs kk : Nat} {xs : Nat → Int32} {post : mj_O → mj_H → Prop} (hI : IM M cs kk) (hK : RK K M cs kk) (hr1 : nc + 1 ≤ 601024) (hr2 : ns + 6 ≤ 7293034) (hi : i + 5 ≤ L) (hL : L ≤ 2560) (k : ∀ (K' : KC) (M' : MC) (o' : Nat → Int64) (nc' ns' cs' kk' : Nat), nc' ≤ nc + 1 → ns' ≤ ns + 6 → IM M' cs' kk' → RK K' M' cs' kk' → mj_G y_L_law b_L_law 7 (some .boolean) [] (d + 100) (some (L, xs)) 845 [(4, .int (nI i)), (0, .ref 1000000), (1, .ref 0), (2, .ref 38), (3, .ref 63)] [] (hp K' M' o', nc', ns') post) : mj_G y_L_law b_L_law 7 (some .boolean) [] (d + 100) (some (L, xs)) 296 [(4, .int (nI i)), (0, .ref 1000000), (1, .ref 0), (2, .ref 38), (3, .ref 63)] [] (hp K M o, nc, ns) post := by
  obtain ⟨x1, e1⟩ : ∃ z, xs (i + 1) = z := ⟨_, rfl⟩
  refine G_aload_n 2 d_L_law_296 rfl ?_
  refine G_aload_n 1 d_L_law_297 rfl ?_
  refine G_iload 0 d_L_law_298 rfl ?_
  refine G_iconst (v := nI 1) d_L_law_300 (by decide) ?_
  refine G_iadd d_L_law_301 ?_
  rw [nI_add]
  refine G_sldN d_L_law_302 (by omega) (by omega) ?_
  rw [e1]
  refine G_aload_n 4 d_L_law_303 rfl ?_
  refine G_csp (fun a9 A9 => (∃ (v : Int32) (KK : KC), a9 = some (.int 0) ∧ A9 = (hp KK M (vp_updL o 0 v.toInt64), nc, ns) ∧ (v = nI (mP M) ∧ mP M ≠ 200 ∧ RK KK (patM (mi M 0 0) (mP M) 1 0 x1 0 0 1) cs kk)) ∨ (a9 = some (.int 1) ∧ A9 = (hp K M o, nc + 1, ns + 6) ∧ (mP M = 200))) (As := [.ref 0, .int x1, .ref 63]) d_L_law_304 cs_L_74 cw_L_number np_L_number (Nat.le_of_ble_eq_true rfl) (Nat.le_of_ble_eq_true rfl) (fun post2 kq => c_L_number (d := d + 98) x1 (fun v KK => v = nI (mP M) ∧ mP M ≠ 200 ∧ RK KK (patM (mi M 0 0) (mP M) 1 0 x1 0 0 1) cs kk) (fun C => (C = 1 ∧ (mP M = 200))) (fun post3 k1 k2 => c_C_number (d := d + 91) x1 hI hK hr1 hr2 (fun q => k2 1 ⟨rfl, q⟩) (fun hn KK h => k1 _ KK ⟨rfl, hn, h⟩)) (fun C h => h.1) (fun v KK h => kq _ _ (Or.inl ⟨v, KK, rfl, rfl, h⟩)) (fun h => kq _ _ (Or.inr (⟨rfl, rfl, h.2⟩)))) (fun a9 A9 h9 => by rcases h9 with ⟨v, KK, -, rfl, -⟩ | ⟨-, rfl, -⟩ <;> rfl) (fun a9 A9 h9 => ?_)
  rcases h9 with ⟨v, KK, rfl, rfl, h9⟩ | ⟨rfl, rfl, h9⟩
  · obtain ⟨rfl, hq2, hRK⟩ := h9
    refine G_istore (ls' := [(5, .int 0), (4, .int (nI i)), (0, .ref 1000000), (1, .ref 0), (2, .ref 38), (3, .ref 63)]) d_L_law_307 (by decide) rfl ?_
    refine G_aload_n 4 d_L_law_309 rfl ?_
    refine G_aload_n 2 d_L_law_310 rfl ?_
    refine G_iload 1 d_L_law_311 rfl ?_
    refine G_iconst (v := nI 1) d_L_law_313 (by decide) ?_
    refine G_iadd d_L_law_314 ?_
    rw [nI_add]
    refine G_sldN d_L_law_315 (by omega) (by omega) ?_
    rw [e1]
    refine G_cv1 (some (.int (nI (mP M)))) (hp KK (patM (mi M 0 0) (mP M) 1 0 x1 0 0 1) (vp_updL o 0 (nI (mP M)).toInt64), nc, ns) (As := [.int x1]) d_L_law_316 cv_L_76 cw_M_number (ob_M KK M (vp_updL o 0 (nI (mP M)).toInt64)) np_M_number (Nat.le_of_ble_eq_true rfl) (Nat.le_of_ble_eq_true rfl) (fun post2 kq => c_M_number x1 hI.2.2.1 (fun q => absurd q hq2) (fun _ => kq)) rfl ?_
    refine G_istore (ls' := [(6, .int (nI (mP M))), (5, .int 0), (4, .int (nI i)), (0, .ref 1000000), (1, .ref 0), (2, .ref 38), (3, .ref 63)]) d_L_law_319 (by decide) rfl ?_
    refine G_aload_n 5 d_L_law_321 rfl ?_
    refine G_cv1 (some (.int 0)) (hp KK (patM (mi M 0 0) (mP M) 1 0 x1 0 0 1) (vp_updL o 0 (nI (mP M)).toInt64), nc, ns) (As := []) d_L_law_322 cv_L_63 cw_M_thrown (ob_M KK (patM (mi M 0 0) (mP M) 1 0 x1 0 0 1) (vp_updL o 0 (nI (mP M)).toInt64)) np_M_thrown (Nat.le_of_ble_eq_true rfl) (Nat.le_of_ble_eq_true rfl) (fun post2 kq => c_M_thrown kq) rfl ?_
    refine G_iload 1 d_L_law_325 rfl ?_
    refine G_iceq 332 d_L_law_327 (by decide) (fun _ => ?_) (fun h => absurd h (by decide))
    refine G_iload 1 d_L_law_332 rfl ?_
    refine G_ifne 349 d_L_law_334 (by decide) (fun h => absurd h (by decide)) (fun _ => ?_)
    refine G_aload_n 6 d_L_law_337 rfl ?_
    refine G_iconst (v := nI 0) d_L_law_338 (by decide) ?_
    refine G_lalN d_L_law_339 (ar_63 KK (patM (mi M 0 0) (mP M) 1 0 x1 0 0 1) (vp_updL o 0 (nI (mP M)).toInt64)) (by decide) (by omega) ?_
    rw [pk_uLs]
    refine G_iload 0 d_L_law_340 rfl ?_
    refine G_i2l d_L_law_342 ?_
    refine G_lcmp d_L_law_343 ?_
    refine G_ifeq 349 d_L_law_344 (by decide) (fun h344 => ?_) (fun h344 => False.elim (h344 (lcmp_self _)))
    refine G_goto 845 d_L_law_349 (by decide) ?_
    exact G_sub [2, 3, 4, 5, 6] rfl (k _ _ _ _ _ _ _ (by omega) (by omega) (number_IM hI hq2) hRK)
  · refine G_istore (ls' := [(5, .int 1), (4, .int (nI i)), (0, .ref 1000000), (1, .ref 0), (2, .ref 38), (3, .ref 63)]) d_L_law_307 (by decide) rfl ?_
    refine G_aload_n 4 d_L_law_309 rfl ?_
    refine G_aload_n 2 d_L_law_310 rfl ?_
    refine G_iload 1 d_L_law_311 rfl ?_
    refine G_iconst (v := nI 1) d_L_law_313 (by decide) ?_
    refine G_iadd d_L_law_314 ?_
    rw [nI_add]
    refine G_sldN d_L_law_315 (by omega) (by omega) ?_
    rw [e1]
    refine G_cv1 (some (.int (0))) (hp K (mi M 0 1) o, nc + 1, ns + 6) (As := [.int x1]) d_L_law_316 cv_L_76 cw_M_number (ob_M K M o) np_M_number (Nat.le_of_ble_eq_true rfl) (Nat.le_of_ble_eq_true rfl) (fun post2 kq => c_M_number x1 hI.2.2.1 (fun _ => kq) (fun q => absurd h9 q)) rfl ?_
    refine G_istore (ls' := [(6, .int 0), (5, .int 1), (4, .int (nI i)), (0, .ref 1000000), (1, .ref 0), (2, .ref 38), (3, .ref 63)]) d_L_law_319 (by decide) rfl ?_
    refine G_aload_n 5 d_L_law_321 rfl ?_
    refine G_cv1 (some (.int 1)) (hp K (mi M 0 1) o, nc + 1, ns + 6) (As := []) d_L_law_322 cv_L_63 cw_M_thrown (ob_M K (mi M 0 1) o) np_M_thrown (Nat.le_of_ble_eq_true rfl) (Nat.le_of_ble_eq_true rfl) (fun post2 kq => c_M_thrown kq) rfl ?_
    refine G_iload 1 d_L_law_325 rfl ?_
    refine G_iceq 332 d_L_law_327 (by decide) (fun _ => ?_) (fun h => absurd h (by decide))
    refine G_iload 1 d_L_law_332 rfl ?_
    refine G_ifne 349 d_L_law_334 (by decide) (fun _ => ?_) (fun h => absurd h (by decide))
    refine G_goto 845 d_L_law_349 (by decide) ?_
    exact G_sub [2, 3, 4, 5, 6] rfl (k _ _ _ _ _ _ _ (by omega) (by omega) (cz_IM (cz_m0 M 1) hI) (cz_RK (cz_m0 M 1) hI hK))
set_option maxHeartbeats 1000000 in
set_option maxRecDepth 100000 in
theorem w_made {K : KC} {M : MC} {o : Nat → Int64} {nc ns : Nat} {d L i cs kk : Nat} {xs : Nat → Int32} {post : mj_O → mj_H → Prop} (hI : IM M cs kk) (hK : RK K M cs kk) (hr1 : nc + 1 ≤ 601024) (hr2 : ns + 6 ≤ 7293034) (hi : i + 5 ≤ L) (hL : L ≤ 2560) (k : ∀ (K' : KC) (M' : MC) (o' : Nat → Int64) (nc' ns' cs' kk' : Nat), nc' ≤ nc + 1 → ns' ≤ ns + 6 → IM M' cs' kk' → RK K' M' cs' kk' → mj_G y_L_law b_L_law 7 (some .boolean) [] (d + 100) (some (L, xs)) 845 [(4, .int (nI i)), (0, .ref 1000000), (1, .ref 0), (2, .ref 38), (3, .ref 63)] [] (hp K' M' o', nc', ns') post) : mj_G y_L_law b_L_law 7 (some .boolean) [] (d + 100) (some (L, xs)) 352 [(4, .int (nI i)), (0, .ref 1000000), (1, .ref 0), (2, .ref 38), (3, .ref 63)] [] (hp K M o, nc, ns) post := by
  obtain ⟨x1, e1⟩ : ∃ z, xs (i + 1) = z := ⟨_, rfl⟩
  obtain ⟨x2, e2⟩ : ∃ z, xs (i + 2) = z := ⟨_, rfl⟩
  obtain ⟨x3, e3⟩ : ∃ z, xs (i + 3) = z := ⟨_, rfl⟩
  refine G_aload_n 2 d_L_law_352 rfl ?_
  refine G_aload_n 1 d_L_law_353 rfl ?_
  refine G_iload 0 d_L_law_354 rfl ?_
  refine G_iconst (v := nI 1) d_L_law_356 (by decide) ?_
  refine G_iadd d_L_law_357 ?_
  rw [nI_add]
  refine G_sldN d_L_law_358 (by omega) (by omega) ?_
  rw [e1]
  refine G_aload_n 1 d_L_law_359 rfl ?_
  refine G_iload 0 d_L_law_360 rfl ?_
  refine G_iconst (v := nI 2) d_L_law_362 (by decide) ?_
  refine G_iadd d_L_law_363 ?_
  rw [nI_add]
  refine G_sldN d_L_law_364 (by omega) (by omega) ?_
  rw [e2]
  refine G_aload_n 1 d_L_law_365 rfl ?_
  refine G_iload 0 d_L_law_366 rfl ?_
  refine G_iconst (v := nI 3) d_L_law_368 (by decide) ?_
  refine G_iadd d_L_law_369 ?_
  rw [nI_add]
  refine G_sldN d_L_law_370 (by omega) (by omega) ?_
  rw [e3]
  refine G_aload_n 4 d_L_law_371 rfl ?_
  refine G_csp (fun a9 A9 => (∃ (v : Int32) (KK : KC), a9 = some (.int 0) ∧ A9 = (hp KK M (vp_updL o 0 v.toInt64), nc, ns) ∧ (v = nI (mP M) ∧ mdA M x1 x2 x3 ∧ mP M ≠ 200 ∧ mdZ M x1 x2 x3 ≤ 12 ∧ RK KK (mdM M x1 x2 x3) cs kk)) ∨ (a9 = some (.int 1) ∧ A9 = (hp K M o, nc + 1, ns + 6) ∧ (¬ mdA M x1 x2 x3)) ∨ (a9 = some (.int 2) ∧ A9 = (hp K M o, nc + 1, ns + 6) ∧ (mdA M x1 x2 x3 ∧ (mP M = 200 ∨ ¬ mdZ M x1 x2 x3 ≤ 12)))) (As := [.ref 0, .int x1, .int x2, .int x3, .ref 63]) d_L_law_372 cs_L_77 cw_L_made np_L_made (Nat.le_of_ble_eq_true rfl) (Nat.le_of_ble_eq_true rfl) (fun post2 kq => c_L_made (d := d + 98) x1 x2 x3 (fun v KK => v = nI (mP M) ∧ mdA M x1 x2 x3 ∧ mP M ≠ 200 ∧ mdZ M x1 x2 x3 ≤ 12 ∧ RK KK (mdM M x1 x2 x3) cs kk) (fun C => (C = 0 ∧ (¬ mdA M x1 x2 x3)) ∨ (C = 1 ∧ (mdA M x1 x2 x3 ∧ (mP M = 200 ∨ ¬ mdZ M x1 x2 x3 ≤ 12)))) (fun post3 k1 k2 => c_C_madeU (d := d + 90) x1 x2 x3 hI hK hr1 hr2 (fun q => k2 0 (Or.inl ⟨rfl, q⟩)) (fun q q2 => k2 1 (Or.inr ⟨rfl, q, q2⟩)) (fun hr hn hz KK h => k1 _ KK ⟨rfl, hr, hn, hz, h⟩)) (fun C h => h.imp (fun z => z.1) (fun z => z.1)) (fun v KK h => kq _ _ (Or.inl ⟨v, KK, rfl, rfl, h⟩)) (fun h => kq _ _ (Or.inr (Or.inl ⟨rfl, rfl, (h.elim (fun z => z.2) (fun z => absurd z.1 (by decide)))⟩))) (fun h => kq _ _ (Or.inr (Or.inr (⟨rfl, rfl, (h.elim (fun z => absurd z.1 (by decide)) (fun z => z.2))⟩))))) (fun a9 A9 h9 => by rcases h9 with ⟨v, KK, -, rfl, -⟩ | ⟨-, rfl, -⟩ | ⟨-, rfl, -⟩ <;> rfl) (fun a9 A9 h9 => ?_)
  rcases h9 with ⟨v, KK, rfl, rfl, h9⟩ | ⟨rfl, rfl, h9⟩ | ⟨rfl, rfl, h9⟩
  · obtain ⟨rfl, hq, hq2, hq3, hRK⟩ := h9
    refine G_istore (ls' := [(5, .int 0), (4, .int (nI i)), (0, .ref 1000000), (1, .ref 0), (2, .ref 38), (3, .ref 63)]) d_L_law_375 (by decide) rfl ?_
    refine G_aload_n 4 d_L_law_377 rfl ?_
    refine G_aload_n 2 d_L_law_378 rfl ?_
    refine G_iload 1 d_L_law_379 rfl ?_
    refine G_iconst (v := nI 1) d_L_law_381 (by decide) ?_
    refine G_iadd d_L_law_382 ?_
    rw [nI_add]
    refine G_sldN d_L_law_383 (by omega) (by omega) ?_
    rw [e1]
    refine G_aload_n 2 d_L_law_384 rfl ?_
    refine G_iload 1 d_L_law_385 rfl ?_
    refine G_iconst (v := nI 2) d_L_law_387 (by decide) ?_
    refine G_iadd d_L_law_388 ?_
    rw [nI_add]
    refine G_sldN d_L_law_389 (by omega) (by omega) ?_
    rw [e2]
    refine G_aload_n 2 d_L_law_390 rfl ?_
    refine G_iload 1 d_L_law_391 rfl ?_
    refine G_iconst (v := nI 3) d_L_law_393 (by decide) ?_
    refine G_iadd d_L_law_394 ?_
    rw [nI_add]
    refine G_sldN d_L_law_395 (by omega) (by omega) ?_
    rw [e3]
    refine G_cv1 (some (.int (nI (mP M)))) (hp KK (mdM M x1 x2 x3) (vp_updL o 0 (nI (mP M)).toInt64), nc, ns) (As := [.int x1, .int x2, .int x3]) d_L_law_396 cv_L_80 cw_M_made (ob_M KK M (vp_updL o 0 (nI (mP M)).toInt64)) np_M_made (Nat.le_of_ble_eq_true rfl) (Nat.le_of_ble_eq_true rfl) (fun post2 kq => c_M_madeU x1 x2 x3 hI (fun q => absurd hq q) (fun _ q => absurd q (fun z => z.elim hq2 (fun z => z hq3))) (fun _ _ _ => kq)) rfl ?_
    refine G_istore (ls' := [(6, .int (nI (mP M))), (5, .int 0), (4, .int (nI i)), (0, .ref 1000000), (1, .ref 0), (2, .ref 38), (3, .ref 63)]) d_L_law_399 (by decide) rfl ?_
    refine G_aload_n 5 d_L_law_401 rfl ?_
    refine G_cv1 (some (.int 0)) (hp KK (mdM M x1 x2 x3) (vp_updL o 0 (nI (mP M)).toInt64), nc, ns) (As := []) d_L_law_402 cv_L_63 cw_M_thrown (ob_M KK (mdM M x1 x2 x3) (vp_updL o 0 (nI (mP M)).toInt64)) np_M_thrown (Nat.le_of_ble_eq_true rfl) (Nat.le_of_ble_eq_true rfl) (fun post2 kq => c_M_thrown kq) rfl ?_
    refine G_iload 1 d_L_law_405 rfl ?_
    refine G_iceq 412 d_L_law_407 (by decide) (fun _ => ?_) (fun h => absurd h (by decide))
    refine G_iload 1 d_L_law_412 rfl ?_
    refine G_ifne 429 d_L_law_414 (by decide) (fun h => absurd h (by decide)) (fun _ => ?_)
    refine G_aload_n 6 d_L_law_417 rfl ?_
    refine G_iconst (v := nI 0) d_L_law_418 (by decide) ?_
    refine G_lalN d_L_law_419 (ar_63 KK (mdM M x1 x2 x3) (vp_updL o 0 (nI (mP M)).toInt64)) (by decide) (by omega) ?_
    rw [pk_uLs]
    refine G_iload 0 d_L_law_420 rfl ?_
    refine G_i2l d_L_law_422 ?_
    refine G_lcmp d_L_law_423 ?_
    refine G_ifeq 429 d_L_law_424 (by decide) (fun h424 => ?_) (fun h424 => False.elim (h424 (lcmp_self _)))
    refine G_goto 845 d_L_law_429 (by decide) ?_
    exact G_sub [2, 3, 4, 5, 6] rfl (k _ _ _ _ _ _ _ (by omega) (by omega) (md_IM hI hq hq2 hq3) hRK)
  · refine G_istore (ls' := [(5, .int 1), (4, .int (nI i)), (0, .ref 1000000), (1, .ref 0), (2, .ref 38), (3, .ref 63)]) d_L_law_375 (by decide) rfl ?_
    refine G_aload_n 4 d_L_law_377 rfl ?_
    refine G_aload_n 2 d_L_law_378 rfl ?_
    refine G_iload 1 d_L_law_379 rfl ?_
    refine G_iconst (v := nI 1) d_L_law_381 (by decide) ?_
    refine G_iadd d_L_law_382 ?_
    rw [nI_add]
    refine G_sldN d_L_law_383 (by omega) (by omega) ?_
    rw [e1]
    refine G_aload_n 2 d_L_law_384 rfl ?_
    refine G_iload 1 d_L_law_385 rfl ?_
    refine G_iconst (v := nI 2) d_L_law_387 (by decide) ?_
    refine G_iadd d_L_law_388 ?_
    rw [nI_add]
    refine G_sldN d_L_law_389 (by omega) (by omega) ?_
    rw [e2]
    refine G_aload_n 2 d_L_law_390 rfl ?_
    refine G_iload 1 d_L_law_391 rfl ?_
    refine G_iconst (v := nI 3) d_L_law_393 (by decide) ?_
    refine G_iadd d_L_law_394 ?_
    rw [nI_add]
    refine G_sldN d_L_law_395 (by omega) (by omega) ?_
    rw [e3]
    refine G_cv1 (some (.int (0))) (hp K (mi M 0 1) o, nc + 1, ns + 6) (As := [.int x1, .int x2, .int x3]) d_L_law_396 cv_L_80 cw_M_made (ob_M K M o) np_M_made (Nat.le_of_ble_eq_true rfl) (Nat.le_of_ble_eq_true rfl) (fun post2 kq => c_M_madeU x1 x2 x3 hI (fun _ => kq) (fun q _ => absurd q h9) (fun q _ _ => absurd q h9)) rfl ?_
    refine G_istore (ls' := [(6, .int 0), (5, .int 1), (4, .int (nI i)), (0, .ref 1000000), (1, .ref 0), (2, .ref 38), (3, .ref 63)]) d_L_law_399 (by decide) rfl ?_
    refine G_aload_n 5 d_L_law_401 rfl ?_
    refine G_cv1 (some (.int 1)) (hp K (mi M 0 1) o, nc + 1, ns + 6) (As := []) d_L_law_402 cv_L_63 cw_M_thrown (ob_M K (mi M 0 1) o) np_M_thrown (Nat.le_of_ble_eq_true rfl) (Nat.le_of_ble_eq_true rfl) (fun post2 kq => c_M_thrown kq) rfl ?_
    refine G_iload 1 d_L_law_405 rfl ?_
    refine G_iceq 412 d_L_law_407 (by decide) (fun _ => ?_) (fun h => absurd h (by decide))
    refine G_iload 1 d_L_law_412 rfl ?_
    refine G_ifne 429 d_L_law_414 (by decide) (fun _ => ?_) (fun h => absurd h (by decide))
    refine G_goto 845 d_L_law_429 (by decide) ?_
    exact G_sub [2, 3, 4, 5, 6] rfl (k _ _ _ _ _ _ _ (by omega) (by omega) (cz_IM (cz_m0 M 1) hI) (cz_RK (cz_m0 M 1) hI hK))
  · refine G_istore (ls' := [(5, .int 2), (4, .int (nI i)), (0, .ref 1000000), (1, .ref 0), (2, .ref 38), (3, .ref 63)]) d_L_law_375 (by decide) rfl ?_
    refine G_aload_n 4 d_L_law_377 rfl ?_
    refine G_aload_n 2 d_L_law_378 rfl ?_
    refine G_iload 1 d_L_law_379 rfl ?_
    refine G_iconst (v := nI 1) d_L_law_381 (by decide) ?_
    refine G_iadd d_L_law_382 ?_
    rw [nI_add]
    refine G_sldN d_L_law_383 (by omega) (by omega) ?_
    rw [e1]
    refine G_aload_n 2 d_L_law_384 rfl ?_
    refine G_iload 1 d_L_law_385 rfl ?_
    refine G_iconst (v := nI 2) d_L_law_387 (by decide) ?_
    refine G_iadd d_L_law_388 ?_
    rw [nI_add]
    refine G_sldN d_L_law_389 (by omega) (by omega) ?_
    rw [e2]
    refine G_aload_n 2 d_L_law_390 rfl ?_
    refine G_iload 1 d_L_law_391 rfl ?_
    refine G_iconst (v := nI 3) d_L_law_393 (by decide) ?_
    refine G_iadd d_L_law_394 ?_
    rw [nI_add]
    refine G_sldN d_L_law_395 (by omega) (by omega) ?_
    rw [e3]
    refine G_cv1 (some (.int (0))) (hp K (mi M 0 2) o, nc + 1, ns + 6) (As := [.int x1, .int x2, .int x3]) d_L_law_396 cv_L_80 cw_M_made (ob_M K M o) np_M_made (Nat.le_of_ble_eq_true rfl) (Nat.le_of_ble_eq_true rfl) (fun post2 kq => c_M_madeU x1 x2 x3 hI (fun q => absurd h9.1 q) (fun _ _ => kq) (fun _ q q2 => absurd h9.2 (fun z => z.elim q (fun z => z q2)))) rfl ?_
    refine G_istore (ls' := [(6, .int 0), (5, .int 2), (4, .int (nI i)), (0, .ref 1000000), (1, .ref 0), (2, .ref 38), (3, .ref 63)]) d_L_law_399 (by decide) rfl ?_
    refine G_aload_n 5 d_L_law_401 rfl ?_
    refine G_cv1 (some (.int 2)) (hp K (mi M 0 2) o, nc + 1, ns + 6) (As := []) d_L_law_402 cv_L_63 cw_M_thrown (ob_M K (mi M 0 2) o) np_M_thrown (Nat.le_of_ble_eq_true rfl) (Nat.le_of_ble_eq_true rfl) (fun post2 kq => c_M_thrown kq) rfl ?_
    refine G_iload 1 d_L_law_405 rfl ?_
    refine G_iceq 412 d_L_law_407 (by decide) (fun _ => ?_) (fun h => absurd h (by decide))
    refine G_iload 1 d_L_law_412 rfl ?_
    refine G_ifne 429 d_L_law_414 (by decide) (fun _ => ?_) (fun h => absurd h (by decide))
    refine G_goto 845 d_L_law_429 (by decide) ?_
    exact G_sub [2, 3, 4, 5, 6] rfl (k _ _ _ _ _ _ _ (by omega) (by omega) (cz_IM (cz_m0 M 2) hI) (cz_RK (cz_m0 M 2) hI hK))
set_option maxHeartbeats 1000000 in
set_option maxRecDepth 100000 in
theorem w_begin {K : KC} {M : MC} {o : Nat → Int64} {nc ns : Nat} {d L i cs kk : Nat} {xs : Nat → Int32} {post : mj_O → mj_H → Prop} (hI : IM M cs kk) (hK : RK K M cs kk) (hr1 : nc + 1 ≤ 601024) (hr2 : ns + 6 ≤ 7293034) (hi : i + 5 ≤ L) (hL : L ≤ 2560) (k : ∀ (K' : KC) (M' : MC) (o' : Nat → Int64) (nc' ns' cs' kk' : Nat), nc' ≤ nc + 1 → ns' ≤ ns + 6 → IM M' cs' kk' → RK K' M' cs' kk' → mj_G y_L_law b_L_law 7 (some .boolean) [] (d + 100) (some (L, xs)) 845 [(4, .int (nI i)), (0, .ref 1000000), (1, .ref 0), (2, .ref 38), (3, .ref 63)] [] (hp K' M' o', nc', ns') post) : mj_G y_L_law b_L_law 7 (some .boolean) [] (d + 100) (some (L, xs)) 432 [(4, .int (nI i)), (0, .ref 1000000), (1, .ref 0), (2, .ref 38), (3, .ref 63)] [] (hp K M o, nc, ns) post := by
  obtain ⟨x1, e1⟩ : ∃ z, xs (i + 1) = z := ⟨_, rfl⟩
  refine G_aload_n 2 d_L_law_432 rfl ?_
  refine G_aload_n 1 d_L_law_433 rfl ?_
  refine G_iload 0 d_L_law_434 rfl ?_
  refine G_iconst (v := nI 1) d_L_law_436 (by decide) ?_
  refine G_iadd d_L_law_437 ?_
  rw [nI_add]
  refine G_sldN d_L_law_438 (by omega) (by omega) ?_
  rw [e1]
  refine G_csp (fun a9 A9 => (∃ (v : Int32) (KK : KC), a9 = some (.int 0) ∧ A9 = (hp KK M o, nc, ns) ∧ (∃ s, s < mS M ∧ x1 = nI s ∧ RK KK (mi (mi (mi M 0 0) 4 (nI 0)) 5 (nI s)) s 0)) ∨ (a9 = some (.int 1) ∧ A9 = (hp K M o, nc + 1, ns + 6) ∧ (¬ iS M x1))) (As := [.ref 0, .int x1]) d_L_law_439 cs_L_81 cw_L_begin np_L_begin (Nat.le_of_ble_eq_true rfl) (Nat.le_of_ble_eq_true rfl) (fun post2 kq => c_L_begin (d := d + 98) x1 (fun v KK => ∃ s, s < mS M ∧ x1 = nI s ∧ RK KK (mi (mi (mi M 0 0) 4 (nI 0)) 5 (nI s)) s 0) (fun C => (C = 0 ∧ (¬ iS M x1))) (fun post3 k1 k2 => c_C_begin (d := d + 91) x1 hI hK hr1 hr2 (fun q => k2 0 ⟨rfl, q⟩) (fun s hs hx KK h => k1 0 KK ⟨s, hs, hx, h⟩)) (fun C h => h.1) (fun v KK h => kq _ _ (Or.inl ⟨v, KK, rfl, rfl, h⟩)) (fun h => kq _ _ (Or.inr (⟨rfl, rfl, h.2⟩)))) (fun a9 A9 h9 => by rcases h9 with ⟨v, KK, -, rfl, -⟩ | ⟨-, rfl, -⟩ <;> rfl) (fun a9 A9 h9 => ?_)
  rcases h9 with ⟨v, KK, rfl, rfl, h9⟩ | ⟨rfl, rfl, h9⟩
  · obtain ⟨s, hs, rfl, hRK⟩ := h9
    refine G_istore (ls' := [(5, .int 0), (4, .int (nI i)), (0, .ref 1000000), (1, .ref 0), (2, .ref 38), (3, .ref 63)]) d_L_law_442 (by decide) rfl ?_
    refine G_aload_n 4 d_L_law_444 rfl ?_
    refine G_aload_n 2 d_L_law_445 rfl ?_
    refine G_iload 1 d_L_law_446 rfl ?_
    refine G_iconst (v := nI 1) d_L_law_448 (by decide) ?_
    refine G_iadd d_L_law_449 ?_
    rw [nI_add]
    refine G_sldN d_L_law_450 (by omega) (by omega) ?_
    rw [e1]
    refine G_cv1 (none) (hp KK (mi (mi (mi M 0 0) 4 (nI 0)) 5 (nI s)) o, nc, ns) (As := [.int (nI s)]) d_L_law_451 cv_L_84 cw_M_begin (ob_M KK M o) np_M_begin (Nat.le_of_ble_eq_true rfl) (Nat.le_of_ble_eq_true rfl) (fun post2 kq => c_M_begin (nI s) (fun q => absurd (iS_nI hI.1 hs) q) (fun _ => kq)) rfl ?_
    refine G_aload_n 4 d_L_law_454 rfl ?_
    refine G_cv1 (some (.int 0)) (hp KK (mi (mi (mi M 0 0) 4 (nI 0)) 5 (nI s)) o, nc, ns) (As := []) d_L_law_455 cv_L_63 cw_M_thrown (ob_M KK (mi (mi (mi M 0 0) 4 (nI 0)) 5 (nI s)) o) np_M_thrown (Nat.le_of_ble_eq_true rfl) (Nat.le_of_ble_eq_true rfl) (fun post2 kq => c_M_thrown kq) rfl ?_
    refine G_iload 0 d_L_law_458 rfl ?_
    refine G_iceq 465 d_L_law_460 (by decide) (fun _ => ?_) (fun h => absurd h (by decide))
    refine G_goto 845 d_L_law_465 (by decide) ?_
    exact G_sub [1, 2, 3, 4, 5] rfl (k _ _ _ _ _ _ _ (by omega) (by omega) (beg_IM hI hs) hRK)
  · refine G_istore (ls' := [(5, .int 1), (4, .int (nI i)), (0, .ref 1000000), (1, .ref 0), (2, .ref 38), (3, .ref 63)]) d_L_law_442 (by decide) rfl ?_
    refine G_aload_n 4 d_L_law_444 rfl ?_
    refine G_aload_n 2 d_L_law_445 rfl ?_
    refine G_iload 1 d_L_law_446 rfl ?_
    refine G_iconst (v := nI 1) d_L_law_448 (by decide) ?_
    refine G_iadd d_L_law_449 ?_
    rw [nI_add]
    refine G_sldN d_L_law_450 (by omega) (by omega) ?_
    rw [e1]
    refine G_cv1 (none) (hp K (mi M 0 1) o, nc + 1, ns + 6) (As := [.int x1]) d_L_law_451 cv_L_84 cw_M_begin (ob_M K M o) np_M_begin (Nat.le_of_ble_eq_true rfl) (Nat.le_of_ble_eq_true rfl) (fun post2 kq => c_M_begin x1 (fun _ => kq) (fun q => absurd q h9)) rfl ?_
    refine G_aload_n 4 d_L_law_454 rfl ?_
    refine G_cv1 (some (.int 1)) (hp K (mi M 0 1) o, nc + 1, ns + 6) (As := []) d_L_law_455 cv_L_63 cw_M_thrown (ob_M K (mi M 0 1) o) np_M_thrown (Nat.le_of_ble_eq_true rfl) (Nat.le_of_ble_eq_true rfl) (fun post2 kq => c_M_thrown kq) rfl ?_
    refine G_iload 0 d_L_law_458 rfl ?_
    refine G_iceq 465 d_L_law_460 (by decide) (fun _ => ?_) (fun h => absurd h (by decide))
    refine G_goto 845 d_L_law_465 (by decide) ?_
    exact G_sub [1, 2, 3, 4, 5] rfl (k _ _ _ _ _ _ _ (by omega) (by omega) (cz_IM (cz_m0 M 1) hI) (cz_RK (cz_m0 M 1) hI hK))
