/-! has: the search, walked -/
def EV (M : MC) (s0 a b m : Nat) : Prop := wfS M ∧ wfC M ∧ wfP M ∧ wfQ M s0 a b ∧ livesOk M ∧ LV M s0 ∧ M.1 11 = nI m ∧ m ≤ 130 ∧ (∀ p, p ∈ msL M ∨ p ∈ nvL M → ∀ x ∈ askL M 13 p [], hasL M (M.2 62) m (M.2 59) x.2)
theorem msL_mem {M : MC} {s0 a b : Nat} (hQ : wfQ M s0 a b) {p : Nat} : p ∈ msL M ↔ ∃ i, i < a ∧ p = (M.2 60 i).toNatClampNeg := by
  have e : (M.1 9).toNatClampNeg = a := by rw [hQ.1, nI_clamp (by have := hQ.2.1; omega)]
  unfold msL
  rw [List.mem_map]
  exact ⟨fun ⟨i, h1, h2⟩ => ⟨i, by rw [List.mem_range, e] at h1; exact h1, h2.symm⟩, fun ⟨i, h1, h2⟩ => ⟨i, by rw [List.mem_range, e]; exact h1, h2.symm⟩⟩
theorem nvL_mem {M : MC} {s0 a b : Nat} (hQ : wfQ M s0 a b) {p : Nat} : p ∈ nvL M ↔ ∃ i, i < b ∧ p = (M.2 61 i).toNatClampNeg := by
  have e : (M.1 10).toNatClampNeg = b := by rw [hQ.2.2.1, nI_clamp (by have := hQ.2.2.2.1; omega)]
  unfold nvL
  rw [List.mem_map]
  exact ⟨fun ⟨i, h1, h2⟩ => ⟨i, by rw [List.mem_range, e] at h1; exact h1, h2.symm⟩, fun ⟨i, h1, h2⟩ => ⟨i, by rw [List.mem_range, e]; exact h1, h2.symm⟩⟩
theorem msL_ok {M : MC} {s0 a b : Nat} (hP : wfP M) (hQ : wfQ M s0 a b) : ∀ p ∈ msL M, p < mP M ∧ ps M p = s0 := by
  intro p hp
  obtain ⟨i, hi, rfl⟩ := (msL_mem hQ).mp hp
  obtain ⟨p, e, h1, h2⟩ := hQ.2.2.2.2.1 i hi
  have := hP.2.1
  rw [e, nI_clamp (by omega)]; exact ⟨h1, h2⟩
theorem nvL_ok {M : MC} {s0 a b : Nat} (hP : wfP M) (hQ : wfQ M s0 a b) : ∀ p ∈ nvL M, p < mP M ∧ ps M p = s0 := by
  intro p hp
  obtain ⟨i, hi, rfl⟩ := (nvL_mem hQ).mp hp
  obtain ⟨p, e, h1, h2⟩ := hQ.2.2.2.2.2 i hi
  have := hP.2.1
  rw [e, nI_clamp (by omega)]; exact ⟨h1, h2⟩
theorem PL_mem {M : MC} {s0 a b : Nat} (hQ : wfQ M s0 a b) {p : Nat} (h : (∃ i, i < a ∧ p = (M.2 60 i).toNatClampNeg) ∨ ∃ i, i < b ∧ p = (M.2 61 i).toNatClampNeg) {x : List Nat × Int} (hx : x ∈ askL M 13 p []) : x.1 ∈ PL M := by
  unfold PL
  rw [List.mem_flatMap]
  refine ⟨p, List.mem_append.mpr (h.imp (msL_mem hQ).mpr (nvL_mem hQ).mpr), List.mem_map.mpr ⟨x, hx, rfl⟩⟩
theorem sT_kp {N' N : MC} (h : sT N' N) (n : Nat) : kp N' N n := fun i _ => by
  rw [h.2 56 (by decide), h.2 57 (by decide), h.2 58 (by decide)]; exact ⟨rfl, rfl, rfl⟩
set_option maxHeartbeats 600000 in
set_option maxRecDepth 100000 in
theorem c_look2 {K : KC} {M : MC} {o : Nat → Int64} {nc ns : Nat} {N : MC} {d : Nat} {s0 a b n m : Nat} (hE : EV M s0 a b m) (hc : coM N = coM M) (hn : N.1 7 = nI n) (hn2 : n ≤ 130) (hok : okPre N m s0 n) {post : mj_O → mj_H → Prop}
    (k0 : ∀ N', coM N' = coM M → N'.1 7 = nI n → kp N' N n → ¬ Sat M s0 (msL M) (nvL M) (preX N m s0 n).2 → post (.inl (some (.int (nI 0)))) (hp K N' o, nc, ns))
    (k1 : ∀ N', coM N' = coM M → Sat M s0 (msL M) (nvL M) (preX N m s0 n).2 → post (.inl (some (.int (nI 1)))) (hp K N' o, nc, ns))
    (k2 : ∀ N' h r t, coM N' = coM M → N'.1 7 = nI n → kp N' N n → N'.1 8 = nI h → N'.2 52 h = nI t → h < 270 → t < 12 → (preX N m s0 n).1[h]? = some (r, t) → (preX N m s0 n).2 r = none → r ∈ PL M → post (.inl (some (.int (nI 2)))) (hp K N' o, nc, ns)) : mj_G y_M_look b_M_look 5 (some .int) [] (d + 13) none 0 [(0, .ref 38), (1, .int (nI s0))] [] (hp K N o, nc, ns) post := by
  obtain ⟨hS, hC, hP, hQ, hL, hl, hm, hm2, hG⟩ := hE
  have wS := co_P wfS co_wfS hc hS
  have wC := co_P wfC co_wfC hc hC
  have wP := co_P wfP co_wfP hc hP
  have wQ : wfQ N s0 a b := co_P (fun N => wfQ N s0 a b) (fun N => rfl) hc hQ
  have wL := co_P livesOk co_liv hc hL
  have wl : LV N s0 := co_P (fun N => LV N s0) (fun N => rfl) hc hl
  have e60 : N.2 60 = M.2 60 := co_of (fun N => N.2 60) (fun _ => rfl) hc
  have e61 : N.2 61 = M.2 61 := co_of (fun N => N.2 61) (fun _ => rfl) hc
  have em : N.1 11 = nI m := (co_of (fun N => N.1 11) (fun _ => rfl) hc).trans hm
  have eF : fitT N = fitT M := co_of fitT co_fitT hc
  have eS : misT N = misT M := co_of misT co_misT hc
  have eA : askL N = askL M := co_of askL co_askL hc
  have e7 : ∀ N', sT N' N → N'.1 7 = nI n := fun N' h => (h.1 7 (by decide) (by decide)).trans hn
  obtain ⟨xw, xl⟩ := preX_ok wC wL wl n hok
  refine c_M_look wS wC wP wQ wL wl hn hn2 em hm2 hok (fun N' hT h => ?_) (fun N' hT h1 h2 => ?_) (fun N' h r t hT hR h8 hg hnn hx => ?_)
  · refine k0 N' ((sT_co hT).trans hc) (e7 N' hT) (sT_kp hT n) (fun ⟨t, he, hw, hm', hn'⟩ => ?_)
    rw [e60, e61, eF, eS] at h
    rcases h with ⟨i, hi, h⟩ | ⟨i, hi, h⟩
    · exact mis_not_fit (misT_ext h he) (hm' _ ((msL_mem hQ).mpr ⟨i, hi, rfl⟩))
    · exact mis_not_fit (hn' _ ((nvL_mem hQ).mpr ⟨i, hi, rfl⟩)) (fitT_ext h he)
  · rw [e60, eF] at h1
    rw [e61, eS] at h2
    refine k1 N' ((sT_co hT).trans hc) ⟨(preX N m s0 n).2, fun r a h => h, ?_, fun p hp => ?_, fun p hp => ?_⟩
    · rw [← co_of wfT co_wfT hc]; exact xw.2.2.2
    · obtain ⟨i, hi, rfl⟩ := (msL_mem hQ).mp hp
      exact h1 i hi
    · obtain ⟨i, hi, rfl⟩ := (nvL_mem hQ).mp hp
      exact h2 i hi
  · obtain ⟨p, hp, x, hx, rfl⟩ := hx
    rw [e60, e61] at hp
    rw [eA] at hx
    obtain ⟨-, g1, g2, -⟩ := hR.2.2 h _ _ hg
    have := (sT_cs hT).1
    have h12 := wS.2.2
    have h270 := hR.2.1
    have hlt := lt_of_get hg
    exact k2 N' h _ t ((sT_co hT).trans hc) (e7 N' hT) (sT_kp hT n) h8 g1 (by omega) (by omega) hg hnn (PL_mem hQ hp hx)
theorem c_M_optionsN {K : KC} {M : MC} {o : Nat → Int64} {nc ns : Nat} {d : Nat} (m t : Nat) (ht : t < 12) (hS : wfS M) (hC : wfC M) (hm : M.1 11 = nI m) {post : mj_O → mj_H → Prop} (k : post (.inl (some (.int (nI (oN M m t))))) (hp K M o, nc, ns)) : mj_G y_M_options b_M_options 4 (some .int) [] (d + 2) none 0 [(0, .ref 38), (1, .int (nI t))] [] (hp K M o, nc, ns) post := by
  unfold oN at k
  by_cases e : t = 0
  · subst e
    rw [if_pos rfl] at k
    exact c_M_options0 m hm k
  · rw [if_neg e] at k
    exact c_M_options t ht e hS hC k
theorem c_opt2 {K : KC} {M : MC} {o : Nat → Int64} {nc ns : Nat} {N : MC} {d : Nat} {s0 a b m t : Nat} (hE : EV M s0 a b m) (hc : coM N = coM M) (ht : t < 12) {post : mj_O → mj_H → Prop} (k : post (.inl (some (.int (nI (oN M m t))))) (hp K N o, nc, ns)) : mj_G y_M_options b_M_options 4 (some .int) [] (d + 2) none 0 [(0, .ref 38), (1, .int (nI t))] [] (hp K N o, nc, ns) post := by
  refine c_M_optionsN m t ht (co_P wfS co_wfS hc hE.1) (co_P wfC co_wfC hc hE.2.1) ((co_of (fun N => N.1 11) (fun _ => rfl) hc).trans hE.2.2.2.2.2.2.1) ?_
  rw [co_of (fun Q => oN Q m t) (fun _ => rfl) hc]; exact k
set_option maxHeartbeats 600000 in
set_option maxRecDepth 100000 in
theorem l_M_hasJ {K : KC} {M : MC} {o : Nat → Int64} {nc ns : Nat} {d : Nat} {s0 a b n m : Nat} (hE : EV M s0 a b m) (hn : n < 120) {X : XS} {N0 : MC} {h t : Nat} {r : List Nat} (hXW : XW M s0 X) (hX1 : X.1[h]? = some (r, t)) (hX2 : X.2 r = none) (ho : oN M m t < 2 ^ 30) {post : mj_O → mj_H → Prop}
    (IH : ∀ N j, j < oN M m t → coM N = coM M → N.1 7 = nI (n + 1) → kp N N0 n → N.2 56 n = nI h → N.2 57 n = nI j → (∀ N', coM N' = coM M → Sat M s0 (msL M) (nvL M) (stepX M m X h j).2 → post (.inl (some (.int 1))) (hp K N' o, nc, ns)) → (∀ N', coM N' = coM M → N'.1 7 = nI (n + 1) → kp N' N (n + 1) → ¬ Sat M s0 (msL M) (nvL M) (stepX M m X h j).2 → mj_G y_M_has b_M_has 3 (some .boolean) [] (d + 14) none 176 [(0, .ref 38), (1, .int (nI s0))] [] (hp K N' o, nc, ns) post) → mj_G y_M_has b_M_has 3 (some .boolean) [] (d + 14) none 100 [(0, .ref 38), (1, .int (nI s0))] [] (hp K N o, nc, ns) post)
    (k1 : ∀ N', coM N' = coM M → Sat M s0 (msL M) (nvL M) X.2 → post (.inl (some (.int 1))) (hp K N' o, nc, ns)) (kk : ∀ N', coM N' = coM M → N'.1 7 = nI n → kp N' N0 n → ¬ Sat M s0 (msL M) (nvL M) X.2 → mj_G y_M_has b_M_has 3 (some .boolean) [] (d + 14) none 176 [(0, .ref 38), (1, .int (nI s0))] [] (hp K N' o, nc, ns) post) :
    ∀ q j N, j < oN M m t → oN M m t ≤ j + q → coM N = coM M → N.1 7 = nI (n + 1) → kp N N0 n → N.2 56 n = nI h → N.2 57 n = nI j → N.2 58 n = nI (oN M m t) → (∀ c, c < j → ¬ Sat M s0 (msL M) (nvL M) (stepX M m X h c).2) → mj_G y_M_has b_M_has 3 (some .boolean) [] (d + 14) none 100 [(0, .ref 38), (1, .int (nI s0))] [] (hp K N o, nc, ns) post := by
  obtain ⟨hS, hC, hP, hQ, hL, hl, hm, hm2, hG⟩ := hE
  intro q
  induction q with
  | zero => intro j N h1 h2; omega
  | succ q ih =>
    intro j N hj1 hj2 hc h7 hk g56 g57 g58 hall
    refine IH N j hj1 hc h7 hk g56 g57 (fun N' hc' hs => k1 N' hc' ?_) (fun N2 hc2 h72 hk2 hns => ?_)
    · obtain ⟨a, e⟩ := stepX_u (m := m) hX1 hj1
      rw [e] at hs
      exact Sat_up hX2 hs
    · refine G_aload_n 0 d_M_has_176 rfl ?_
      refine G_gt d_M_has_177 fr_M_136 (rd_M_splits K N2 o) ?_
      rw [h72]
      refine G_ifle 223 d_M_has_180 (by decide) (fun h180 => False.elim (nI_nle (n := n + 1) (by omega) (by omega) h180)) (fun h180 => ?_)
      refine G_aload_n 0 d_M_has_183 rfl ?_
      refine G_gt d_M_has_184 fr_M_69 (rd_M_choice K N2 o) ?_
      refine G_aload_n 0 d_M_has_187 rfl ?_
      refine G_gt d_M_has_188 fr_M_136 (rd_M_splits K N2 o) ?_
      rw [h72]
      refine G_iconst (v := 1) d_M_has_191 (by decide) ?_
      refine G_isub d_M_has_192 ?_
      rw [nI_pred]
      refine G_ialN d_M_has_193 (ar_57 K N2 o) (by decide) (by omega) ?_
      rw [(hk2 n (by omega)).2.1, g57]
      refine G_iconst (v := 1) d_M_has_194 (by decide) ?_
      refine G_iadd d_M_has_195 ?_
      rw [nI_1]
      refine G_aload_n 0 d_M_has_196 rfl ?_
      refine G_gt d_M_has_197 fr_M_72 (rd_M_choices K N2 o) ?_
      refine G_aload_n 0 d_M_has_200 rfl ?_
      refine G_gt d_M_has_201 fr_M_136 (rd_M_splits K N2 o) ?_
      rw [h72]
      refine G_iconst (v := 1) d_M_has_204 (by decide) ?_
      refine G_isub d_M_has_205 ?_
      rw [nI_pred]
      refine G_ialN d_M_has_206 (ar_58 K N2 o) (by decide) (by omega) ?_
      rw [(hk2 n (by omega)).2.2, g58]
      refine G_icne 223 d_M_has_207 (by decide) (fun h207 => ?_) (fun h207 => ?_)
      · have h207 := (nI_ne (by omega) (by omega)).mp h207
        refine G_aload_n 0 d_M_has_223 rfl ?_
        refine G_gt d_M_has_224 fr_M_136 (rd_M_splits K N2 o) ?_
        rw [h72]
        refine G_ifne 232 d_M_has_227 (by decide) (fun h227 => ?_) (fun h227 => False.elim (nI_ne0 (n := n + 1) (by omega) (by omega) h227))
        refine G_aload_n 0 d_M_has_232 rfl ?_
        refine G_gt d_M_has_233 fr_M_69 (rd_M_choice K N2 o) ?_
        refine G_aload_n 0 d_M_has_236 rfl ?_
        refine G_gt d_M_has_237 fr_M_136 (rd_M_splits K N2 o) ?_
        rw [h72]
        refine G_iconst (v := 1) d_M_has_240 (by decide) ?_
        refine G_isub d_M_has_241 ?_
        rw [nI_pred]
        refine G_dup2 d_M_has_242 rfl rfl ?_
        refine G_ialN d_M_has_243 (ar_57 K N2 o) (by decide) (by omega) ?_
        rw [(hk2 n (by omega)).2.1, g57]
        refine G_iconst (v := 1) d_M_has_244 (by decide) ?_
        refine G_iadd d_M_has_245 ?_
        rw [nI_1]
        refine G_iasN d_M_has_246 (ar_57 K N2 o) (by decide) (by omega) (aw_57 K N2 o n (nI (j + 1))) ?_
        refine G_goto 100 d_M_has_247 (by decide) ?_
        exact ih (j + 1) (ma N2 57 n (nI (j + 1))) (by omega) (by omega) ((co_ma (by omega)).trans hc2) h72 (fun i hi => ⟨((hk2 i (by omega)).1).trans (hk i hi).1, (ma_old (by omega)).trans (((hk2 i (by omega)).2.1).trans (hk i hi).2.1), ((hk2 i (by omega)).2.2).trans (hk i hi).2.2⟩) (((hk2 n (by omega)).1).trans g56) pk_us (((hk2 n (by omega)).2.2).trans g58) (fun c hc3 => (Nat.lt_succ_iff_lt_or_eq.mp hc3).elim (hall c) (fun z => by subst z; exact hns))
      · have h207 : j + 1 = oN M m t := (nI_eq (by omega) (by omega)).mp h207
        refine G_aload_n 0 d_M_has_210 rfl ?_
        refine G_dup d_M_has_211 rfl ?_
        refine G_gt d_M_has_212 fr_M_136 (rd_M_splits K N2 o) ?_
        rw [h72]
        refine G_iconst (v := 1) d_M_has_215 (by decide) ?_
        refine G_isub d_M_has_216 ?_
        rw [nI_pred]
        refine G_pt d_M_has_217 fp_M_136 (wr_M_splits K N2 o (nI n)) ?_
        refine G_goto 176 d_M_has_220 (by decide) ?_
        exact kk (mi N2 7 (nI n)) ((co_mi (by omega)).trans hc2) rfl (fun i hi => ⟨((hk2 i (by omega)).1).trans (hk i hi).1, ((hk2 i (by omega)).2.1).trans (hk i hi).2.1, ((hk2 i (by omega)).2.2).trans (hk i hi).2.2⟩) (no_split hC hP hL (msL_ok hP hQ) hG hXW hX1 hX2 (fun c hc3 => (Nat.lt_succ_iff_lt_or_eq.mp (show c < j + 1 by omega)).elim (hall c) (fun z => by subst z; exact hns)))
set_option maxHeartbeats 600000 in
set_option maxRecDepth 100000 in
theorem l_M_dfs {K : KC} {M : MC} {o : Nat → Int64} {nc ns : Nat} {d : Nat} {s0 a b m : Nat} (hE : EV M s0 a b m) {post : mj_O → mj_H → Prop} : ∀ (w n : Nat) (N : MC), n + w ≤ 121 → mu (PL M) (preX N m s0 n).2 < w → coM N = coM M → N.1 7 = nI n → okPre N m s0 n →
    (∀ N', coM N' = coM M → Sat M s0 (msL M) (nvL M) (preX N m s0 n).2 → post (.inl (some (.int 1))) (hp K N' o, nc, ns)) → (∀ N', coM N' = coM M → N'.1 7 = nI n → kp N' N n → ¬ Sat M s0 (msL M) (nvL M) (preX N m s0 n).2 → mj_G y_M_has b_M_has 3 (some .boolean) [] (d + 14) none 176 [(0, .ref 38), (1, .int (nI s0))] [] (hp K N' o, nc, ns) post) → mj_G y_M_has b_M_has 3 (some .boolean) [] (d + 14) none 100 [(0, .ref 38), (1, .int (nI s0))] [] (hp K N o, nc, ns) post := by
  obtain ⟨hS, hC, hP, hQ, hL, hl, hm, hm2, hG⟩ := id hE
  intro w
  induction w with
  | zero => intro n N hb hmu; omega
  | succ w ih =>
    intro n N hb hmu hc h7 hok k1 kk
    obtain ⟨xw, xl⟩ := preX_ok (co_P wfC co_wfC hc hC) (co_P livesOk co_liv hc hL) (co_P (fun N => LV N s0) (fun N => rfl) hc hl) n hok
    refine G_aload_n 0 d_M_has_100 rfl ?_
    refine G_iload_n 1 d_M_has_101 rfl ?_
    refine G_cvp (fun a9 A9 => (a9 = some (.int (nI 0)) ∧ ∃ N' : MC, A9 = (hp K N' o, nc, ns) ∧ coM N' = coM M ∧ N'.1 7 = nI n ∧ kp N' N n ∧ ¬ Sat M s0 (msL M) (nvL M) (preX N m s0 n).2) ∨ (a9 = some (.int (nI 1)) ∧ ∃ N' : MC, A9 = (hp K N' o, nc, ns) ∧ coM N' = coM M ∧ Sat M s0 (msL M) (nvL M) (preX N m s0 n).2) ∨ (a9 = some (.int (nI 2)) ∧ ∃ (N' : MC) (h : Nat) (r : List Nat) (t : Nat), A9 = (hp K N' o, nc, ns) ∧ coM N' = coM M ∧ N'.1 7 = nI n ∧ kp N' N n ∧ N'.1 8 = nI h ∧ N'.2 52 h = nI t ∧ h < 270 ∧ t < 12 ∧ (preX N m s0 n).1[h]? = some (r, t) ∧ (preX N m s0 n).2 r = none ∧ r ∈ PL M)) (As := [.int (nI s0)]) d_M_has_102 cv_M_156 cw_M_look (ob_M K N o) np_M_look (Nat.le_of_ble_eq_true rfl) (Nat.le_of_ble_eq_true rfl) (fun post2 kq => c_look2 hE hc h7 (by omega) hok (fun N' q1 q2 q3 q4 => kq _ _ (Or.inl ⟨rfl, N', rfl, q1, q2, q3, q4⟩)) (fun N' q1 q2 => kq _ _ (Or.inr (Or.inl ⟨rfl, N', rfl, q1, q2⟩))) (fun N' h r t q1 q2 q3 q4 q5 q6 q7 q8 q9 q10 => kq _ _ (Or.inr (Or.inr ⟨rfl, N', h, r, t, rfl, q1, q2, q3, q4, q5, q6, q7, q8, q9, q10⟩)))) (fun a9 A9 h9 => by rcases h9 with ⟨-, N', rfl, -⟩ | ⟨-, N', rfl, -⟩ | ⟨-, N', h, r, t, rfl, -⟩ <;> rfl) (fun a9 A9 h9 => ?_)
    rcases h9 with ⟨rfl, N', rfl, hc1, h71, hk1, hns⟩ | ⟨rfl, N', rfl, hc1, hs⟩ | ⟨rfl, N', h, r, t, rfl, hc1, h71, hk1, h8, h52, h270, t12, hX1, hX2, hrP⟩
    · refine G_istore_n (ls' := [(2, .int (nI 0)), (0, .ref 38), (1, .int (nI s0))]) d_M_has_105 (by decide) rfl ?_
      refine G_iload_n 0 d_M_has_106 rfl ?_
      refine G_iconst (v := 1) d_M_has_107 (by decide) ?_
      refine G_icne 113 d_M_has_108 (by decide) (fun _ => ?_) (fun h => absurd h (by decide))
      refine G_iload_n 0 d_M_has_113 rfl ?_
      refine G_iconst (v := 2) d_M_has_114 (by decide) ?_
      refine G_icne 176 d_M_has_115 (by decide) (fun _ => ?_) (fun h => absurd h (by decide))
      exact G_sub [1, 2] rfl (kk N' hc1 h71 hk1 hns)
    · refine G_istore_n (ls' := [(2, .int (nI 1)), (0, .ref 38), (1, .int (nI s0))]) d_M_has_105 (by decide) rfl ?_
      refine G_iload_n 0 d_M_has_106 rfl ?_
      refine G_iconst (v := 1) d_M_has_107 (by decide) ?_
      refine G_icne 113 d_M_has_108 (by decide) (fun h => absurd h (by decide)) (fun _ => ?_)
      refine G_iconst (v := 1) d_M_has_111 (by decide) ?_
      exact G_zret d_M_has_112 rfl rfl (k1 N' hc1 hs)
    · have hmu1 := (mu_up (a := 0) hX2 (PL M)).2 hrP
      have wS := co_P wfS co_wfS hc1 hS
      have wC := co_P wfC co_wfC hc1 hC
      have hoE : oN N' m t = oN M m t := co_of (fun Q => oN Q m t) (fun _ => rfl) hc1
      have em : N'.1 11 = nI m := (co_of (fun N => N.1 11) (fun _ => rfl) hc1).trans hm
      refine G_istore_n (ls' := [(2, .int (nI 2)), (0, .ref 38), (1, .int (nI s0))]) d_M_has_105 (by decide) rfl ?_
      refine G_iload_n 0 d_M_has_106 rfl ?_
      refine G_iconst (v := 1) d_M_has_107 (by decide) ?_
      refine G_icne 113 d_M_has_108 (by decide) (fun _ => ?_) (fun h => absurd h (by decide))
      refine G_iload_n 0 d_M_has_113 rfl ?_
      refine G_iconst (v := 2) d_M_has_114 (by decide) ?_
      refine G_icne 176 d_M_has_115 (by decide) (fun h => absurd h (by decide)) (fun _ => ?_)
      refine G_aload_n 1 d_M_has_118 rfl ?_
      refine G_gt d_M_has_119 fr_M_66 (rd_M_holes K (N') o) ?_
      refine G_aload_n 1 d_M_has_122 rfl ?_
      refine G_gt d_M_has_123 fr_M_136 (rd_M_splits K (N') o) ?_
      rw [show (N').1 7 = nI n from h71]
      refine G_aload_n 1 d_M_has_126 rfl ?_
      refine G_gt d_M_has_127 fr_M_129 (rd_M_hole K (N') o) ?_
      rw [show (N').1 8 = nI h from h8]
      refine G_iasN d_M_has_130 (ar_56 K (N') o) (by decide) (by omega) (aw_56 K (N') o n (nI h)) ?_
      refine G_aload_n 1 d_M_has_131 rfl ?_
      refine G_gt d_M_has_132 fr_M_69 (rd_M_choice K (ma (N') 56 n (nI h)) o) ?_
      refine G_aload_n 1 d_M_has_135 rfl ?_
      refine G_gt d_M_has_136 fr_M_136 (rd_M_splits K (ma (N') 56 n (nI h)) o) ?_
      rw [show (ma (N') 56 n (nI h)).1 7 = nI n from h71]
      refine G_iconst (v := nI 0) d_M_has_139 (by decide) ?_
      refine G_iasN d_M_has_140 (ar_57 K (ma (N') 56 n (nI h)) o) (by decide) (by omega) (aw_57 K (ma (N') 56 n (nI h)) o n (nI 0)) ?_
      refine G_aload_n 1 d_M_has_141 rfl ?_
      refine G_gt d_M_has_142 fr_M_72 (rd_M_choices K (ma (ma (N') 56 n (nI h)) 57 n (nI 0)) o) ?_
      refine G_aload_n 1 d_M_has_145 rfl ?_
      refine G_gt d_M_has_146 fr_M_136 (rd_M_splits K (ma (ma (N') 56 n (nI h)) 57 n (nI 0)) o) ?_
      rw [show (ma (ma (N') 56 n (nI h)) 57 n (nI 0)).1 7 = nI n from h71]
      refine G_aload_n 1 d_M_has_149 rfl ?_
      refine G_aload_n 1 d_M_has_150 rfl ?_
      refine G_gt d_M_has_151 fr_M_54 (rd_M_nodeSort K (ma (ma (N') 56 n (nI h)) 57 n (nI 0)) o) ?_
      refine G_aload_n 1 d_M_has_154 rfl ?_
      refine G_gt d_M_has_155 fr_M_129 (rd_M_hole K (ma (ma (N') 56 n (nI h)) 57 n (nI 0)) o) ?_
      rw [show (ma (ma (N') 56 n (nI h)) 57 n (nI 0)).1 8 = nI h from h8]
      refine G_ialN d_M_has_158 (ar_52 K (ma (ma (N') 56 n (nI h)) 57 n (nI 0)) o) (by decide) (by omega) ?_
      rw [show (ma (ma (N') 56 n (nI h)) 57 n (nI 0)).2 52 h = nI t from h52]
      refine G_cv1 (some (.int (nI (oN M m t)))) (hp K (ma (ma (N') 56 n (nI h)) 57 n (nI 0)) o, nc, ns) (As := [.int (nI t)]) d_M_has_159 cv_M_159 cw_M_options (ob_M K (ma (ma (N') 56 n (nI h)) 57 n (nI 0)) o) np_M_options (Nat.le_of_ble_eq_true rfl) (Nat.le_of_ble_eq_true rfl) (fun post2 k2 => c_opt2 hE (t := t) ((co_ma (by omega)).trans ((co_ma (by omega)).trans hc1)) t12 k2) rfl ?_
      refine G_iasN d_M_has_162 (ar_58 K (ma (ma (N') 56 n (nI h)) 57 n (nI 0)) o) (by decide) (by omega) (aw_58 K (ma (ma (N') 56 n (nI h)) 57 n (nI 0)) o n (nI (oN M m t))) ?_
      refine G_aload_n 1 d_M_has_163 rfl ?_
      refine G_dup d_M_has_164 rfl ?_
      refine G_gt d_M_has_165 fr_M_136 (rd_M_splits K (ma (ma (ma (N') 56 n (nI h)) 57 n (nI 0)) 58 n (nI (oN M m t))) o) ?_
      rw [show (ma (ma (ma (N') 56 n (nI h)) 57 n (nI 0)) 58 n (nI (oN M m t))).1 7 = nI n from h71]
      refine G_iconst (v := 1) d_M_has_168 (by decide) ?_
      refine G_iadd d_M_has_169 ?_
      rw [nI_1]
      refine G_pt d_M_has_170 fp_M_136 (wr_M_splits K (ma (ma (ma (N') 56 n (nI h)) 57 n (nI 0)) 58 n (nI (oN M m t))) o (nI (n + 1))) ?_
      refine G_goto 100 d_M_has_173 (by decide) ?_
      have hlv : LV M t := by
        have := (xw.2.2.1 h r t hX1).2
        rw [co_of LV co_LV hc] at this; exact this
      have hXM : XW M s0 (preX N m s0 n) := co_P (fun Q => XW Q s0 (preX N m s0 n)) (fun Q => by show XW (coM Q) s0 _ = XW Q s0 _; unfold XW; rw [co_srt, co_LV, co_wfT]) hc.symm xw
      have ho : oN M m t ≤ 131 := by
        unfold oN; split
        · omega
        · have := optL_len M t (mC M); have := hC.2.1; omega
      refine G_sub [1, 2] rfl (l_M_hasJ (N0 := N) hE (by omega) hXM hX1 hX2 (by omega) (fun N1 j j1 j2 j3 j4 j5 j6 p1 pk => ?_) k1 kk (oN M m t + 1) 0 (mi (ma (ma (ma (N') 56 n (nI h)) 57 n (nI 0)) 58 n (nI (oN M m t))) 7 (nI (n + 1))) (oN_pos hC hL hlv) (by omega) ((co_mi (by omega)).trans ((co_ma (by omega)).trans ((co_ma (by omega)).trans ((co_ma (by omega)).trans hc1)))) rfl (fun i hi => ?_) (by simp [ma, mi, va_up, upd]) (by simp [ma, mi, va_up, upd]) (by simp [ma, mi, va_up, upd]) (fun c hc => absurd hc (Nat.not_lt_zero c)))
      · have hcc := j2.trans hc.symm
        have e1 := preX_kp (m := m) (s0 := s0) hcc n j4
        have e2 : preX N1 m s0 (n + 1) = stepX M m (preX N m s0 n) h j := by
          show stepX N1 m (preX N1 m s0 n) (hN N1 n) (jN N1 n) = _
          unfold hN jN
          rw [e1, j5, j6, nI_clamp (by omega), nI_clamp (by omega), co_of stepX co_stepX j2]
        obtain ⟨a9, e3⟩ := stepX_u (m := m) (M := M) hX1 j1
        have hmu := (mu_up (a := a9) hX2 (PL M)).2 hrP
        refine ih (n + 1) N1 (by omega) (by rw [e2, e3]; omega) j2 j3 (okPre_s (okPre_kp hcc j4 hok) (by rw [e1]; exact hX1) (by rw [e1]; exact hX2) j5 j6 (by omega) (by omega) ?_) (by rw [e2]; exact p1) (by rw [e2]; exact pk)
        rw [co_of (fun Q => oN Q m t) (fun _ => rfl) j2]; exact j1
      · have hne : i ≠ n := by omega
        have q : ∀ b, (mi (ma (ma (ma (N') 56 n (nI h)) 57 n (nI 0)) 58 n (nI (oN M m t))) 7 (nI (n + 1))).2 b i = N'.2 b i := fun b => by
          show (ma (ma (ma N' 56 n (nI h)) 57 n (nI 0)) 58 n (nI (oN M m t))).2 b i = _
          rw [ma_old hne, ma_old hne, ma_old hne]
        exact ⟨(q 56).trans (hk1 i hi).1, (q 57).trans (hk1 i hi).2.1, (q 58).trans (hk1 i hi).2.2⟩
