/-! the reference's methods that ask -/
def coR (M : MC) : MC := (fun k => if 6 ≤ k ∧ k ≤ 11 then 0 else M.1 k, fun a => if 50 ≤ a then (fun _ => 0) else M.2 a)
theorem cR_of {α : Type} (f : MC → α) (hf : ∀ N, f (coR N) = f N) {N M : MC} (h : coR N = coR M) : f N = f M := by rw [← hf N, h, hf M]
theorem cR_P (f : MC → Prop) (hf : ∀ N, f (coR N) = f N) {N M : MC} (h : coR N = coR M) (hM : f M) : f N := (cR_of f hf h).mpr hM
theorem coR_coH (N : MC) : coR (coH N) = coR N := by
  unfold coR coH
  refine Prod.ext (funext fun k => ?_) (funext fun a => ?_)
  · show (if 6 ≤ k ∧ k ≤ 11 then 0 else (if k = 6 ∨ k = 7 ∨ k = 8 ∨ k = 11 then 0 else N.1 k)) = (if 6 ≤ k ∧ k ≤ 11 then 0 else N.1 k)
    by_cases e : 6 ≤ k ∧ k ≤ 11
    · rw [if_pos e, if_pos e]
    · rw [if_neg e, if_neg e, if_neg (by omega)]
  · show (if 50 ≤ a then (fun _ => 0) else (if (50 ≤ a ∧ a ≤ 59) ∨ a = 62 then (fun _ => 0) else N.2 a)) = (if 50 ≤ a then (fun _ => 0) else N.2 a)
    by_cases e : 50 ≤ a
    · rw [if_pos e, if_pos e]
    · rw [if_neg e, if_neg e, if_neg (by omega)]
theorem cR_H {N M : MC} (h : coH N = coH M) : coR N = coR M := cH_of coR coR_coH h
theorem cR_mi {M : MC} {k : Nat} {v : Int32} (h : 6 ≤ k ∧ k ≤ 11) : coR (mi M k v) = coR M := by
  unfold coR
  refine Prod.ext (funext fun j => ?_) rfl
  show (if 6 ≤ j ∧ j ≤ 11 then 0 else upd M.1 k v j) = (if 6 ≤ j ∧ j ≤ 11 then 0 else M.1 j)
  by_cases e : 6 ≤ j ∧ j ≤ 11
  · rw [if_pos e, if_pos e]
  · rw [if_neg e, if_neg e]; exact pk_un (by omega)
theorem cR_up {M : MC} {a : Nat} {f : Nat → Int32} (h : 50 ≤ a) : coR (M.1, va_up M.2 a f) = coR M := by
  unfold coR
  refine Prod.ext rfl (funext fun b => ?_)
  show (if 50 ≤ b then (fun _ => 0) else va_up M.2 a f b) = (if 50 ≤ b then (fun _ => 0) else M.2 b)
  by_cases e : 50 ≤ b
  · rw [if_pos e, if_pos e]
  · rw [if_neg e, if_neg e]; exact va_up_ne _ _ (by omega)
theorem cR_ma {M : MC} {a i : Nat} {v : Int32} (h : 50 ≤ a) : coR (ma M a i v) = coR M := cR_up h
theorem cR_setL {M : MC} {L : Nat → Int32} : coR (setL M L) = coR M := cR_up (by omega)
theorem cR_askL (N : MC) : askL (coR N) = askL N := by
  funext f
  induction f with
  | zero => rfl
  | succ f ih =>
    funext p r
    show (if pk N p = 0 then [] else if pk N p = 1 then [(r, (N.2 45 p).toInt)] else (r, lab (pn N p)) :: ((if 1 ≤ cP N (pn N p) then askL (coR N) f (pf N p) (0 :: r) else []) ++ (if 2 ≤ cP N (pn N p) then askL (coR N) f (pg N p) (1 :: r) else []))) = _
    rw [ih]; rfl
theorem cR_fitT (N : MC) : fitT (coR N) = fitT N := by
  funext t p
  show (∀ x ∈ askL (coR N) 13 p [], _) = _
  rw [cR_askL]; rfl
theorem cR_misT (N : MC) : misT (coR N) = misT N := by
  funext t p
  show (∃ x ∈ askL (coR N) 13 p [], _) = _
  rw [cR_askL]; rfl
theorem cR_srt (N : MC) : srt (coR N) = srt N := by
  funext s t r
  cases r with
  | nil => rfl
  | cons k r => rfl
theorem cR_wfT (N : MC) : wfT (coR N) = wfT N := by
  funext s t
  show (∀ r a, t r = some a → ∃ s2, srt (coR N) s t r = some s2 ∧ okA N s2 a) = _
  rw [cR_srt]; rfl
theorem cR_Sat (N : MC) : Sat (coR N) = Sat N := by
  funext s0 ms nv u
  show (∃ t, extT u t ∧ wfT (coR N) s0 t ∧ (∀ p ∈ ms, fitT (coR N) t p) ∧ ∀ p ∈ nv, misT (coR N) t p) = _
  rw [cR_wfT, cR_fitT, cR_misT]; rfl
def HASL (M : MC) (s0 : Nat) (ms nv : List Nat) : Prop := LV M s0 ∧ Sat M s0 ms nv (fun _ => none)
theorem cR_HASL (N : MC) : HASL (coR N) = HASL N := by
  funext s0 ms nv
  show (LV N s0 ∧ Sat (coR N) s0 ms nv (fun _ => none)) = _
  rw [cR_Sat]; rfl
abbrev cl (M : MC) (i : Nat) : Nat := (M.2 49 i).toNatClampNeg
def wfK (M : MC) (cs k : Nat) : Prop := M.1 4 = nI k ∧ k ≤ 8 ∧ M.1 5 = nI cs ∧ cs < mS M ∧ ∀ i, i < k → M.2 49 i = nI (cl M i) ∧ cl M i < mP M ∧ ps M (cl M i) = cs
def REACH (M : MC) (cs i : Nat) : Prop := HASL M cs ((List.range 1).map (fun _ => cl M i)) ((List.range i).map (cl M))
def OPENS (M : MC) (cs k : Nat) : Prop := HASL M cs ((List.range 0).map (fun _ => 0)) ((List.range k).map (cl M))
theorem map_range_eq {f g : Nat → Nat} {n : Nat} (h : ∀ i, i < n → f i = g i) : (List.range n).map f = (List.range n).map g := List.map_congr_left (fun i hi => h i (List.mem_range.mp hi))
theorem c_has2 {K : KC} {M : MC} {o : Nat → Int64} {nc ns : Nat} {N : MC} {d s0 a b : Nat} {f g : Nat → Nat} (hS : wfS M) (hC : wfC M) (hP : wfP M) (hc : coR N = coR M) (hs : s0 < mS M) (h9 : N.1 9 = nI a) (ha : a ≤ 2) (h10 : N.1 10 = nI b) (hb : b ≤ 8) (hf : ∀ i, i < a → N.2 60 i = nI (f i) ∧ f i < mP M ∧ ps M (f i) = s0) (hg : ∀ i, i < b → N.2 61 i = nI (g i) ∧ g i < mP M ∧ ps M (g i) = s0) {post : mj_O → mj_H → Prop}
    (k1 : ∀ N', coR N' = coR M → HASL M s0 ((List.range a).map f) ((List.range b).map g) → post (.inl (some (.int 1))) (hp K N' o, nc, ns)) (k0 : ∀ N', coR N' = coR M → ¬ HASL M s0 ((List.range a).map f) ((List.range b).map g) → post (.inl (some (.int 0))) (hp K N' o, nc, ns)) : mj_G y_M_has b_M_has 3 (some .boolean) [] (d + 14) none 0 [(0, .ref 38), (1, .int (nI s0))] [] (hp K N o, nc, ns) post := by
  have h200 := hP.2.1
  have emP : mP N = mP M := cR_of mP (fun _ => rfl) hc
  have eps : ps N = ps M := cR_of ps (fun _ => rfl) hc
  have hQ : wfQ N s0 a b := by
    refine ⟨h9, ha, h10, hb, fun i hi => ⟨f i, ?_⟩, fun i hi => ⟨g i, ?_⟩⟩
    · rw [emP, eps]; exact hf i hi
    · rw [emP, eps]; exact hg i hi
  have em : msL N = (List.range a).map f := by
    unfold msL
    rw [h9, nI_clamp (by omega)]
    exact map_range_eq (fun i hi => by rw [(hf i hi).1, nI_clamp (by have := (hf i hi).2.1; omega)])
  have en : nvL N = (List.range b).map g := by
    unfold nvL
    rw [h10, nI_clamp (by omega)]
    exact map_range_eq (fun i hi => by rw [(hg i hi).1, nI_clamp (by have := (hg i hi).2.1; omega)])
  have eH : HAS N s0 = HASL M s0 ((List.range a).map f) ((List.range b).map g) := by
    unfold HAS HASL
    rw [em, en, cR_of LV (fun _ => rfl) hc, cR_of Sat cR_Sat hc]
  exact c_M_has (cR_P wfS (fun _ => rfl) hc hS) (cR_P wfC (fun _ => rfl) hc hC) (cR_P wfP (fun _ => rfl) hc hP) hQ (by rw [cR_of mS (fun _ => rfl) hc]; exact hs) (fun N' h1 h2 => k1 N' ((cR_H h1).trans hc) (by rw [← eH]; exact h2)) (fun N' h1 h2 => k0 N' ((cR_H h1).trans hc) (by rw [← eH]; exact h2))
theorem wf0S {M : MC} {v : Int32} (h : wfS M) : wfS (mi M 0 v) := h
theorem wf0C {M : MC} {v : Int32} (h : wfC M) : wfC (mi M 0 v) := h
theorem wf0P {M : MC} {v : Int32} (h : wfP M) : wfP (mi M 0 v) := h
theorem wf0K {M : MC} {v : Int32} {cs k : Nat} (h : wfK M cs k) : wfK (mi M 0 v) cs k := h
theorem meet_f {M N : MC} {p q : Nat} (h0 : N.2 60 0 = nI p) (h1 : N.2 60 1 = nI q) (hp1 : p < mP M) (hq1 : q < mP M) (hpq : ps M p = ps M q) : ∀ c, c < 2 → N.2 60 c = nI ((fun i => if i = 0 then p else q) c) ∧ (fun i => if i = 0 then p else q) c < mP M ∧ ps M ((fun i => if i = 0 then p else q) c) = ps M p := by
  intro c hc
  rcases (show c = 0 ∨ c = 1 by omega) with rfl | rfl
  · exact ⟨h0, hp1, rfl⟩
  · exact ⟨h1, hq1, hpq.symm⟩
set_option maxHeartbeats 600000 in
set_option maxRecDepth 100000 in
theorem l_M_reach {K : KC} {M : MC} {o : Nat → Int64} {nc ns : Nat} {d cs kk k : Nat} (hS : wfS M) (hC : wfC M) (hP : wfP M) (hK : wfK M cs kk) (hk : k < kk) {post : mj_O → mj_H → Prop} (k1 : ∀ N', coR N' = coR M → REACH M cs k → post (.inl (some (.int 1))) (hp K N' o, nc, ns)) (k0 : ∀ N', coR N' = coR M → ¬ REACH M cs k → post (.inl (some (.int 0))) (hp K N' o, nc, ns)) : ∀ (q i : Nat) (N : MC), i ≤ k → k < i + q → coR N = coR M → N.1 9 = nI 1 → N.2 60 0 = nI (cl M k) → N.1 10 = nI k → (∀ c, c < i → N.2 61 c = nI (cl M c)) → mj_G y_M_reaches b_M_reaches 3 (some .boolean) [] (d + 15) none 24 [(2, .int (nI i)), (0, .ref 38), (1, .int (nI k))] [] (hp K N o, nc, ns) post := by
  obtain ⟨e4, hk8, e5, hcs, hcl⟩ := hK
  intro q
  induction q with
  | zero => intro i N h1 h2; omega
  | succ q ih =>
    intro i N h1 h2 hc h9 h60 h10 h61
    refine G_iload_n 0 d_M_reaches_24 rfl ?_
    refine G_iload_n 2 d_M_reaches_25 rfl ?_
    refine G_icge 47 d_M_reaches_26 (by decide) (fun h26 => ?_) (fun h26 => ?_)
    · have h26 := (nI_leI (by omega) (by omega)).mp h26
      refine G_aload_n 1 d_M_reaches_47 rfl ?_
      refine G_aload_n 1 d_M_reaches_48 rfl ?_
      refine G_gt d_M_reaches_49 fr_M_110 (rd_M_clauseSort K N o) ?_
      rw [show N.1 5 = nI cs from (cR_of (fun Q => Q.1 5) (fun _ => rfl) hc).trans e5]
      refine G_cvp (fun a9 A9 => ∃ N' : MC, A9 = (hp K N' o, nc, ns) ∧ (coR N' = coR M) ∧ ((a9 = some (.int 1) ∧ (HASL M cs ((List.range 1).map (fun _ => cl M k)) ((List.range k).map (cl M)))) ∨ (a9 = some (.int 0) ∧ ¬ (HASL M cs ((List.range 1).map (fun _ => cl M k)) ((List.range k).map (cl M)))))) (As := [.int (nI cs)]) d_M_reaches_52 cv_M_162 cw_M_has (ob_M K N o) np_M_has (Nat.le_of_ble_eq_true rfl) (Nat.le_of_ble_eq_true rfl) (fun post2 kq => c_has2 (N := N) (f := fun _ => cl M k) (g := cl M) hS hC hP hc hcs h9 (by omega) h10 (by omega) (fun c hc2 => ⟨by rw [show c = 0 by omega]; exact h60, (hcl k hk).2⟩) (fun c hc2 => ⟨h61 c (by omega), (hcl c (by omega)).2⟩) (fun N9 g1 g2 => kq _ _ ⟨N9, rfl, g1, Or.inl ⟨rfl, g2⟩⟩) (fun N9 g1 g2 => kq _ _ ⟨N9, rfl, g1, Or.inr ⟨rfl, g2⟩⟩)) (fun a9 A9 h9 => by obtain ⟨N9, rfl, -⟩ := h9; rfl) (fun a9 A9 h9 => ?_)
      obtain ⟨N', rfl, hc52, ⟨rfl, u52⟩ | ⟨rfl, u52⟩⟩ := h9
      · exact G_zret d_M_reaches_55 rfl rfl (k1 N' hc52 u52)
      · exact G_zret d_M_reaches_55 rfl rfl (k0 N' hc52 u52)
    · have h26 : ¬ _ := fun z => h26 ((nI_leI (by omega) (by omega)).mpr z)
      refine G_aload_n 1 d_M_reaches_29 rfl ?_
      refine G_gt d_M_reaches_30 fr_M_81 (rd_M_never K N o) ?_
      refine G_iload_n 0 d_M_reaches_33 rfl ?_
      refine G_aload_n 1 d_M_reaches_34 rfl ?_
      refine G_gt d_M_reaches_35 fr_M_44 (rd_M_clause K N o) ?_
      refine G_iload_n 0 d_M_reaches_38 rfl ?_
      refine G_ialN d_M_reaches_39 (ar_49 K N o) (by decide) (by omega) ?_
      rw [show N.2 49 i = nI (cl M i) from (congrFun (cR_of (fun Q => Q.2 49) (fun _ => rfl) hc) i).trans (hcl i (by omega)).1]
      refine G_iasN d_M_reaches_40 (ar_61 K N o) (by decide) (by omega) (aw_61 K N o i (nI (cl M i))) ?_
      refine G_iinc 0 (v := nI (i + 1)) (ls' := [(2, .int (nI (i + 1))), (0, .ref 38), (1, .int (nI k))]) d_M_reaches_41 rfl (nI_1 _) (by decide) rfl ?_
      refine G_goto 24 d_M_reaches_44 (by decide) ?_
      exact ih (i + 1) _ (by omega) (by omega) ((cR_ma (by omega)).trans hc) h9 h60 h10 (fun c hc2 => (Nat.lt_succ_iff_lt_or_eq.mp hc2).elim (fun z => (ma_old (by omega)).trans (h61 c z)) (fun z => by subst z; exact pk_us))
set_option maxHeartbeats 600000 in
set_option maxRecDepth 100000 in
theorem c_M_reaches {K : KC} {M : MC} {o : Nat → Int64} {nc ns : Nat} {d cs kk k : Nat} (hS : wfS M) (hC : wfC M) (hP : wfP M) (hK : wfK M cs kk) (hk : k < kk) {post : mj_O → mj_H → Prop} (k1 : ∀ N', coR N' = coR M → REACH M cs k → post (.inl (some (.int 1))) (hp K N' o, nc, ns)) (k0 : ∀ N', coR N' = coR M → ¬ REACH M cs k → post (.inl (some (.int 0))) (hp K N' o, nc, ns)) : mj_G y_M_reaches b_M_reaches 3 (some .boolean) [] (d + 15) none 0 [(0, .ref 38), (1, .int (nI k))] [] (hp K M o, nc, ns) post := by
  obtain ⟨e4, hk8, e5, hcs, hcl⟩ := id hK
  refine G_aload_n 0 d_M_reaches_0 rfl ?_
  refine G_iconst (v := nI 1) d_M_reaches_1 (by decide) ?_
  refine G_pt d_M_reaches_2 fp_M_143 (wr_M_musts K M o (nI 1)) ?_
  refine G_aload_n 0 d_M_reaches_5 rfl ?_
  refine G_gt d_M_reaches_6 fr_M_78 (rd_M_must K (mi M 9 (nI 1)) o) ?_
  refine G_iconst (v := nI 0) d_M_reaches_9 (by decide) ?_
  refine G_aload_n 0 d_M_reaches_10 rfl ?_
  refine G_gt d_M_reaches_11 fr_M_44 (rd_M_clause K (mi M 9 (nI 1)) o) ?_
  refine G_iload_n 1 d_M_reaches_14 rfl ?_
  refine G_ialN d_M_reaches_15 (ar_49 K (mi M 9 (nI 1)) o) (by decide) (by omega) ?_
  rw [show (mi M 9 (nI 1)).2 49 k = nI (cl M k) from (hcl k hk).1]
  refine G_iasN d_M_reaches_16 (ar_60 K (mi M 9 (nI 1)) o) (by decide) (by omega) (aw_60 K (mi M 9 (nI 1)) o 0 (nI (cl M k))) ?_
  refine G_aload_n 0 d_M_reaches_17 rfl ?_
  refine G_iload_n 1 d_M_reaches_18 rfl ?_
  refine G_pt d_M_reaches_19 fp_M_146 (wr_M_nevers K (ma (mi M 9 (nI 1)) 60 0 (nI (cl M k))) o (nI k)) ?_
  refine G_iconst (v := nI 0) d_M_reaches_22 (by decide) ?_
  refine G_istore_n (ls' := [(2, .int (nI 0)), (0, .ref 38), (1, .int (nI k))]) d_M_reaches_23 (by decide) rfl ?_
  exact l_M_reach hS hC hP hK hk k1 k0 (k + 1) 0 (mi (ma (mi M 9 (nI 1)) 60 0 (nI (cl M k))) 10 (nI k)) (by omega) (by omega) ((cR_mi (by omega)).trans ((cR_ma (by omega)).trans (cR_mi (by omega)))) rfl (by simp [ma, mi, va_up, upd]) rfl (fun c hc => absurd hc (Nat.not_lt_zero c))
set_option maxHeartbeats 600000 in
set_option maxRecDepth 100000 in
theorem c_M_takes {K : KC} {M : MC} {o : Nat → Int64} {nc ns : Nat} {d cs kk : Nat} (x : Int32) (hS : wfS M) (hC : wfC M) (hP : wfP M) (hK : wfK M cs kk) {post : mj_O → mj_H → Prop} (kn : (x < 0 ∨ nI kk ≤ x) → post (.inl (some (.int 0))) (hp K (mi M 0 1) o, nc, ns)) (k1 : ∀ k, k < kk → x = nI k → ∀ N', coR N' = coR (mi M 0 0) → REACH (mi M 0 0) cs k → post (.inl (some (.int 1))) (hp K N' o, nc, ns)) (k0 : ∀ k, k < kk → x = nI k → ∀ N', coR N' = coR (mi M 0 0) → ¬ REACH (mi M 0 0) cs k → post (.inl (some (.int 0))) (hp K N' o, nc, ns)) : mj_G y_M_takes b_M_takes 2 (some .boolean) [] (d + 16) none 0 [(0, .ref 38), (1, .int x)] [] (hp K M o, nc, ns) post := by
  have hk8 := hK.2.1
  refine G_aload_n 0 d_M_takes_0 rfl ?_
  refine G_iload_n 1 d_M_takes_1 rfl ?_
  refine G_iflt 17 d_M_takes_2 (by decide) (fun h2 => ?_) (fun h2 => ?_)
  · refine G_iconst (v := 1) d_M_takes_17 (by decide) ?_
    refine G_pt d_M_takes_18 fp_M_87 (wr_M_thrown K M o 1) ?_
    refine G_aload_n 0 d_M_takes_21 rfl ?_
    refine G_gt d_M_takes_22 fr_M_87 (rd_M_thrown K (mi M 0 1) o) ?_
    rw [show (mi M 0 1).1 0 = 1 from rfl]
    refine G_ifne 40 d_M_takes_25 (by decide) (fun _ => ?_) (fun h => absurd h (by decide))
    refine G_iconst (v := 0) d_M_takes_40 (by decide) ?_
    exact G_zret d_M_takes_41 rfl rfl (kn (Or.inl h2))
  · refine G_iload_n 1 d_M_takes_5 rfl ?_
    refine G_aload_n 0 d_M_takes_6 rfl ?_
    refine G_gt d_M_takes_7 fr_M_107 (rd_M_clauses K M o) ?_
    rw [show M.1 4 = nI kk from hK.1]
    refine G_icge 17 d_M_takes_10 (by decide) (fun h10 => ?_) (fun h10 => ?_)
    · refine G_iconst (v := 1) d_M_takes_17 (by decide) ?_
      refine G_pt d_M_takes_18 fp_M_87 (wr_M_thrown K M o 1) ?_
      refine G_aload_n 0 d_M_takes_21 rfl ?_
      refine G_gt d_M_takes_22 fr_M_87 (rd_M_thrown K (mi M 0 1) o) ?_
      rw [show (mi M 0 1).1 0 = 1 from rfl]
      refine G_ifne 40 d_M_takes_25 (by decide) (fun _ => ?_) (fun h => absurd h (by decide))
      refine G_iconst (v := 0) d_M_takes_40 (by decide) ?_
      exact G_zret d_M_takes_41 rfl rfl (kn (Or.inr h10))
    · obtain ⟨k, hk, rfl⟩ := ix_of (n := kk) (by omega) ⟨Int32.not_lt.mp h2, Int32.not_le.mp h10⟩
      refine G_iconst (v := 0) d_M_takes_13 (by decide) ?_
      refine G_goto 18 d_M_takes_14 (by decide) ?_
      refine G_pt d_M_takes_18 fp_M_87 (wr_M_thrown K M o 0) ?_
      refine G_aload_n 0 d_M_takes_21 rfl ?_
      refine G_gt d_M_takes_22 fr_M_87 (rd_M_thrown K (mi M 0 0) o) ?_
      rw [show (mi M 0 0).1 0 = 0 from rfl]
      refine G_ifne 40 d_M_takes_25 (by decide) (fun h => absurd h (by decide)) (fun _ => ?_)
      refine G_aload_n 0 d_M_takes_28 rfl ?_
      refine G_iload_n 1 d_M_takes_29 rfl ?_
      refine G_cvp (fun a9 A9 => ∃ N' : MC, A9 = (hp K N' o, nc, ns) ∧ (coR N' = coR (mi M 0 0)) ∧ ((a9 = some (.int 1) ∧ (REACH (mi M 0 0) cs k)) ∨ (a9 = some (.int 0) ∧ ¬ (REACH (mi M 0 0) cs k)))) (As := [.int (nI k)]) d_M_takes_30 cv_M_165 cw_M_reaches (ob_M K (mi M 0 0) o) np_M_reaches (Nat.le_of_ble_eq_true rfl) (Nat.le_of_ble_eq_true rfl) (fun post2 kq => c_M_reaches (M := mi M 0 0) (wf0S hS) (wf0C hC) (wf0P hP) (wf0K hK) hk (fun N9 g1 g2 => kq _ _ ⟨N9, rfl, g1, Or.inl ⟨rfl, g2⟩⟩) (fun N9 g1 g2 => kq _ _ ⟨N9, rfl, g1, Or.inr ⟨rfl, g2⟩⟩)) (fun a9 A9 h9 => by obtain ⟨N9, rfl, -⟩ := h9; rfl) (fun a9 A9 h9 => ?_)
      obtain ⟨N', rfl, hc30, ⟨rfl, u30⟩ | ⟨rfl, u30⟩⟩ := h9
      · refine G_ifeq 40 d_M_takes_33 (by decide) (fun h => absurd h (by decide)) (fun _ => ?_)
        refine G_iconst (v := 1) d_M_takes_36 (by decide) ?_
        refine G_goto 41 d_M_takes_37 (by decide) ?_
        exact G_zret d_M_takes_41 rfl rfl (k1 k hk rfl N' hc30 u30)
      · refine G_ifeq 40 d_M_takes_33 (by decide) (fun _ => ?_) (fun h => absurd h (by decide))
        refine G_iconst (v := 0) d_M_takes_40 (by decide) ?_
        exact G_zret d_M_takes_41 rfl rfl (k0 k hk rfl N' hc30 u30)
set_option maxHeartbeats 600000 in
set_option maxRecDepth 100000 in
theorem l_M_open {K : KC} {M : MC} {o : Nat → Int64} {nc ns : Nat} {d cs k : Nat} (hS : wfS M) (hC : wfC M) (hP : wfP M) (hK : wfK M cs k) {post : mj_O → mj_H → Prop} (k1 : ∀ N', coR N' = coR M → OPENS M cs k → post (.inl (some (.int 1))) (hp K N' o, nc, ns)) (k0 : ∀ N', coR N' = coR M → ¬ OPENS M cs k → post (.inl (some (.int 0))) (hp K N' o, nc, ns)) : ∀ (q i : Nat) (N : MC), i ≤ k → k < i + q → coR N = coR M → N.1 9 = nI 0 → N.1 10 = nI k → (∀ c, c < i → N.2 61 c = nI (cl M c)) → mj_G y_M_open b_M_open 2 (some .boolean) [] (d + 15) none 20 [(1, .int (nI i)), (0, .ref 38)] [] (hp K N o, nc, ns) post := by
  obtain ⟨e4, hk8, e5, hcs, hcl⟩ := hK
  intro q
  induction q with
  | zero => intro i N h1 h2; omega
  | succ q ih =>
    intro i N h1 h2 hc h9 h10 h61
    refine G_iload_n 0 d_M_open_20 rfl ?_
    refine G_aload_n 1 d_M_open_21 rfl ?_
    refine G_gt d_M_open_22 fr_M_107 (rd_M_clauses K N o) ?_
    rw [show N.1 4 = nI k from (cR_of (fun Q => Q.1 4) (fun _ => rfl) hc).trans e4]
    refine G_icge 46 d_M_open_25 (by decide) (fun h25 => ?_) (fun h25 => ?_)
    · have h25 := (nI_leI (by omega) (by omega)).mp h25
      refine G_aload_n 1 d_M_open_46 rfl ?_
      refine G_aload_n 1 d_M_open_47 rfl ?_
      refine G_gt d_M_open_48 fr_M_110 (rd_M_clauseSort K N o) ?_
      rw [show N.1 5 = nI cs from (cR_of (fun Q => Q.1 5) (fun _ => rfl) hc).trans e5]
      refine G_cvp (fun a9 A9 => ∃ N' : MC, A9 = (hp K N' o, nc, ns) ∧ (coR N' = coR M) ∧ ((a9 = some (.int 1) ∧ (HASL M cs ((List.range 0).map (fun _ => 0)) ((List.range k).map (cl M)))) ∨ (a9 = some (.int 0) ∧ ¬ (HASL M cs ((List.range 0).map (fun _ => 0)) ((List.range k).map (cl M)))))) (As := [.int (nI cs)]) d_M_open_51 cv_M_162 cw_M_has (ob_M K N o) np_M_has (Nat.le_of_ble_eq_true rfl) (Nat.le_of_ble_eq_true rfl) (fun post2 kq => c_has2 (N := N) (f := fun _ => 0) (g := cl M) hS hC hP hc hcs h9 (by omega) h10 (by omega) (fun c hc2 => absurd hc2 (Nat.not_lt_zero c)) (fun c hc2 => ⟨h61 c (by omega), (hcl c (by omega)).2⟩) (fun N9 g1 g2 => kq _ _ ⟨N9, rfl, g1, Or.inl ⟨rfl, g2⟩⟩) (fun N9 g1 g2 => kq _ _ ⟨N9, rfl, g1, Or.inr ⟨rfl, g2⟩⟩)) (fun a9 A9 h9 => by obtain ⟨N9, rfl, -⟩ := h9; rfl) (fun a9 A9 h9 => ?_)
      obtain ⟨N', rfl, hc51, ⟨rfl, u51⟩ | ⟨rfl, u51⟩⟩ := h9
      · exact G_zret d_M_open_54 rfl rfl (k1 N' hc51 u51)
      · exact G_zret d_M_open_54 rfl rfl (k0 N' hc51 u51)
    · have h25 : ¬ _ := fun z => h25 ((nI_leI (by omega) (by omega)).mpr z)
      refine G_aload_n 1 d_M_open_28 rfl ?_
      refine G_gt d_M_open_29 fr_M_81 (rd_M_never K N o) ?_
      refine G_iload_n 0 d_M_open_32 rfl ?_
      refine G_aload_n 1 d_M_open_33 rfl ?_
      refine G_gt d_M_open_34 fr_M_44 (rd_M_clause K N o) ?_
      refine G_iload_n 0 d_M_open_37 rfl ?_
      refine G_ialN d_M_open_38 (ar_49 K N o) (by decide) (by omega) ?_
      rw [show N.2 49 i = nI (cl M i) from (congrFun (cR_of (fun Q => Q.2 49) (fun _ => rfl) hc) i).trans (hcl i (by omega)).1]
      refine G_iasN d_M_open_39 (ar_61 K N o) (by decide) (by omega) (aw_61 K N o i (nI (cl M i))) ?_
      refine G_iinc 0 (v := nI (i + 1)) (ls' := [(1, .int (nI (i + 1))), (0, .ref 38)]) d_M_open_40 rfl (nI_1 _) (by decide) rfl ?_
      refine G_goto 20 d_M_open_43 (by decide) ?_
      exact ih (i + 1) _ (by omega) (by omega) ((cR_ma (by omega)).trans hc) h9 h10 (fun c hc2 => (Nat.lt_succ_iff_lt_or_eq.mp hc2).elim (fun z => (ma_old (by omega)).trans (h61 c z)) (fun z => by subst z; exact pk_us))
set_option maxHeartbeats 600000 in
set_option maxRecDepth 100000 in
theorem c_M_open {K : KC} {M : MC} {o : Nat → Int64} {nc ns : Nat} {d cs k : Nat} (hS : wfS M) (hC : wfC M) (hP : wfP M) (hK : wfK M cs k) {post : mj_O → mj_H → Prop} (k1 : ∀ N', coR N' = coR (mi M 0 0) → OPENS (mi M 0 0) cs k → post (.inl (some (.int 1))) (hp K N' o, nc, ns)) (k0 : ∀ N', coR N' = coR (mi M 0 0) → ¬ OPENS (mi M 0 0) cs k → post (.inl (some (.int 0))) (hp K N' o, nc, ns)) : mj_G y_M_open b_M_open 2 (some .boolean) [] (d + 15) none 0 [(0, .ref 38)] [] (hp K M o, nc, ns) post := by
  refine G_aload_n 0 d_M_open_0 rfl ?_
  refine G_iconst (v := 0) d_M_open_1 (by decide) ?_
  refine G_pt d_M_open_2 fp_M_87 (wr_M_thrown K M o 0) ?_
  refine G_aload_n 0 d_M_open_5 rfl ?_
  refine G_iconst (v := nI 0) d_M_open_6 (by decide) ?_
  refine G_pt d_M_open_7 fp_M_143 (wr_M_musts K (mi M 0 0) o (nI 0)) ?_
  refine G_aload_n 0 d_M_open_10 rfl ?_
  refine G_aload_n 0 d_M_open_11 rfl ?_
  refine G_gt d_M_open_12 fr_M_107 (rd_M_clauses K (mi (mi M 0 0) 9 (nI 0)) o) ?_
  rw [show (mi (mi M 0 0) 9 (nI 0)).1 4 = nI k from hK.1]
  refine G_pt d_M_open_15 fp_M_146 (wr_M_nevers K (mi (mi M 0 0) 9 (nI 0)) o (nI k)) ?_
  refine G_iconst (v := nI 0) d_M_open_18 (by decide) ?_
  refine G_istore_n (ls' := [(1, .int (nI 0)), (0, .ref 38)]) d_M_open_19 (by decide) rfl ?_
  exact l_M_open (M := mi M 0 0) (wf0S hS) (wf0C hC) (wf0P hP) (wf0K hK) k1 k0 (k + 1) 0 (mi (mi (mi M 0 0) 9 (nI 0)) 10 (nI k)) (by omega) (by omega) ((cR_mi (by omega)).trans (cR_mi (by omega))) rfl rfl (fun c hc => absurd hc (Nat.not_lt_zero c))
def COVQ (M : MC) (p q : Nat) : Prop := HASL M (ps M p) ((List.range 1).map (fun _ => q)) ((List.range 1).map (fun _ => p))
set_option maxHeartbeats 600000 in
set_option maxRecDepth 100000 in
theorem c_M_covers {K : KC} {M : MC} {o : Nat → Int64} {nc ns : Nat} {d : Nat} (x1 x2 : Int32) (hS : wfS M) (hC : wfC M) (hP : wfP M) {post : mj_O → mj_H → Prop} (kn : ¬ aL M x1 x2 → post (.inl (some (.int 0))) (hp K (mi M 0 1) o, nc, ns)) (k0 : ∀ p q, p < mP M → q < mP M → x1 = nI p → x2 = nI q → ps M p = ps M q → ∀ N', coR N' = coR (mi M 0 0) → COVQ (mi M 0 0) p q → post (.inl (some (.int 0))) (hp K N' o, nc, ns)) (k1 : ∀ p q, p < mP M → q < mP M → x1 = nI p → x2 = nI q → ps M p = ps M q → ∀ N', coR N' = coR (mi M 0 0) → ¬ COVQ (mi M 0 0) p q → post (.inl (some (.int 1))) (hp K N' o, nc, ns)) : mj_G y_M_covers b_M_covers 3 (some .boolean) [] (d + 15) none 0 [(0, .ref 38), (1, .int x1), (2, .int x2)] [] (hp K M o, nc, ns) post := by
  refine G_aload_n 0 d_M_covers_0 rfl ?_
  refine G_aload_n 0 d_M_covers_1 rfl ?_
  refine G_iload_n 1 d_M_covers_2 rfl ?_
  refine G_iload_n 2 d_M_covers_3 rfl ?_
  refine G_cvB (aL M x1 x2) (As := [.int x1, .int x2]) d_M_covers_4 cv_M_168 cw_M_areLike (ob_M K M o) np_M_areLike (Nat.le_of_ble_eq_true rfl) (Nat.le_of_ble_eq_true rfl) (fun post2 k1 k0 => c_M_areLike x1 x2 hP k1 k0) (fun u4 => ?_) (fun u4 => ?_)
  · obtain ⟨p, hp1, rfl⟩ := iP_of hP u4.1
    obtain ⟨q, hq1, rfl⟩ := iP_of hP u4.2.1
    have q200 := hP.2.1
    have hpq : ps M p = ps M q := by have z := u4.2.2; rw [nI_clamp (by omega), nI_clamp (by omega)] at z; exact congrArg Int32.toNatClampNeg z
    have hsp := (hP.2.2 p hp1).2.1
    refine G_ifeq 14 d_M_covers_7 (by decide) (fun h => absurd h (by decide)) (fun _ => ?_)
    refine G_iconst (v := 0) d_M_covers_10 (by decide) ?_
    refine G_goto 15 d_M_covers_11 (by decide) ?_
    refine G_pt d_M_covers_15 fp_M_87 (wr_M_thrown K M o 0) ?_
    refine G_aload_n 0 d_M_covers_18 rfl ?_
    refine G_gt d_M_covers_19 fr_M_87 (rd_M_thrown K (mi M 0 0) o) ?_
    rw [show (mi M 0 0).1 0 = 0 from rfl]
    refine G_ifle 27 d_M_covers_22 (by decide) (fun _ => ?_) (fun h => absurd h (by decide))
    refine G_aload_n 0 d_M_covers_27 rfl ?_
    refine G_iconst (v := nI 1) d_M_covers_28 (by decide) ?_
    refine G_pt d_M_covers_29 fp_M_143 (wr_M_musts K (mi M 0 0) o (nI 1)) ?_
    refine G_aload_n 0 d_M_covers_32 rfl ?_
    refine G_gt d_M_covers_33 fr_M_78 (rd_M_must K (mi (mi M 0 0) 9 (nI 1)) o) ?_
    refine G_iconst (v := nI 0) d_M_covers_36 (by decide) ?_
    refine G_iload_n 2 d_M_covers_37 rfl ?_
    refine G_iasN d_M_covers_38 (ar_60 K (mi (mi M 0 0) 9 (nI 1)) o) (by decide) (by omega) (aw_60 K (mi (mi M 0 0) 9 (nI 1)) o 0 (nI q)) ?_
    refine G_aload_n 0 d_M_covers_39 rfl ?_
    refine G_iconst (v := nI 1) d_M_covers_40 (by decide) ?_
    refine G_pt d_M_covers_41 fp_M_146 (wr_M_nevers K (ma (mi (mi M 0 0) 9 (nI 1)) 60 0 (nI q)) o (nI 1)) ?_
    refine G_aload_n 0 d_M_covers_44 rfl ?_
    refine G_gt d_M_covers_45 fr_M_81 (rd_M_never K (mi (ma (mi (mi M 0 0) 9 (nI 1)) 60 0 (nI q)) 10 (nI 1)) o) ?_
    refine G_iconst (v := nI 0) d_M_covers_48 (by decide) ?_
    refine G_iload_n 1 d_M_covers_49 rfl ?_
    refine G_iasN d_M_covers_50 (ar_61 K (mi (ma (mi (mi M 0 0) 9 (nI 1)) 60 0 (nI q)) 10 (nI 1)) o) (by decide) (by omega) (aw_61 K (mi (ma (mi (mi M 0 0) 9 (nI 1)) 60 0 (nI q)) 10 (nI 1)) o 0 (nI p)) ?_
    refine G_aload_n 0 d_M_covers_51 rfl ?_
    refine G_aload_n 0 d_M_covers_52 rfl ?_
    refine G_gt d_M_covers_53 fr_M_29 (rd_M_sortOf K (ma (mi (ma (mi (mi M 0 0) 9 (nI 1)) 60 0 (nI q)) 10 (nI 1)) 61 0 (nI p)) o) ?_
    refine G_iload_n 1 d_M_covers_56 rfl ?_
    refine G_ialN d_M_covers_57 (ar_44 K (ma (mi (ma (mi (mi M 0 0) 9 (nI 1)) 60 0 (nI q)) 10 (nI 1)) 61 0 (nI p)) o) (by decide) (by omega) ?_
    rw [show (ma (mi (ma (mi (mi M 0 0) 9 (nI 1)) 60 0 (nI q)) 10 (nI 1)) 61 0 (nI p)).2 44 p = nI (ps M p) from hsp.1]
    refine G_cvp (fun a9 A9 => ∃ N' : MC, A9 = (hp K N' o, nc, ns) ∧ (coR N' = coR (mi M 0 0)) ∧ ((a9 = some (.int 1) ∧ (COVQ (mi M 0 0) p q)) ∨ (a9 = some (.int 0) ∧ ¬ (COVQ (mi M 0 0) p q)))) (As := [.int (nI (ps M p))]) d_M_covers_58 cv_M_162 cw_M_has (ob_M K (ma (mi (ma (mi (mi M 0 0) 9 (nI 1)) 60 0 (nI q)) 10 (nI 1)) 61 0 (nI p)) o) np_M_has (Nat.le_of_ble_eq_true rfl) (Nat.le_of_ble_eq_true rfl) (fun post2 kq => c_has2 (M := mi M 0 0) (N := ma (mi (ma (mi (mi M 0 0) 9 (nI 1)) 60 0 (nI q)) 10 (nI 1)) 61 0 (nI p)) (f := fun _ => q) (g := fun _ => p) (wf0S hS) (wf0C hC) (wf0P hP) ((cR_ma (by omega)).trans ((cR_mi (by omega)).trans ((cR_ma (by omega)).trans (cR_mi (by omega))))) hsp.2 rfl (by omega) rfl (by omega) (fun c hc2 => ⟨by rw [show c = 0 by omega]; rfl, hq1, hpq.symm⟩) (fun c hc2 => ⟨by rw [show c = 0 by omega]; rfl, hp1, rfl⟩) (fun N9 g1 g2 => kq _ _ ⟨N9, rfl, g1, Or.inl ⟨rfl, g2⟩⟩) (fun N9 g1 g2 => kq _ _ ⟨N9, rfl, g1, Or.inr ⟨rfl, g2⟩⟩)) (fun a9 A9 h9 => by obtain ⟨N9, rfl, -⟩ := h9; rfl) (fun a9 A9 h9 => ?_)
    obtain ⟨N', rfl, hc58, ⟨rfl, u58⟩ | ⟨rfl, u58⟩⟩ := h9
    · refine G_ifne 68 d_M_covers_61 (by decide) (fun _ => ?_) (fun h => absurd h (by decide))
      refine G_iconst (v := 0) d_M_covers_68 (by decide) ?_
      exact G_zret d_M_covers_69 rfl rfl (k0 p q hp1 hq1 rfl rfl hpq N' hc58 u58)
    · refine G_ifne 68 d_M_covers_61 (by decide) (fun h => absurd h (by decide)) (fun _ => ?_)
      refine G_iconst (v := 1) d_M_covers_64 (by decide) ?_
      refine G_goto 69 d_M_covers_65 (by decide) ?_
      exact G_zret d_M_covers_69 rfl rfl (k1 p q hp1 hq1 rfl rfl hpq N' hc58 u58)
  · refine G_ifeq 14 d_M_covers_7 (by decide) (fun _ => ?_) (fun h => absurd h (by decide))
    refine G_iconst (v := 1) d_M_covers_14 (by decide) ?_
    refine G_pt d_M_covers_15 fp_M_87 (wr_M_thrown K M o 1) ?_
    refine G_aload_n 0 d_M_covers_18 rfl ?_
    refine G_gt d_M_covers_19 fr_M_87 (rd_M_thrown K (mi M 0 1) o) ?_
    rw [show (mi M 0 1).1 0 = 1 from rfl]
    refine G_ifle 27 d_M_covers_22 (by decide) (fun h => absurd h (by decide)) (fun _ => ?_)
    refine G_iconst (v := 0) d_M_covers_25 (by decide) ?_
    exact G_zret d_M_covers_26 rfl rfl (kn u4)
def MEETQ (M : MC) (p q : Nat) : Prop := HASL M (ps M p) ((List.range 2).map (fun i => if i = 0 then p else q)) ((List.range 0).map (fun _ => 0))
set_option maxHeartbeats 600000 in
set_option maxRecDepth 100000 in
theorem c_M_meets {K : KC} {M : MC} {o : Nat → Int64} {nc ns : Nat} {d : Nat} (x1 x2 : Int32) (hS : wfS M) (hC : wfC M) (hP : wfP M) {post : mj_O → mj_H → Prop} (kn : ¬ aL M x1 x2 → post (.inl (some (.int 0))) (hp K (mi M 0 1) o, nc, ns)) (k1 : ∀ p q, p < mP M → q < mP M → x1 = nI p → x2 = nI q → ps M p = ps M q → ∀ N', coR N' = coR (mi M 0 0) → MEETQ (mi M 0 0) p q → post (.inl (some (.int 1))) (hp K N' o, nc, ns)) (k0 : ∀ p q, p < mP M → q < mP M → x1 = nI p → x2 = nI q → ps M p = ps M q → ∀ N', coR N' = coR (mi M 0 0) → ¬ MEETQ (mi M 0 0) p q → post (.inl (some (.int 0))) (hp K N' o, nc, ns)) : mj_G y_M_meets b_M_meets 3 (some .boolean) [] (d + 15) none 0 [(0, .ref 38), (1, .int x1), (2, .int x2)] [] (hp K M o, nc, ns) post := by
  refine G_aload_n 0 d_M_meets_0 rfl ?_
  refine G_aload_n 0 d_M_meets_1 rfl ?_
  refine G_iload_n 1 d_M_meets_2 rfl ?_
  refine G_iload_n 2 d_M_meets_3 rfl ?_
  refine G_cvB (aL M x1 x2) (As := [.int x1, .int x2]) d_M_meets_4 cv_M_168 cw_M_areLike (ob_M K M o) np_M_areLike (Nat.le_of_ble_eq_true rfl) (Nat.le_of_ble_eq_true rfl) (fun post2 k1 k0 => c_M_areLike x1 x2 hP k1 k0) (fun u4 => ?_) (fun u4 => ?_)
  · obtain ⟨p, hp1, rfl⟩ := iP_of hP u4.1
    obtain ⟨q, hq1, rfl⟩ := iP_of hP u4.2.1
    have q200 := hP.2.1
    have hpq : ps M p = ps M q := by have z := u4.2.2; rw [nI_clamp (by omega), nI_clamp (by omega)] at z; exact congrArg Int32.toNatClampNeg z
    have hsp := (hP.2.2 p hp1).2.1
    refine G_ifeq 14 d_M_meets_7 (by decide) (fun h => absurd h (by decide)) (fun _ => ?_)
    refine G_iconst (v := 0) d_M_meets_10 (by decide) ?_
    refine G_goto 15 d_M_meets_11 (by decide) ?_
    refine G_pt d_M_meets_15 fp_M_87 (wr_M_thrown K M o 0) ?_
    refine G_aload_n 0 d_M_meets_18 rfl ?_
    refine G_gt d_M_meets_19 fr_M_87 (rd_M_thrown K (mi M 0 0) o) ?_
    rw [show (mi M 0 0).1 0 = 0 from rfl]
    refine G_ifle 27 d_M_meets_22 (by decide) (fun _ => ?_) (fun h => absurd h (by decide))
    refine G_aload_n 0 d_M_meets_27 rfl ?_
    refine G_iconst (v := nI 2) d_M_meets_28 (by decide) ?_
    refine G_pt d_M_meets_29 fp_M_143 (wr_M_musts K (mi M 0 0) o (nI 2)) ?_
    refine G_aload_n 0 d_M_meets_32 rfl ?_
    refine G_gt d_M_meets_33 fr_M_78 (rd_M_must K (mi (mi M 0 0) 9 (nI 2)) o) ?_
    refine G_iconst (v := nI 0) d_M_meets_36 (by decide) ?_
    refine G_iload_n 1 d_M_meets_37 rfl ?_
    refine G_iasN d_M_meets_38 (ar_60 K (mi (mi M 0 0) 9 (nI 2)) o) (by decide) (by omega) (aw_60 K (mi (mi M 0 0) 9 (nI 2)) o 0 (nI p)) ?_
    refine G_aload_n 0 d_M_meets_39 rfl ?_
    refine G_gt d_M_meets_40 fr_M_78 (rd_M_must K (ma (mi (mi M 0 0) 9 (nI 2)) 60 0 (nI p)) o) ?_
    refine G_iconst (v := nI 1) d_M_meets_43 (by decide) ?_
    refine G_iload_n 2 d_M_meets_44 rfl ?_
    refine G_iasN d_M_meets_45 (ar_60 K (ma (mi (mi M 0 0) 9 (nI 2)) 60 0 (nI p)) o) (by decide) (by omega) (aw_60 K (ma (mi (mi M 0 0) 9 (nI 2)) 60 0 (nI p)) o 1 (nI q)) ?_
    refine G_aload_n 0 d_M_meets_46 rfl ?_
    refine G_iconst (v := nI 0) d_M_meets_47 (by decide) ?_
    refine G_pt d_M_meets_48 fp_M_146 (wr_M_nevers K (ma (ma (mi (mi M 0 0) 9 (nI 2)) 60 0 (nI p)) 60 1 (nI q)) o (nI 0)) ?_
    refine G_aload_n 0 d_M_meets_51 rfl ?_
    refine G_aload_n 0 d_M_meets_52 rfl ?_
    refine G_gt d_M_meets_53 fr_M_29 (rd_M_sortOf K (mi (ma (ma (mi (mi M 0 0) 9 (nI 2)) 60 0 (nI p)) 60 1 (nI q)) 10 (nI 0)) o) ?_
    refine G_iload_n 1 d_M_meets_56 rfl ?_
    refine G_ialN d_M_meets_57 (ar_44 K (mi (ma (ma (mi (mi M 0 0) 9 (nI 2)) 60 0 (nI p)) 60 1 (nI q)) 10 (nI 0)) o) (by decide) (by omega) ?_
    rw [show (mi (ma (ma (mi (mi M 0 0) 9 (nI 2)) 60 0 (nI p)) 60 1 (nI q)) 10 (nI 0)).2 44 p = nI (ps M p) from hsp.1]
    refine G_cvp (fun a9 A9 => ∃ N' : MC, A9 = (hp K N' o, nc, ns) ∧ (coR N' = coR (mi M 0 0)) ∧ ((a9 = some (.int 1) ∧ (MEETQ (mi M 0 0) p q)) ∨ (a9 = some (.int 0) ∧ ¬ (MEETQ (mi M 0 0) p q)))) (As := [.int (nI (ps M p))]) d_M_meets_58 cv_M_162 cw_M_has (ob_M K (mi (ma (ma (mi (mi M 0 0) 9 (nI 2)) 60 0 (nI p)) 60 1 (nI q)) 10 (nI 0)) o) np_M_has (Nat.le_of_ble_eq_true rfl) (Nat.le_of_ble_eq_true rfl) (fun post2 kq => c_has2 (M := mi M 0 0) (N := mi (ma (ma (mi (mi M 0 0) 9 (nI 2)) 60 0 (nI p)) 60 1 (nI q)) 10 (nI 0)) (f := fun i => if i = 0 then p else q) (g := fun _ => 0) (wf0S hS) (wf0C hC) (wf0P hP) ((cR_mi (by omega)).trans ((cR_ma (by omega)).trans ((cR_ma (by omega)).trans (cR_mi (by omega))))) hsp.2 rfl (by omega) rfl (by omega) (meet_f (M := mi M 0 0) (by simp [ma, mi, va_up, upd]) (by simp [ma, mi, va_up, upd]) hp1 hq1 hpq) (fun c hc2 => absurd hc2 (Nat.not_lt_zero c)) (fun N9 g1 g2 => kq _ _ ⟨N9, rfl, g1, Or.inl ⟨rfl, g2⟩⟩) (fun N9 g1 g2 => kq _ _ ⟨N9, rfl, g1, Or.inr ⟨rfl, g2⟩⟩)) (fun a9 A9 h9 => by obtain ⟨N9, rfl, -⟩ := h9; rfl) (fun a9 A9 h9 => ?_)
    obtain ⟨N', rfl, hc58, ⟨rfl, u58⟩ | ⟨rfl, u58⟩⟩ := h9
    · exact G_zret d_M_meets_61 rfl rfl (k1 p q hp1 hq1 rfl rfl hpq N' hc58 u58)
    · exact G_zret d_M_meets_61 rfl rfl (k0 p q hp1 hq1 rfl rfl hpq N' hc58 u58)
  · refine G_ifeq 14 d_M_meets_7 (by decide) (fun _ => ?_) (fun h => absurd h (by decide))
    refine G_iconst (v := 1) d_M_meets_14 (by decide) ?_
    refine G_pt d_M_meets_15 fp_M_87 (wr_M_thrown K M o 1) ?_
    refine G_aload_n 0 d_M_meets_18 rfl ?_
    refine G_gt d_M_meets_19 fr_M_87 (rd_M_thrown K (mi M 0 1) o) ?_
    rw [show (mi M 0 1).1 0 = 1 from rfl]
    refine G_ifle 27 d_M_meets_22 (by decide) (fun h => absurd h (by decide)) (fun _ => ?_)
    refine G_iconst (v := 0) d_M_meets_25 (by decide) ?_
    exact G_zret d_M_meets_26 rfl rfl (kn u4)
