/-! look: the tree of the splits is built anew, and held against the patterns -/
theorem sT_LV {N M : MC} (h : sT N M) (s : Nat) : LV N s ↔ LV M s := by
  obtain ⟨s1, s2, -, s3, s4, s5, s6, -, -⟩ := sT_cs h
  unfold LV
  simp only [s1, s2, s3, s4, s5, s6]
theorem sT_pso {N M : MC} (h : sT N M) (a : Int) (k : Nat) : pso N a k = pso M a k := by
  obtain ⟨s1, s2, -, s3, s4, s5, s6, -, -⟩ := sT_cs h
  unfold pso
  simp only [s4, s5, s6]
theorem sT_srt {N M : MC} (h : sT N M) (s0 : Nat) (t : Tr) (r : List Nat) : srt N s0 t r = srt M s0 t r := by
  cases r with
  | nil => rfl
  | cons k r =>
    show (match t r with | some a => pso N a k | none => none) = (match t r with | some a => pso M a k | none => none)
    cases t r with
    | none => rfl
    | some a => exact sT_pso h a k
theorem sT_okA {N M : MC} (h : sT N M) (s : Nat) (a : Int) : okA N s a ↔ okA M s a := by
  obtain ⟨s1, s2, -, s3, s4, s5, s6, -, -⟩ := sT_cs h
  unfold okA usdV
  simp only [s2, s3, s4, s5, s6, sT_LV h]
theorem sT_XW {N M : MC} (h : sT N M) {s0 : Nat} {X : XS} (hX : XW M s0 X) : XW N s0 X := by
  refine ⟨hX.1, hX.2.1, fun v r t hv => ?_, fun r a hr => ?_⟩
  · rw [sT_srt h, sT_LV h]; exact hX.2.2.1 v r t hv
  · obtain ⟨s, h1, h2⟩ := hX.2.2.2 r a hr
    exact ⟨s, by rw [sT_srt h]; exact h1, (sT_okA h s a).mpr h2⟩
theorem sT_kids {N M : MC} (h : sT N M) (c : Nat) (r : List Nat) : kids N c r = kids M c r := by
  obtain ⟨s1, s2, -, s3, s4, s5, s6, -, -⟩ := sT_cs h
  unfold kids
  simp only [s4, s5, s6]
abbrev hN (M : MC) (i : Nat) : Nat := (M.2 56 i).toNatClampNeg
abbrev jN (M : MC) (i : Nat) : Nat := (M.2 57 i).toNatClampNeg
def stepX (M : MC) (m : Nat) (X : XS) (h j : Nat) : XS := match X.1[h]? with
  | some (r, t) => if t = 0 then xI X r (ilab M j m) else (match (optL M t (mC M))[j]? with
    | some c => xC M X r c
    | none => X)
  | none => X
def preX (M : MC) (m s0 : Nat) : Nat → XS
  | 0 => ([([], s0)], fun _ => none)
  | i + 1 => stepX M m (preX M m s0 i) (hN M i) (jN M i)
def okPre (M : MC) (m s0 n : Nat) : Prop := ∀ i, i < n → ∃ r t, (preX M m s0 i).1[hN M i]? = some (r, t) ∧ (preX M m s0 i).2 r = none ∧ M.2 56 i = nI (hN M i) ∧ M.2 57 i = nI (jN M i) ∧ (t = 0 → jN M i ≤ m) ∧ (t ≠ 0 → jN M i < (optL M t (mC M)).length)
theorem stepX_I {M : MC} {m : Nat} {X : XS} {h j : Nat} {r : List Nat} (hh : X.1[h]? = some (r, 0)) : stepX M m X h j = xI X r (ilab M j m) := by
  unfold stepX
  rw [hh]
  exact if_pos rfl
theorem stepX_C {M : MC} {m : Nat} {X : XS} {h j t c : Nat} {r : List Nat} (hh : X.1[h]? = some (r, t)) (ht : t ≠ 0) (hc : (optL M t (mC M))[j]? = some c) : stepX M m X h j = xC M X r c := by
  unfold stepX
  rw [hh]
  show (if t = 0 then _ else _) = _
  rw [if_neg ht, hc]
theorem ilab_ok {M : MC} {j m : Nat} : ∀ c, c < 30 → ilab M j m ≠ lab c := fun c hc => by
  unfold ilab
  split
  · exact fun e => lab_ne_int e.symm
  · unfold BIG lab; omega
theorem preX_ok {M : MC} {m s0 : Nat} (hC : wfC M) (hL : livesOk M) (hl : LV M s0) : ∀ n, okPre M m s0 n → XW M s0 (preX M m s0 n) ∧ (preX M m s0 n).1.length ≤ 1 + 2 * n := by
  intro n
  induction n with
  | zero => intro _; exact ⟨XW_0 hl, Nat.le_refl _⟩
  | succ n ih =>
    intro h
    obtain ⟨h1, h2⟩ := ih (fun i hi => h i (by omega))
    obtain ⟨r, t, a1, a2, -, -, a5, a6⟩ := h n (by omega)
    show XW M s0 (stepX M m (preX M m s0 n) (hN M n) (jN M n)) ∧ (stepX M m (preX M m s0 n) (hN M n) (jN M n)).1.length ≤ _
    by_cases ht : t = 0
    · subst ht
      rw [stepX_I a1]
      exact ⟨XW_I h1 a1 a2 ilab_ok, by show (preX M m s0 n).1.length ≤ _; omega⟩
    · obtain ⟨c, hg⟩ : ∃ c, (optL M t (mC M))[jN M n]? = some c := ⟨_, List.getElem?_eq_getElem (a6 ht)⟩
      obtain ⟨c1, c2, c3⟩ := optL_mem (List.mem_of_getElem? hg)
      rw [stepX_C a1 ht hg]
      refine ⟨XW_C hC.2.1 h1 (by rw [c2]; exact a1) a2 c1 ((usd_iff hL hC c1).mp c3.1), ?_⟩
      show ((preX M m s0 n).1 ++ kids M _ r).length ≤ _
      rw [List.length_append]
      have : ∀ c, (kids M c r).length ≤ 2 := fun c => by
        unfold kids
        rw [List.length_append]
        split <;> split <;> simp
      have := this c
      omega
abbrev msL (M : MC) : List Nat := (List.range (M.1 9).toNatClampNeg).map (fun i => (M.2 60 i).toNatClampNeg)
abbrev nvL (M : MC) : List Nat := (List.range (M.1 10).toNatClampNeg).map (fun i => (M.2 61 i).toNatClampNeg)
def wfQ (M : MC) (s0 a b : Nat) : Prop := M.1 9 = nI a ∧ a ≤ 2 ∧ M.1 10 = nI b ∧ b ≤ 8 ∧ (∀ i, i < a → ∃ p, M.2 60 i = nI p ∧ p < mP M ∧ ps M p = s0) ∧ (∀ i, i < b → ∃ p, M.2 61 i = nI p ∧ p < mP M ∧ ps M p = s0)
/-- one call of fit at the root -/
theorem fit_root {N M : MC} {X : XS} {s0 p : Nat} (hS : wfS M) (hC : wfC M) (hP : wfP M) (hT : sT N M) (hR : RepX N X) (h0 : X.1[0]? = some ([], s0)) (hp : p < mP M) (hs : ps M p = s0) :
    ((fitR N 13 p 0).1 = 0 ∧ misT M X.2 p) ∨ ((fitR N 13 p 0).1 = 1 ∧ fitT M X.2 p) ∨ ((fitR N 13 p 0).1 = 2 ∧ ¬ fitT M X.2 p ∧ ∃ r t, X.1[(fitR N 13 p 0).2]? = some (r, t) ∧ X.2 r = none ∧ ∃ x ∈ askL M 13 p [], x.1 = r) := by
  obtain ⟨s1, s2, s7, s3, s4, s5, s6, s8, s9⟩ := sT_cs hT
  have hd : pd N p < 13 := by rw [s9]; have := (hP.2.2 p hp).2.2.1.2; omega
  obtain ⟨i1, i2, i3⟩ := fit_rel (sT_wfS hT hS) (sT_wfC hT hC) (sT_wfP hT hP) hR 13 p 0 [] (by rw [s7]; exact hp) hd (by rw [s8, hs]; exact h0)
  rw [sT_askL hT] at i1 i2 i3
  have hle := fitR_le N 13 p 0
  rcases (show (fitR N 13 p 0).1 = 0 ∨ (fitR N 13 p 0).1 = 1 ∨ (fitR N 13 p 0).1 = 2 by omega) with h | h | h
  · exact Or.inl ⟨h, i2 h⟩
  · exact Or.inr (Or.inl ⟨h, i1 h⟩)
  · obtain ⟨r, t, j1, j2, x, j3, j4⟩ := i3 h
    refine Or.inr (Or.inr ⟨h, fun z => ?_, r, t, j1, j2, x, j3, j4⟩)
    have := z x j3
    rw [j4, j2] at this; cases this
theorem mis_not_fit {M : MC} {t : Tr} {p : Nat} (h : misT M t p) (h2 : fitT M t p) : False := by
  obtain ⟨x, hx, b, h3, h4⟩ := h
  rw [h2 x hx] at h3
  exact h4 (Option.some.inj h3).symm
set_option maxHeartbeats 4000000 in
set_option maxRecDepth 100000 in
theorem l_M_look4 {K : KC} {M : MC} {o : Nat → Int64} {nc ns : Nat} {d : Nat} {s0 a b : Nat} {X : XS} {x1 : Int32} (hS : wfS M) (hC : wfC M) (hP : wfP M) (hQ : wfQ M s0 a b) (hX0 : X.1[0]? = some ([], s0)) (hall : ∀ i, i < a → fitT M X.2 ((M.2 60 i).toNatClampNeg)) (hnf : ∀ i, i < b → ¬ fitT M X.2 ((M.2 61 i).toNatClampNeg)) {post : mj_O → mj_H → Prop} (k1 : ∀ N, sT N M → (∀ i, i < a → fitT M X.2 ((M.2 60 i).toNatClampNeg)) → (∀ i, i < b → misT M X.2 ((M.2 61 i).toNatClampNeg)) → post (.inl (some (.int (nI 1)))) (hp K N o, nc, ns)) (k2 : ∀ N h r t, sT N M → RepX N X → N.1 8 = nI h → X.1[h]? = some (r, t) → X.2 r = none → (∃ p, ((∃ i, i < a ∧ p = (M.2 60 i).toNatClampNeg) ∨ ∃ i, i < b ∧ p = (M.2 61 i).toNatClampNeg) ∧ ∃ x ∈ askL M 13 p [], x.1 = r) → post (.inl (some (.int (nI 2)))) (hp K N o, nc, ns)) : ∀ (n i : Nat) (N : MC), i ≤ b → b < i + n → sT N M → RepX N X → (∀ c, c < i → misT M X.2 ((M.2 61 c).toNatClampNeg)) → mj_G y_M_look b_M_look 5 (some .int) [] (d + 13) none 116 [(3, .int (nI i)), (2, .int (nI 0)), (0, .ref 38), (1, .int x1)] [] (hp K N o, nc, ns) post := by
  obtain ⟨-, q1, q2⟩ := id hS
  obtain ⟨ew9, ewa, ew10, ewb, hms, hnv⟩ := id hQ
  intro n
  induction n with
  | zero => intro i N h1 h2; omega
  | succ n ih =>
    intro i N h1 h2 hT hR hmis
    have wS := sT_wfS hT hS
    have wC := sT_wfC hT hC
    have wP := sT_wfP hT hP
    have wN := RepX_wf hR wS wC
    obtain ⟨s1, s2, s7, s3, s4, s5, s6, s8, s9⟩ := sT_cs hT
    have hnN := RepX_n hR
    have hns0 : nS N 0 = s0 := by show (N.2 52 0).toNatClampNeg = s0; rw [(hR.2.2 0 _ _ hX0).2.1, nI_clamp (by have := (hR.2.2 0 _ _ hX0).2.2.1; rw [s1] at this; omega)]
    refine G_iload_n 0 d_M_look_116 rfl ?_
    refine G_aload_n 2 d_M_look_117 rfl ?_
    refine G_gt d_M_look_118 fr_M_146 (rd_M_nevers K N o) ?_
    rw [hT.1 10 (by decide) (by decide), ew10]
    refine G_icge 147 d_M_look_121 (by decide) (fun h121 => ?_) (fun h121 => ?_)
    · have h121 := (nI_leI (by omega) (by omega)).mp h121
      refine G_iconst (v := nI 1) d_M_look_147 (by decide) ?_
      exact G_iret d_M_look_148 rfl (k1 N hT hall (fun c hc => hmis c (by omega)))
    · have h121 : ¬ _ := fun z => h121 ((nI_leI (by omega) (by omega)).mpr z)
      have hi : i < b := by omega
      obtain ⟨p, e61, hpp, hps⟩ := hnv i hi
      have hp12 := (hP.2.2 p hpp).2.2.1.2
      have hpe : p = (M.2 61 i).toNatClampNeg := by rw [e61, nI_clamp (by have := hP.2.1; omega)]
      refine G_aload_n 2 d_M_look_124 rfl ?_
      refine G_aload_n 2 d_M_look_125 rfl ?_
      refine G_gt d_M_look_126 fr_M_81 (rd_M_never K N o) ?_
      refine G_iload_n 0 d_M_look_129 rfl ?_
      refine G_ialN d_M_look_130 (ar_61 K N o) (by decide) (by omega) ?_
      rw [hT.2 61 (by decide), e61]
      refine G_iload_n 1 d_M_look_131 rfl ?_
      refine G_cvp (fun a9 A9 => ((fitR N 13 p 0).1 ≠ 2 ∧ a9 = some (.int (nI (fitR N 13 p 0).1)) ∧ A9 = (hp K N o, nc, ns)) ∨ ((fitR N 13 p 0).1 = 2 ∧ a9 = some (.int (nI 2)) ∧ A9 = (hp K (mi N 8 (nI (fitR N 13 p 0).2)) o, nc, ns))) (As := [.int (nI p), .int (nI 0)]) d_M_look_132 cv_M_132 cw_M_fit (ob_M K N o) np_M_fit (Nat.le_of_ble_eq_true rfl) (Nat.le_of_ble_eq_true rfl) (fun post2 kk => c_M_fit wS wC wP wN 13 p 0 (d + 12) (by rw [s7]; exact hpp) (by rw [hnN]; exact lt_of_get hX0) (by rw [s8, hps, hns0]) (by rw [s9]; omega) (by rw [s9]; omega) (fun z => kk _ _ (Or.inl ⟨z, rfl, rfl⟩)) (fun z => kk _ _ (Or.inr ⟨z, rfl, rfl⟩))) (fun a9 A9 h9 => by rcases h9 with ⟨-, -, rfl⟩ | ⟨-, -, rfl⟩ <;> rfl) (fun a9 A9 h9 => ?_)
      rcases fit_root hS hC hP hT hR hX0 hpp hps with ⟨z, fz⟩ | ⟨z, fz⟩ | ⟨z, fz, r2, t2, fh1, fh2, fh3⟩
      · obtain ⟨-, rfl, rfl⟩ := h9.resolve_right (fun q => absurd (z.symm.trans q.1) (by decide))
        rw [z]
        refine G_iconst (v := nI 2) d_M_look_135 (by decide) ?_
        refine G_icne 141 d_M_look_136 (by decide) (fun _ => ?_) (fun h => absurd h (by decide))
        refine G_iinc 0 (v := nI (i + 1)) (ls' := [(3, .int (nI (i + 1))), (2, .int (nI 0)), (0, .ref 38), (1, .int x1)]) d_M_look_141 rfl (nI_1 _) (by decide) rfl ?_
        refine G_goto 116 d_M_look_144 (by decide) ?_
        exact G_sub [0, 1, 2, 3] rfl (ih (i + 1) N (by omega) (by omega) (sT_trans (sT_refl _) hT) hR (fun c hc => (Nat.lt_succ_iff_lt_or_eq.mp hc).elim (hmis c) (fun q => by subst q; rw [← hpe]; exact fz)))
      · obtain ⟨-, rfl, rfl⟩ := h9.resolve_right (fun q => absurd (z.symm.trans q.1) (by decide))
        rw [z]
        refine G_iconst (v := nI 2) d_M_look_135 (by decide) ?_
        refine G_icne 141 d_M_look_136 (by decide) (fun _ => ?_) (fun h => absurd h (by decide))
        refine G_iinc 0 (v := nI (i + 1)) (ls' := [(3, .int (nI (i + 1))), (2, .int (nI 0)), (0, .ref 38), (1, .int x1)]) d_M_look_141 rfl (nI_1 _) (by decide) rfl ?_
        refine G_goto 116 d_M_look_144 (by decide) ?_
        exact G_sub [0, 1, 2, 3] rfl (ih (i + 1) N (by omega) (by omega) (sT_trans (sT_refl _) hT) hR (fun c hc => (Nat.lt_succ_iff_lt_or_eq.mp hc).elim (hmis c) (fun q => by subst q; rw [← hpe]; exact (hnf c hi (by rw [← hpe]; exact fz)).elim)))
      · rcases h9 with ⟨z2, -⟩ | ⟨-, rfl, rfl⟩
        · exact absurd z z2
        refine G_iconst (v := nI 2) d_M_look_135 (by decide) ?_
        refine G_icne 141 d_M_look_136 (by decide) (fun h => absurd h (by decide)) (fun _ => ?_)
        refine G_iconst (v := nI 2) d_M_look_139 (by decide) ?_
        exact G_iret d_M_look_140 rfl (k2 _ _ r2 t2 (sT_trans (sT_mi8 _ _) hT) hR rfl fh1 fh2 ⟨p, Or.inr ⟨i, hi, hpe⟩, fh3⟩)
set_option maxHeartbeats 4000000 in
set_option maxRecDepth 100000 in
theorem l_M_look3 {K : KC} {M : MC} {o : Nat → Int64} {nc ns : Nat} {d : Nat} {s0 a b : Nat} {X : XS} {x1 : Int32} (hS : wfS M) (hC : wfC M) (hP : wfP M) (hQ : wfQ M s0 a b) (hX0 : X.1[0]? = some ([], s0)) (hall : ∀ i, i < a → fitT M X.2 ((M.2 60 i).toNatClampNeg)) {post : mj_O → mj_H → Prop} (k0 : ∀ N, sT N M → ((∃ i, i < a ∧ misT M X.2 ((M.2 60 i).toNatClampNeg)) ∨ ∃ i, i < b ∧ fitT M X.2 ((M.2 61 i).toNatClampNeg)) → post (.inl (some (.int (nI 0)))) (hp K N o, nc, ns)) (k1 : ∀ N, sT N M → (∀ i, i < a → fitT M X.2 ((M.2 60 i).toNatClampNeg)) → (∀ i, i < b → misT M X.2 ((M.2 61 i).toNatClampNeg)) → post (.inl (some (.int (nI 1)))) (hp K N o, nc, ns)) (k2 : ∀ N h r t, sT N M → RepX N X → N.1 8 = nI h → X.1[h]? = some (r, t) → X.2 r = none → (∃ p, ((∃ i, i < a ∧ p = (M.2 60 i).toNatClampNeg) ∨ ∃ i, i < b ∧ p = (M.2 61 i).toNatClampNeg) ∧ ∃ x ∈ askL M 13 p [], x.1 = r) → post (.inl (some (.int (nI 2)))) (hp K N o, nc, ns)) : ∀ (n i : Nat) (N : MC), i ≤ b → b < i + n → sT N M → RepX N X → (∀ c, c < i → ¬ fitT M X.2 ((M.2 61 c).toNatClampNeg)) → mj_G y_M_look b_M_look 5 (some .int) [] (d + 13) none 83 [(3, .int (nI i)), (2, .int (nI 0)), (0, .ref 38), (1, .int x1)] [] (hp K N o, nc, ns) post := by
  obtain ⟨-, q1, q2⟩ := id hS
  obtain ⟨ew9, ewa, ew10, ewb, hms, hnv⟩ := id hQ
  intro n
  induction n with
  | zero => intro i N h1 h2; omega
  | succ n ih =>
    intro i N h1 h2 hT hR hnf
    have wS := sT_wfS hT hS
    have wC := sT_wfC hT hC
    have wP := sT_wfP hT hP
    have wN := RepX_wf hR wS wC
    obtain ⟨s1, s2, s7, s3, s4, s5, s6, s8, s9⟩ := sT_cs hT
    have hnN := RepX_n hR
    have hns0 : nS N 0 = s0 := by show (N.2 52 0).toNatClampNeg = s0; rw [(hR.2.2 0 _ _ hX0).2.1, nI_clamp (by have := (hR.2.2 0 _ _ hX0).2.2.1; rw [s1] at this; omega)]
    refine G_iload_n 0 d_M_look_83 rfl ?_
    refine G_aload_n 2 d_M_look_84 rfl ?_
    refine G_gt d_M_look_85 fr_M_146 (rd_M_nevers K N o) ?_
    rw [hT.1 10 (by decide) (by decide), ew10]
    refine G_icge 114 d_M_look_88 (by decide) (fun h88 => ?_) (fun h88 => ?_)
    · have h88 := (nI_leI (by omega) (by omega)).mp h88
      refine G_iconst (v := nI 0) d_M_look_114 (by decide) ?_
      refine G_istore_n (ls' := [(3, .int (nI 0)), (2, .int (nI 0)), (0, .ref 38), (1, .int x1)]) d_M_look_115 (by decide) rfl ?_
      exact G_sub [0, 1, 2, 3] rfl (l_M_look4 hS hC hP hQ hX0 hall (fun c hc => hnf c (by omega)) k1 k2 (b + 1) 0 N (by omega) (by omega) hT hR (fun c hc => absurd hc (Nat.not_lt_zero c)))
    · have h88 : ¬ _ := fun z => h88 ((nI_leI (by omega) (by omega)).mpr z)
      have hi : i < b := by omega
      obtain ⟨p, e61, hpp, hps⟩ := hnv i hi
      have hp12 := (hP.2.2 p hpp).2.2.1.2
      have hpe : p = (M.2 61 i).toNatClampNeg := by rw [e61, nI_clamp (by have := hP.2.1; omega)]
      refine G_aload_n 2 d_M_look_91 rfl ?_
      refine G_aload_n 2 d_M_look_92 rfl ?_
      refine G_gt d_M_look_93 fr_M_81 (rd_M_never K N o) ?_
      refine G_iload_n 0 d_M_look_96 rfl ?_
      refine G_ialN d_M_look_97 (ar_61 K N o) (by decide) (by omega) ?_
      rw [hT.2 61 (by decide), e61]
      refine G_iload_n 1 d_M_look_98 rfl ?_
      refine G_cvp (fun a9 A9 => ((fitR N 13 p 0).1 ≠ 2 ∧ a9 = some (.int (nI (fitR N 13 p 0).1)) ∧ A9 = (hp K N o, nc, ns)) ∨ ((fitR N 13 p 0).1 = 2 ∧ a9 = some (.int (nI 2)) ∧ A9 = (hp K (mi N 8 (nI (fitR N 13 p 0).2)) o, nc, ns))) (As := [.int (nI p), .int (nI 0)]) d_M_look_99 cv_M_132 cw_M_fit (ob_M K N o) np_M_fit (Nat.le_of_ble_eq_true rfl) (Nat.le_of_ble_eq_true rfl) (fun post2 kk => c_M_fit wS wC wP wN 13 p 0 (d + 12) (by rw [s7]; exact hpp) (by rw [hnN]; exact lt_of_get hX0) (by rw [s8, hps, hns0]) (by rw [s9]; omega) (by rw [s9]; omega) (fun z => kk _ _ (Or.inl ⟨z, rfl, rfl⟩)) (fun z => kk _ _ (Or.inr ⟨z, rfl, rfl⟩))) (fun a9 A9 h9 => by rcases h9 with ⟨-, -, rfl⟩ | ⟨-, -, rfl⟩ <;> rfl) (fun a9 A9 h9 => ?_)
      rcases fit_root hS hC hP hT hR hX0 hpp hps with ⟨z, fz⟩ | ⟨z, fz⟩ | ⟨z, fz, r2, t2, fh1, fh2, fh3⟩
      · obtain ⟨-, rfl, rfl⟩ := h9.resolve_right (fun q => absurd (z.symm.trans q.1) (by decide))
        rw [z]
        refine G_iconst (v := nI 1) d_M_look_102 (by decide) ?_
        refine G_icne 108 d_M_look_103 (by decide) (fun _ => ?_) (fun h => absurd h (by decide))
        refine G_iinc 0 (v := nI (i + 1)) (ls' := [(3, .int (nI (i + 1))), (2, .int (nI 0)), (0, .ref 38), (1, .int x1)]) d_M_look_108 rfl (nI_1 _) (by decide) rfl ?_
        refine G_goto 83 d_M_look_111 (by decide) ?_
        exact G_sub [0, 1, 2, 3] rfl (ih (i + 1) N (by omega) (by omega) hT hR (fun c hc => (Nat.lt_succ_iff_lt_or_eq.mp hc).elim (hnf c) (fun q => by subst q; rw [← hpe]; exact fun z9 => mis_not_fit fz z9)))
      · obtain ⟨-, rfl, rfl⟩ := h9.resolve_right (fun q => absurd (z.symm.trans q.1) (by decide))
        rw [z]
        refine G_iconst (v := nI 1) d_M_look_102 (by decide) ?_
        refine G_icne 108 d_M_look_103 (by decide) (fun h => absurd h (by decide)) (fun _ => ?_)
        refine G_iconst (v := nI 0) d_M_look_106 (by decide) ?_
        exact G_iret d_M_look_107 rfl (k0 N hT (Or.inr ⟨i, hi, by rw [← hpe]; exact fz⟩))
      · rcases h9 with ⟨z2, -⟩ | ⟨-, rfl, rfl⟩
        · exact absurd z z2
        refine G_iconst (v := nI 1) d_M_look_102 (by decide) ?_
        refine G_icne 108 d_M_look_103 (by decide) (fun _ => ?_) (fun h => absurd h (by decide))
        refine G_iinc 0 (v := nI (i + 1)) (ls' := [(3, .int (nI (i + 1))), (2, .int (nI 0)), (0, .ref 38), (1, .int x1)]) d_M_look_108 rfl (nI_1 _) (by decide) rfl ?_
        refine G_goto 83 d_M_look_111 (by decide) ?_
        exact G_sub [0, 1, 2, 3] rfl (ih (i + 1) (mi N 8 (nI (fitR N 13 p 0).2)) (by omega) (by omega) (sT_trans (sT_mi8 _ _) hT) hR (fun c hc => (Nat.lt_succ_iff_lt_or_eq.mp hc).elim (hnf c) (fun q => by subst q; rw [← hpe]; exact fz)))
set_option maxHeartbeats 4000000 in
set_option maxRecDepth 100000 in
theorem l_M_look2 {K : KC} {M : MC} {o : Nat → Int64} {nc ns : Nat} {d : Nat} {s0 a b : Nat} {X : XS} {x1 : Int32} (hS : wfS M) (hC : wfC M) (hP : wfP M) (hQ : wfQ M s0 a b) (hX0 : X.1[0]? = some ([], s0)) {post : mj_O → mj_H → Prop} (k0 : ∀ N, sT N M → ((∃ i, i < a ∧ misT M X.2 ((M.2 60 i).toNatClampNeg)) ∨ ∃ i, i < b ∧ fitT M X.2 ((M.2 61 i).toNatClampNeg)) → post (.inl (some (.int (nI 0)))) (hp K N o, nc, ns)) (k1 : ∀ N, sT N M → (∀ i, i < a → fitT M X.2 ((M.2 60 i).toNatClampNeg)) → (∀ i, i < b → misT M X.2 ((M.2 61 i).toNatClampNeg)) → post (.inl (some (.int (nI 1)))) (hp K N o, nc, ns)) (k2 : ∀ N h r t, sT N M → RepX N X → N.1 8 = nI h → X.1[h]? = some (r, t) → X.2 r = none → (∃ p, ((∃ i, i < a ∧ p = (M.2 60 i).toNatClampNeg) ∨ ∃ i, i < b ∧ p = (M.2 61 i).toNatClampNeg) ∧ ∃ x ∈ askL M 13 p [], x.1 = r) → post (.inl (some (.int (nI 2)))) (hp K N o, nc, ns)) : ∀ (n i : Nat) (N : MC), i ≤ a → a < i + n → sT N M → RepX N X → (∀ c, c < i → fitT M X.2 ((M.2 60 c).toNatClampNeg)) → mj_G y_M_look b_M_look 5 (some .int) [] (d + 13) none 45 [(3, .int (nI i)), (2, .int (nI 0)), (0, .ref 38), (1, .int x1)] [] (hp K N o, nc, ns) post := by
  obtain ⟨-, q1, q2⟩ := id hS
  obtain ⟨ew9, ewa, ew10, ewb, hms, hnv⟩ := id hQ
  intro n
  induction n with
  | zero => intro i N h1 h2; omega
  | succ n ih =>
    intro i N h1 h2 hT hR hfit
    have wS := sT_wfS hT hS
    have wC := sT_wfC hT hC
    have wP := sT_wfP hT hP
    have wN := RepX_wf hR wS wC
    obtain ⟨s1, s2, s7, s3, s4, s5, s6, s8, s9⟩ := sT_cs hT
    have hnN := RepX_n hR
    have hns0 : nS N 0 = s0 := by show (N.2 52 0).toNatClampNeg = s0; rw [(hR.2.2 0 _ _ hX0).2.1, nI_clamp (by have := (hR.2.2 0 _ _ hX0).2.2.1; rw [s1] at this; omega)]
    refine G_iload_n 0 d_M_look_45 rfl ?_
    refine G_aload_n 2 d_M_look_46 rfl ?_
    refine G_gt d_M_look_47 fr_M_143 (rd_M_musts K N o) ?_
    rw [hT.1 9 (by decide) (by decide), ew9]
    refine G_icge 81 d_M_look_50 (by decide) (fun h50 => ?_) (fun h50 => ?_)
    · have h50 := (nI_leI (by omega) (by omega)).mp h50
      refine G_iconst (v := nI 0) d_M_look_81 (by decide) ?_
      refine G_istore_n (ls' := [(3, .int (nI 0)), (2, .int (nI 0)), (0, .ref 38), (1, .int x1)]) d_M_look_82 (by decide) rfl ?_
      exact G_sub [0, 1, 2, 3] rfl (l_M_look3 hS hC hP hQ hX0 (fun c hc => hfit c (by omega)) k0 k1 k2 (b + 1) 0 N (by omega) (by omega) hT hR (fun c hc => absurd hc (Nat.not_lt_zero c)))
    · have h50 : ¬ _ := fun z => h50 ((nI_leI (by omega) (by omega)).mpr z)
      have hi : i < a := by omega
      obtain ⟨p, e60, hpp, hps⟩ := hms i hi
      have hp12 := (hP.2.2 p hpp).2.2.1.2
      have hpe : p = (M.2 60 i).toNatClampNeg := by rw [e60, nI_clamp (by have := hP.2.1; omega)]
      refine G_aload_n 2 d_M_look_53 rfl ?_
      refine G_aload_n 2 d_M_look_54 rfl ?_
      refine G_gt d_M_look_55 fr_M_78 (rd_M_must K N o) ?_
      refine G_iload_n 0 d_M_look_58 rfl ?_
      refine G_ialN d_M_look_59 (ar_60 K N o) (by decide) (by omega) ?_
      rw [hT.2 60 (by decide), e60]
      refine G_iload_n 1 d_M_look_60 rfl ?_
      refine G_cvp (fun a9 A9 => ((fitR N 13 p 0).1 ≠ 2 ∧ a9 = some (.int (nI (fitR N 13 p 0).1)) ∧ A9 = (hp K N o, nc, ns)) ∨ ((fitR N 13 p 0).1 = 2 ∧ a9 = some (.int (nI 2)) ∧ A9 = (hp K (mi N 8 (nI (fitR N 13 p 0).2)) o, nc, ns))) (As := [.int (nI p), .int (nI 0)]) d_M_look_61 cv_M_132 cw_M_fit (ob_M K N o) np_M_fit (Nat.le_of_ble_eq_true rfl) (Nat.le_of_ble_eq_true rfl) (fun post2 kk => c_M_fit wS wC wP wN 13 p 0 (d + 12) (by rw [s7]; exact hpp) (by rw [hnN]; exact lt_of_get hX0) (by rw [s8, hps, hns0]) (by rw [s9]; omega) (by rw [s9]; omega) (fun z => kk _ _ (Or.inl ⟨z, rfl, rfl⟩)) (fun z => kk _ _ (Or.inr ⟨z, rfl, rfl⟩))) (fun a9 A9 h9 => by rcases h9 with ⟨-, -, rfl⟩ | ⟨-, -, rfl⟩ <;> rfl) (fun a9 A9 h9 => ?_)
      rcases fit_root hS hC hP hT hR hX0 hpp hps with ⟨z, fz⟩ | ⟨z, fz⟩ | ⟨z, fz, r2, t2, fh1, fh2, fh3⟩
      · obtain ⟨-, rfl, rfl⟩ := h9.resolve_right (fun q => absurd (z.symm.trans q.1) (by decide))
        rw [z]
        refine G_istore (ls' := [(4, .int (nI 0)), (3, .int (nI i)), (2, .int (nI 0)), (0, .ref 38), (1, .int x1)]) d_M_look_64 (by decide) rfl ?_
        refine G_iload 0 d_M_look_66 rfl ?_
        refine G_iconst (v := nI 1) d_M_look_68 (by decide) ?_
        refine G_iceq 75 d_M_look_69 (by decide) (fun h => absurd h (by decide)) (fun _ => ?_)
        refine G_iload 0 d_M_look_72 rfl ?_
        exact G_iret d_M_look_74 rfl (k0 N hT (Or.inl ⟨i, hi, by rw [← hpe]; exact fz⟩))
      · obtain ⟨-, rfl, rfl⟩ := h9.resolve_right (fun q => absurd (z.symm.trans q.1) (by decide))
        rw [z]
        refine G_istore (ls' := [(4, .int (nI 1)), (3, .int (nI i)), (2, .int (nI 0)), (0, .ref 38), (1, .int x1)]) d_M_look_64 (by decide) rfl ?_
        refine G_iload 0 d_M_look_66 rfl ?_
        refine G_iconst (v := nI 1) d_M_look_68 (by decide) ?_
        refine G_iceq 75 d_M_look_69 (by decide) (fun _ => ?_) (fun h => absurd h (by decide))
        refine G_iinc 1 (v := nI (i + 1)) (ls' := [(3, .int (nI (i + 1))), (4, .int (nI 1)), (2, .int (nI 0)), (0, .ref 38), (1, .int x1)]) d_M_look_75 rfl (nI_1 _) (by decide) rfl ?_
        refine G_goto 45 d_M_look_78 (by decide) ?_
        exact G_sub [0, 2, 3, 4] rfl (ih (i + 1) N (by omega) (by omega) hT hR (fun c hc => (Nat.lt_succ_iff_lt_or_eq.mp hc).elim (hfit c) (fun q => by subst q; rw [← hpe]; exact fz)))
      · rcases h9 with ⟨z2, -⟩ | ⟨-, rfl, rfl⟩
        · exact absurd z z2
        refine G_istore (ls' := [(4, .int (nI 2)), (3, .int (nI i)), (2, .int (nI 0)), (0, .ref 38), (1, .int x1)]) d_M_look_64 (by decide) rfl ?_
        refine G_iload 0 d_M_look_66 rfl ?_
        refine G_iconst (v := nI 1) d_M_look_68 (by decide) ?_
        refine G_iceq 75 d_M_look_69 (by decide) (fun h => absurd h (by decide)) (fun _ => ?_)
        refine G_iload 0 d_M_look_72 rfl ?_
        exact G_iret d_M_look_74 rfl (k2 _ _ r2 t2 (sT_trans (sT_mi8 _ _) hT) hR rfl fh1 fh2 ⟨p, Or.inl ⟨i, hi, hpe⟩, fh3⟩)
set_option maxHeartbeats 4000000 in
set_option maxRecDepth 100000 in
theorem l_M_look1 {K : KC} {M : MC} {o : Nat → Int64} {nc ns : Nat} {d : Nat} {s0 a b n m : Nat} {x1 : Int32} (hS : wfS M) (hC : wfC M) (hP : wfP M) (hQ : wfQ M s0 a b) (hL : livesOk M) (hl : LV M s0) (hn : M.1 7 = nI n) (hn2 : n ≤ 130) (hm : M.1 11 = nI m) (hm2 : m ≤ 130) (hok : okPre M m s0 n) {post : mj_O → mj_H → Prop} (k0 : ∀ N, sT N M → ((∃ i, i < a ∧ misT M (preX M m s0 n).2 ((M.2 60 i).toNatClampNeg)) ∨ ∃ i, i < b ∧ fitT M (preX M m s0 n).2 ((M.2 61 i).toNatClampNeg)) → post (.inl (some (.int (nI 0)))) (hp K N o, nc, ns)) (k1 : ∀ N, sT N M → (∀ i, i < a → fitT M (preX M m s0 n).2 ((M.2 60 i).toNatClampNeg)) → (∀ i, i < b → misT M (preX M m s0 n).2 ((M.2 61 i).toNatClampNeg)) → post (.inl (some (.int (nI 1)))) (hp K N o, nc, ns)) (k2 : ∀ N h r t, sT N M → RepX N (preX M m s0 n) → N.1 8 = nI h → (preX M m s0 n).1[h]? = some (r, t) → (preX M m s0 n).2 r = none → (∃ p, ((∃ i, i < a ∧ p = (M.2 60 i).toNatClampNeg) ∨ ∃ i, i < b ∧ p = (M.2 61 i).toNatClampNeg) ∧ ∃ x ∈ askL M 13 p [], x.1 = r) → post (.inl (some (.int (nI 2)))) (hp K N o, nc, ns)) : ∀ (q i : Nat) (N : MC), i ≤ n → n < i + q → sT N M → RepX N (preX M m s0 i) → mj_G y_M_look b_M_look 5 (some .int) [] (d + 13) none 13 [(3, .int (nI i)), (2, .int (nI 0)), (0, .ref 38), (1, .int x1)] [] (hp K N o, nc, ns) post := by
  obtain ⟨-, q1, q2⟩ := id hS
  intro q
  induction q with
  | zero => intro i N h1 h2; omega
  | succ q ih =>
    intro i N h1 h2 hT hR
    have wS := sT_wfS hT hS
    have wC := sT_wfC hT hC
    obtain ⟨s1, s2, s7, s3, s4, s5, s6, s8, s9⟩ := sT_cs hT
    refine G_iload_n 0 d_M_look_13 rfl ?_
    refine G_aload_n 2 d_M_look_14 rfl ?_
    refine G_gt d_M_look_15 fr_M_136 (rd_M_splits K N o) ?_
    rw [hT.1 7 (by decide) (by decide), hn]
    refine G_icge 43 d_M_look_18 (by decide) (fun h18 => ?_) (fun h18 => ?_)
    · have h18 := (nI_leI (by omega) (by omega)).mp h18
      obtain rfl : i = n := by omega
      obtain ⟨xw, -⟩ := preX_ok hC hL hl i hok
      have hX0 := xw.2.1
      refine G_iconst (v := nI 0) d_M_look_43 (by decide) ?_
      refine G_istore_n (ls' := [(3, .int (nI 0)), (2, .int (nI 0)), (0, .ref 38), (1, .int x1)]) d_M_look_44 (by decide) rfl ?_
      exact G_sub [0, 1, 2, 3] rfl (l_M_look2 hS hC hP hQ hX0 k0 k1 k2 (a + 1) 0 N (by omega) (by omega) hT hR (fun c hc => absurd hc (Nat.not_lt_zero c)))
    · have h18 : ¬ _ := fun z => h18 ((nI_leI (by omega) (by omega)).mpr z)
      have hi : i < n := by omega
      obtain ⟨r, t, a1, a2, e56, e57, a5, a6⟩ := hok i hi
      obtain ⟨xw, xl⟩ := preX_ok hC hL hl i (fun c hc => hok c (by omega))
      have hlt := lt_of_get a1
      refine G_aload_n 2 d_M_look_21 rfl ?_
      refine G_aload_n 2 d_M_look_22 rfl ?_
      refine G_gt d_M_look_23 fr_M_66 (rd_M_holes K N o) ?_
      refine G_iload_n 0 d_M_look_26 rfl ?_
      refine G_ialN d_M_look_27 (ar_56 K N o) (by decide) (by omega) ?_
      rw [hT.2 56 (by decide), e56]
      refine G_aload_n 2 d_M_look_28 rfl ?_
      refine G_gt d_M_look_29 fr_M_69 (rd_M_choice K N o) ?_
      refine G_iload_n 0 d_M_look_32 rfl ?_
      refine G_ialN d_M_look_33 (ar_57 K N o) (by decide) (by omega) ?_
      rw [hT.2 57 (by decide), e57]
      refine G_cvp (fun a9 A9 => a9 = none ∧ ∃ N2 : MC, A9 = (hp K N2 o, nc, ns) ∧ sT N2 M ∧ RepX N2 (preX M m s0 (i + 1))) (As := [.int (nI (hN M i)), .int (nI (jN M i))]) d_M_look_34 cv_M_139 cw_M_fill (ob_M K N o) np_M_fill (Nat.le_of_ble_eq_true rfl) (Nat.le_of_ble_eq_true rfl) (fun post2 kk => ?_) (fun a9 A9 h9 => by obtain ⟨-, N2, rfl, -⟩ := h9; rfl) (fun a9 A9 h9 => ?_)
      · by_cases ht : t = 0
        · subst ht
          refine c_M_fillI (hN M i) (jN M i) m (by omega) (by have := a5 rfl; omega) hm2 (by rw [hT.1 11 (by decide) (by decide), hm]) (hR.2.2 _ _ _ a1).2.1 (kk _ _ ⟨rfl, _, rfl, sT_trans sT_fillI hT, ?_⟩)
          have h5 := RepX_I (j := jN M i) (m := m) (sT_XW hT xw) hR a1
          have h6 : ilab N (jN M i) m = ilab M (jN M i) m := by unfold ilab; rw [hT.2 62 (by decide)]
          rw [h6] at h5
          show RepX _ (stepX M m (preX M m s0 i) (hN M i) (jN M i))
          rw [stepX_I a1]; exact h5
        · refine c_M_fillC (hN M i) (jN M i) (preX M m s0 i).1.length t wS wC (by omega) (hR.2.2 _ _ _ a1).2.1 (by have := (hR.2.2 _ _ _ a1).2.2.1; rw [s1] at this; omega) ht (by rw [sT_optL hT, s2]; exact a6 ht) hR.1 (by omega) (fun c hc hg => kk _ _ ⟨rfl, _, rfl, sT_trans sT_fillC hT, ?_⟩)
          have hcs := (optL_mem (List.mem_of_getElem? hg)).2.1
          have h5 := RepX_C (sT_XW hT xw) hR wC a1 a2 hc hcs (by omega)
          rw [sT_optL hT, s2] at hg
          have h6 : xC N (preX M m s0 i) r c = xC M (preX M m s0 i) r c := by unfold xC; rw [sT_kids hT]
          rw [h6] at h5
          show RepX _ (stepX M m (preX M m s0 i) (hN M i) (jN M i))
          rw [stepX_C a1 ht hg]; exact h5
      obtain ⟨rfl, N2, rfl, hT2, hR2⟩ := h9
      refine G_iinc 0 (v := nI (i + 1)) (ls' := [(3, .int (nI (i + 1))), (2, .int (nI 0)), (0, .ref 38), (1, .int x1)]) d_M_look_37 rfl (nI_1 _) (by decide) rfl ?_
      refine G_goto 13 d_M_look_40 (by decide) ?_
      exact G_sub [0, 1, 2, 3] rfl (ih (i + 1) N2 (by omega) (by omega) hT2 hR2)
theorem LV_lt {M : MC} {s : Nat} (h : LV M s) : s < mS M := by
  obtain ⟨X, h1, h2⟩ := h
  exact (h2 s h1).1
theorem RepX_0 {M : MC} {s0 : Nat} (h : s0 < mS M) : RepX (nodeM (mi M 6 0) 0 (nI s0)) ([([], s0)], fun _ => none) := by
  refine ⟨rfl, (show 1 ≤ 270 by decide), fun v r t hv => ?_⟩
  have h1 : v < 1 := lt_of_get hv
  obtain rfl : v = 0 := by omega
  cases hv
  exact ⟨⟨rfl, (show 0 ≤ 3 by decide)⟩, rfl, h, Or.inl ⟨rfl, rfl⟩⟩
set_option maxHeartbeats 4000000 in
set_option maxRecDepth 100000 in
theorem c_M_look {K : KC} {M : MC} {o : Nat → Int64} {nc ns : Nat} {d : Nat} {s0 a b n m : Nat} (hS : wfS M) (hC : wfC M) (hP : wfP M) (hQ : wfQ M s0 a b) (hL : livesOk M) (hl : LV M s0) (hn : M.1 7 = nI n) (hn2 : n ≤ 130) (hm : M.1 11 = nI m) (hm2 : m ≤ 130) (hok : okPre M m s0 n) {post : mj_O → mj_H → Prop} (k0 : ∀ N, sT N M → ((∃ i, i < a ∧ misT M (preX M m s0 n).2 ((M.2 60 i).toNatClampNeg)) ∨ ∃ i, i < b ∧ fitT M (preX M m s0 n).2 ((M.2 61 i).toNatClampNeg)) → post (.inl (some (.int (nI 0)))) (hp K N o, nc, ns)) (k1 : ∀ N, sT N M → (∀ i, i < a → fitT M (preX M m s0 n).2 ((M.2 60 i).toNatClampNeg)) → (∀ i, i < b → misT M (preX M m s0 n).2 ((M.2 61 i).toNatClampNeg)) → post (.inl (some (.int (nI 1)))) (hp K N o, nc, ns)) (k2 : ∀ N h r t, sT N M → RepX N (preX M m s0 n) → N.1 8 = nI h → (preX M m s0 n).1[h]? = some (r, t) → (preX M m s0 n).2 r = none → (∃ p, ((∃ i, i < a ∧ p = (M.2 60 i).toNatClampNeg) ∨ ∃ i, i < b ∧ p = (M.2 61 i).toNatClampNeg) ∧ ∃ x ∈ askL M 13 p [], x.1 = r) → post (.inl (some (.int (nI 2)))) (hp K N o, nc, ns)) : mj_G y_M_look b_M_look 5 (some .int) [] (d + 13) none 0 [(0, .ref 38), (1, .int (nI s0))] [] (hp K M o, nc, ns) post := by
  refine G_aload_n 0 d_M_look_0 rfl ?_
  refine G_iconst (v := 0) d_M_look_1 (by decide) ?_
  refine G_pt d_M_look_2 fp_M_116 (wr_M_nodes K M o 0) ?_
  refine G_aload_n 0 d_M_look_5 rfl ?_
  refine G_iload_n 1 d_M_look_6 rfl ?_
  refine G_cv1 (some (.int (nI 0))) (hp K (nodeM (mi M 6 0) 0 (nI s0)) o, nc, ns) (As := [.int (nI s0)]) d_M_look_7 cv_M_125 cw_M_node (ob_M K (mi M 6 0) o) np_M_node (Nat.le_of_ble_eq_true rfl) (Nat.le_of_ble_eq_true rfl) (fun post2 k2 => c_M_node (nI s0) 0 rfl (by omega) k2) rfl ?_
  refine G_istore_n (ls' := [(2, .int (nI 0)), (0, .ref 38), (1, .int (nI s0))]) d_M_look_10 (by decide) rfl ?_
  refine G_iconst (v := nI 0) d_M_look_11 (by decide) ?_
  refine G_istore_n (ls' := [(3, .int (nI 0)), (2, .int (nI 0)), (0, .ref 38), (1, .int (nI s0))]) d_M_look_12 (by decide) rfl ?_
  exact G_sub [0, 1, 2, 3] rfl (l_M_look1 hS hC hP hQ hL hl hn hn2 hm hm2 hok k0 k1 k2 (n + 1) 0 _ (by omega) (by omega) (sT_trans sT_node (sT_mi6 _ _)) (RepX_0 (LV_lt hl)))
