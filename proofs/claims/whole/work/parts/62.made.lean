/-! made, in one row for both -/
def mdA (M : MC) (x1 x2 x3 : Int32) : Prop := ∃ c, c < mC M ∧ x1 = nI c ∧ (1 ≤ cP M c → sP M x2 (M.2 41 c)) ∧ (2 ≤ cP M c → sP M x3 (M.2 42 c))
def mdZ (M : MC) (x1 x2 x3 : Int32) : Nat := 1 + (if 1 ≤ cP M x1.toNatClampNeg then pd M x2.toNatClampNeg else 0) + (if 2 ≤ cP M x1.toNatClampNeg then pd M x3.toNatClampNeg else 0)
def mdM (M : MC) (x1 x2 x3 : Int32) : MC := patM (mi M 0 0) (mP M) 2 (M.2 39 x1.toNatClampNeg) x1 x2 x3 (nI (mdZ M x1 x2 x3))
theorem mdA_c {M : MC} {c : Nat} {x2 x3 : Int32} (hc : c < mC M) (h30 : mC M ≤ 30) (h : mdA M (nI c) x2 x3) : (1 ≤ cP M c → sP M x2 (M.2 41 c)) ∧ (2 ≤ cP M c → sP M x3 (M.2 42 c)) := by
  obtain ⟨c2, a1, a2, a3⟩ := h
  have := (nI_eq (by omega) (by omega)).mp a2
  subst this; exact a3
theorem md_IM {M : MC} {cs kk : Nat} {x1 x2 x3 : Int32} (hI : IM M cs kk) (ha : mdA M x1 x2 x3) (h : mP M ≠ 200) (hz : mdZ M x1 x2 x3 ≤ 12) : IM (mdM M x1 x2 x3) cs kk := by
  obtain ⟨c, a1, rfl, a2, a3⟩ := ha
  have q30 := hI.2.1.2.1
  have q200 := hI.2.2.1.2.1
  have ec : (nI c).toNatClampNeg = c := nI_clamp (by omega)
  obtain ⟨-, -, w1, w2⟩ := hI.2.1.2.2 c a1
  unfold mdM
  rw [ec]
  refine made_IM hI h a1 hz (fun e => ?_) (fun e => ?_) (by unfold mdZ; rw [ec])
  · obtain ⟨p, p1, rfl⟩ := iP_of hI.2.2.1 (a2 e).1
    have e2 := (a2 e).2
    rw [nI_clamp (by omega)] at e2
    exact ⟨p, p1, rfl, by show (M.2 44 p).toNatClampNeg = _; rw [e2]⟩
  · obtain ⟨p, p1, rfl⟩ := iP_of hI.2.2.1 (a3 e).1
    have e2 := (a3 e).2
    rw [nI_clamp (by omega)] at e2
    exact ⟨p, p1, rfl, by show (M.2 44 p).toNatClampNeg = _; rw [e2]⟩
theorem mdZ_0 {M : MC} {c : Nat} {x2 x3 : Int32} (hc : c < 2 ^ 31) (e : cP M c = 0) : mdZ M (nI c) x2 x3 = 1 := by
  unfold mdZ; rw [nI_clamp hc, e]; rfl
theorem mdZ_1 {M : MC} {c p : Nat} {x3 : Int32} (hc : c < 2 ^ 31) (e : cP M c = 1) (hq : p < 2 ^ 31) : mdZ M (nI c) (nI p) x3 = 1 + pd M p := by
  unfold mdZ; rw [nI_clamp hc, e, nI_clamp hq]; rfl
theorem mdZ_2 {M : MC} {c p q : Nat} (hc : c < 2 ^ 31) (e : cP M c = 2) (hp1 : p < 2 ^ 31) (hq : q < 2 ^ 31) : mdZ M (nI c) (nI p) (nI q) = 1 + pd M p + pd M q := by
  unfold mdZ; rw [nI_clamp hc, e, nI_clamp hp1, nI_clamp hq]; rfl
theorem made_cases {M : MC} {cs kk : Nat} (hI : IM M cs kk) (x1 : Int32) : (¬ (0 ≤ x1 ∧ x1 < M.1 2)) ∨ ∃ c, c < mC M ∧ x1 = nI c ∧ ((cP M c = 0 ∧ M.2 40 c = nI 0) ∨ (cP M c = 1 ∧ M.2 40 c = nI 1) ∨ (cP M c = 2 ∧ M.2 40 c = nI 2)) := by
  by_cases h : 0 ≤ x1 ∧ x1 < M.1 2
  · have q30 := hI.2.1.2.1
    rw [hI.2.1.1] at h
    obtain ⟨c, hc, rfl⟩ := ix_of (by omega) h
    obtain ⟨-, ⟨e1, e2⟩, -⟩ := hI.2.1.2.2 c hc
    refine Or.inr ⟨c, hc, rfl, ?_⟩
    rcases (show cP M c = 0 ∨ cP M c = 1 ∨ cP M c = 2 by omega) with z | z | z
    · exact Or.inl ⟨z, by rw [← z]; exact e1⟩
    · exact Or.inr (Or.inl ⟨z, by rw [← z]; exact e1⟩)
    · exact Or.inr (Or.inr ⟨z, by rw [← z]; exact e1⟩)
  · exact Or.inl h
theorem mdA_no {M : MC} {cs kk : Nat} (hI : IM M cs kk) {x1 x2 x3 : Int32} (h : ¬ (0 ≤ x1 ∧ x1 < M.1 2)) : ¬ mdA M x1 x2 x3 := by
  rintro ⟨c, a1, rfl, -⟩
  have q30 := hI.2.1.2.1
  refine h ⟨Int32.not_lt.mp (fun z => absurd ((nI_ltI (b := 0) (by omega) (by omega)).mp z) (by omega)), ?_⟩
  rw [hI.2.1.1]; exact (nI_ltI (by omega) (by omega)).mpr a1
theorem c_C_madeU {K : KC} {M : MC} {o : Nat → Int64} {nc ns : Nat} {R : MC} {d cs kk : Nat} (x1 x2 x3 : Int32) (hI : IM R cs kk) (hK : RK K R cs kk) (hr1 : nc + 1 ≤ 601024) (hr2 : ns + 6 ≤ 7293034) {post : mj_O → mj_H → Prop} (t : ¬ mdA R x1 x2 x3 → post (.inr 0) (hp K M o, nc + 1, ns + 6)) (t2 : mdA R x1 x2 x3 → (mP R = 200 ∨ ¬ mdZ R x1 x2 x3 ≤ 12) → post (.inr 1) (hp K M o, nc + 1, ns + 6)) (k : mdA R x1 x2 x3 → mP R ≠ 200 → mdZ R x1 x2 x3 ≤ 12 → ∀ KK, RK KK (mdM R x1 x2 x3) cs kk → post (.inl (some (.int (nI (mP R))))) (hp KK M o, nc, ns)) : mj_G y_C_made b_C_made 6 (some .int) [] (d + 8) none 0 [(0, .ref 0), (1, .int x1), (2, .int x2), (3, .int x3)] [] (hp K M o, nc, ns) post := by
  have q30 := hI.2.1.2.1
  have q200 := hI.2.2.1.2.1
  have sPof : ∀ {x s : Int32} {p : Nat}, p < mP R → x = nI p → R.2 44 p = s → sP R x s := fun {x s p} h1 h2 h3 => by
    subst h2
    refine ⟨iP_nI hI.2.2.1 h1, ?_⟩
    rw [nI_clamp (by omega)]; exact h3
  rcases made_cases hI x1 with h | ⟨c, hc, rfl, h⟩
  · exact c_C_madeN x1 x2 x3 hI hK h hr1 hr2 (t (mdA_no hI h))
  · have eC : ∀ z : Int32, patM (mi R 0 0) (mP R) 2 (R.2 39 (nI c).toNatClampNeg) (nI c) x2 x3 z = patM (mi R 0 0) (mP R) 2 (R.2 39 c) (nI c) x2 x3 z := fun z => by rw [nI_clamp (by omega)]
    rcases h with ⟨h, h40⟩ | ⟨h, h40⟩ | ⟨h, h40⟩
    · have hA : mdA R (nI c) x2 x3 := ⟨c, hc, rfl, fun z => absurd z (by omega), fun z => absurd z (by omega)⟩
      have hz := mdZ_0 (M := R) (x2 := x2) (x3 := x3) (show c < 2 ^ 31 by omega) h
      refine c_C_made0 x2 x3 hI hK hc h40 hr1 hr2 (fun q => t2 hA (Or.inl q)) (fun q KK hq => k hA q (by omega) KK ?_)
      unfold mdM; rw [hz, eC]; exact hq
    · refine c_C_made1 x2 x3 hI hK hc h40 hr1 hr2 (fun q => t (fun z => q ((mdA_c hc q30 z).1 (by omega)))) (fun p p1 p2 p3 q => ?_) (fun p p1 p2 p3 q1 q2 KK hq => ?_)
      · have hA : mdA R (nI c) x2 x3 := ⟨c, hc, rfl, fun z => sPof p1 p2 p3, fun z => absurd z (by omega)⟩
        subst p2
        exact t2 hA (by rw [mdZ_1 (by omega) h (by omega)]; exact q)
      · have hA : mdA R (nI c) x2 x3 := ⟨c, hc, rfl, fun z => sPof p1 p2 p3, fun z => absurd z (by omega)⟩
        subst p2
        have hz := mdZ_1 (M := R) (c := c) (p := p) (x3 := x3) (by omega) h (by omega)
        refine k hA q1 (by omega) KK ?_
        unfold mdM; rw [hz, eC]; exact hq
    · refine c_C_made2 x2 x3 hI hK hc h40 hr1 hr2 (fun q => t (fun z => q ⟨(mdA_c hc q30 z).1 (by omega), (mdA_c hc q30 z).2 (by omega)⟩)) (fun p p' p1 p1' p2 p2' p3 p3' q => ?_) (fun p p' p1 p1' p2 p2' p3 p3' q1 q2 KK hq => ?_)
      · have hA : mdA R (nI c) x2 x3 := ⟨c, hc, rfl, fun z => sPof p1 p2 p3, fun z => sPof p1' p2' p3'⟩
        subst p2 p2'
        exact t2 hA (by rw [mdZ_2 (by omega) h (by omega) (by omega)]; exact q)
      · have hA : mdA R (nI c) x2 x3 := ⟨c, hc, rfl, fun z => sPof p1 p2 p3, fun z => sPof p1' p2' p3'⟩
        subst p2 p2'
        have hz := mdZ_2 (M := R) (c := c) (p := p) (q := p') (by omega) h (by omega) (by omega)
        refine k hA q1 (by omega) KK ?_
        unfold mdM; rw [hz, eC]; exact hq
theorem c_M_madeU {K : KC} {M : MC} {o : Nat → Int64} {nc ns : Nat} {d cs kk : Nat} (x1 x2 x3 : Int32) (hI : IM M cs kk) {post : mj_O → mj_H → Prop} (t : ¬ mdA M x1 x2 x3 → post (.inl (some (.int 0))) (hp K (mi M 0 1) o, nc, ns)) (t2 : mdA M x1 x2 x3 → (mP M = 200 ∨ ¬ mdZ M x1 x2 x3 ≤ 12) → post (.inl (some (.int 0))) (hp K (mi M 0 2) o, nc, ns)) (k : mdA M x1 x2 x3 → mP M ≠ 200 → mdZ M x1 x2 x3 ≤ 12 → post (.inl (some (.int (nI (mP M))))) (hp K (mdM M x1 x2 x3) o, nc, ns)) : mj_G y_M_made b_M_made 7 (some .int) [] (d + 1) none 0 [(0, .ref 38), (1, .int x1), (2, .int x2), (3, .int x3)] [] (hp K M o, nc, ns) post := by
  have q30 := hI.2.1.2.1
  have q200 := hI.2.2.1.2.1
  have sPof : ∀ {x s : Int32} {p : Nat}, p < mP M → x = nI p → M.2 44 p = s → sP M x s := fun {x s p} h1 h2 h3 => by
    subst h2
    refine ⟨iP_nI hI.2.2.1 h1, ?_⟩
    rw [nI_clamp (by omega)]; exact h3
  rcases made_cases hI x1 with h | ⟨c, hc, rfl, h⟩
  · exact c_M_madeN x1 x2 x3 h (t (mdA_no hI h))
  · have eC : ∀ z : Int32, patM (mi M 0 0) (mP M) 2 (M.2 39 (nI c).toNatClampNeg) (nI c) x2 x3 z = patM (mi M 0 0) (mP M) 2 (M.2 39 c) (nI c) x2 x3 z := fun z => by rw [nI_clamp (by omega)]
    rcases h with ⟨h, h40⟩ | ⟨h, h40⟩ | ⟨h, h40⟩
    · have hA : mdA M (nI c) x2 x3 := ⟨c, hc, rfl, fun z => absurd z (by omega), fun z => absurd z (by omega)⟩
      have hz := mdZ_0 (M := M) (x2 := x2) (x3 := x3) (show c < 2 ^ 31 by omega) h
      refine c_M_made0 x2 x3 hI.2.1 hI.2.2.1 hc h40 (fun q => t2 hA (Or.inl q)) (fun q => ?_)
      have hq := k hA q (by omega)
      unfold mdM at hq; rw [hz, eC] at hq; exact hq
    · refine c_M_made1 x2 x3 hI.2.1 hI.2.2.1 hc h40 (fun q => t (fun z => q ((mdA_c hc q30 z).1 (by omega)))) (fun p p1 p2 p3 q => ?_) (fun p p1 p2 p3 q1 q2 => ?_)
      · have hA : mdA M (nI c) x2 x3 := ⟨c, hc, rfl, fun z => sPof p1 p2 p3, fun z => absurd z (by omega)⟩
        subst p2
        exact t2 hA (by rw [mdZ_1 (by omega) h (by omega)]; exact q)
      · have hA : mdA M (nI c) x2 x3 := ⟨c, hc, rfl, fun z => sPof p1 p2 p3, fun z => absurd z (by omega)⟩
        subst p2
        have hz := mdZ_1 (M := M) (c := c) (p := p) (x3 := x3) (by omega) h (by omega)
        have hq := k hA q1 (by omega)
        unfold mdM at hq; rw [hz, eC] at hq; exact hq
    · refine c_M_made2 x2 x3 hI.2.1 hI.2.2.1 hc h40 (fun q => t (fun z => q ⟨(mdA_c hc q30 z).1 (by omega), (mdA_c hc q30 z).2 (by omega)⟩)) (fun p p' p1 p1' p2 p2' p3 p3' q => ?_) (fun p p' p1 p1' p2 p2' p3 p3' q1 q2 => ?_)
      · have hA : mdA M (nI c) x2 x3 := ⟨c, hc, rfl, fun z => sPof p1 p2 p3, fun z => sPof p1' p2' p3'⟩
        subst p2 p2'
        exact t2 hA (by rw [mdZ_2 (by omega) h (by omega) (by omega)]; exact q)
      · have hA : mdA M (nI c) x2 x3 := ⟨c, hc, rfl, fun z => sPof p1 p2 p3, fun z => sPof p1' p2' p3'⟩
        subst p2 p2'
        have hz := mdZ_2 (M := M) (c := c) (p := p) (q := p') (by omega) h (by omega) (by omega)
        have hq := k hA q1 (by omega)
        unfold mdM at hq; rw [hz, eC] at hq; exact hq
theorem con_IM2 {R : MC} {cs kk : Nat} {x1 x2 x3 x4 : Int32} (hI : IM R cs kk) (hr : rC R x1 x2 x3 x4) (h : mC R ≠ 30) : IM (conM (mi R 0 0) (mC R) x1 x2 x3 x4) cs kk := by
  obtain ⟨s, hs, rfl⟩ := iS_of hI.1 hr.2.1
  exact con_IM hI hr hs h
theorem lcmp_self (x : Int64) : lg_cmp x x = 0 := by
  unfold lg_cmp
  rw [if_neg (Int64.lt_irrefl), if_pos rfl]
theorem beg_IM {R : MC} {cs kk s : Nat} (hI : IM R cs kk) (hs : s < mS R) : IM (mi (mi (mi R 0 0) 4 (nI 0)) 5 (nI s)) s 0 := ⟨hI.1, hI.2.1, hI.2.2.1, rfl, by omega, rfl, hs, fun i hi => absurd hi (Nat.not_lt_zero i)⟩
theorem cl_IM {R : MC} {cs kk p : Nat} (hI : IM R cs kk) (h8 : kk < 8) (hp1 : p < mP R) (hps : ps R p = cs) : IM (clM R kk p) cs (kk + 1) := ⟨clM_wfS hI.1, clM_wfC hI.2.1, clM_wfP hI.2.2.1, clM_wfK hI.2.2.1 hI.2.2.2 h8 hp1 hps⟩
section GL
variable {y : MethodName} {cc : ByteArray} {nL : Nat} {rt : Option FieldType} {hh : List (Nat × Nat × Nat × Nat)} {d : Nat} {pc : Nat} {ls : List (Nat × Value)} {st : List Value} {A : mj_H} {post : mj_O → mj_H → Prop}
theorem G_sldN {L i : Nat} {xs : Nat → Int32} (hd : decode cc pc = .ok (.iaload, 1)) (hi : i < L) (hL : L < 2 ^ 31) (kk : mj_G y cc nL rt hh d (some (L, xs)) (pc + 1) ls (.int (xs i) :: st) A post) : mj_G y cc nL rt hh d (some (L, xs)) pc ls (.int (nI i) :: .ref 1000000 :: st) A post := by
  refine G_sld hd (vp_in_nI hi hL) ?_
  rw [nI_clamp (by omega)]; exact kk
end GL
