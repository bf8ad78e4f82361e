/-! a sort, a con, a pattern more -/
theorem gro_okP {R' R : MC} (h : gro R' R) (hP : wfP R) (hS : mS R ≤ mS R') {p : Nat} (hp1 : p < mP R) : okP R' p := by
  obtain ⟨w1, w2, w3, w4, w5, w6⟩ := hP.2.2 p hp1
  obtain ⟨a1, a2, a3, a4, a5, a6⟩ := h.2.2.2 p hp1
  obtain ⟨g1, g2, g3, g4, g5, g6⟩ := gro_p h hp1
  unfold okP
  rw [a1, a2, a3, a4, a5, a6, g1, g2, g3, g4, g5, g6]
  refine ⟨w1, ⟨w2.1, Nat.lt_of_lt_of_le w2.2 hS⟩, w3, w4, w5, fun k => ?_⟩
  obtain ⟨⟨b0, b1, b2⟩, mF, mG, b3⟩ := w6 k
  obtain ⟨c1, c2, c3, c4⟩ := gro_c h b1
  rw [c1, c2, c3, c4]
  refine ⟨⟨b0, Nat.lt_of_lt_of_le b1 h.1, b2⟩, fun e => ?_, fun e => ?_, ?_⟩
  · obtain ⟨f1, f2, f3⟩ := mF e
    exact ⟨f1, f2, by rw [(gro_p h (by omega)).2.1]; exact f3⟩
  · obtain ⟨f1, f2, f3⟩ := mG e
    exact ⟨f1, f2, by rw [(gro_p h (by omega)).2.1]; exact f3⟩
  · rw [b3]
    congr 1
    · congr 1
      by_cases e : 1 ≤ cP R (pn R p)
      · have := (mF e).2.1
        rw [if_pos e, if_pos e, (gro_p h (by omega)).2.2.2.2.2]
      · rw [if_neg e, if_neg e]
    · by_cases e : 2 ≤ cP R (pn R p)
      · have := (mG e).2.1
        rw [if_pos e, if_pos e, (gro_p h (by omega)).2.2.2.2.2]
      · rw [if_neg e, if_neg e]
theorem gro_wfP {R' R : MC} (h : gro R' R) (hP : wfP R) (hS : mS R ≤ mS R') (e : R'.1 3 = R.1 3) : wfP R' := by
  have em : mP R' = mP R := by unfold mP; rw [e]
  exact ⟨by rw [em, e]; exact hP.1, by rw [em]; exact hP.2.1, fun p hp1 => gro_okP h hP hS (by rw [← em]; exact hp1)⟩
theorem gro_wfK {R' R : MC} {cs kk : Nat} (h : gro R' R) (hK : wfK R cs kk) (hS : mS R ≤ mS R') (e4 : R'.1 4 = R.1 4) (e5 : R'.1 5 = R.1 5) (e49 : R'.2 49 = R.2 49) : wfK R' cs kk := by
  obtain ⟨h1, h2, h3, h4, h5⟩ := hK
  refine ⟨e4.trans h1, h2, e5.trans h3, Nat.lt_of_lt_of_le h4 hS, fun i hi => ?_⟩
  have ec : cl R' i = cl R i := by unfold cl; rw [e49]
  obtain ⟨g1, g2, g3⟩ := h5 i hi
  rw [ec, e49]
  exact ⟨g1, Nat.lt_of_lt_of_le g2 h.2.1, by rw [(gro_p h g2).2.1]; exact g3⟩
/-! a sort -/
def sortM (R : MC) : MC := mi (mi R 0 0) 1 (nI (mS R + 1))
theorem sort_gro (R : MC) : gro (sortM R) R := ⟨Nat.le_refl _, Nat.le_refl _, fun _ _ => ⟨rfl, rfl, rfl, rfl⟩, fun _ _ => ⟨rfl, rfl, rfl, rfl, rfl, rfl⟩⟩
theorem sort_IM {R : MC} {cs kk : Nat} (hI : IM R cs kk) (h : mS R ≠ 12) : IM (sortM R) cs kk := by
  have q12 := hI.1.2.2
  have em : mS (sortM R) = mS R + 1 := by
    show (nI (mS R + 1)).toNatClampNeg = _
    exact nI_clamp (by omega)
  refine ⟨⟨by rw [em]; rfl, by omega, by omega⟩, ⟨hI.2.1.1, hI.2.1.2.1, fun j hj => ?_⟩, gro_wfP (sort_gro R) hI.2.2.1 (by omega) rfl, gro_wfK (sort_gro R) hI.2.2.2 (by omega) rfl rfl rfl⟩
  obtain ⟨⟨a1, a2, a3⟩, b, c, d⟩ := hI.2.1.2.2 j hj
  exact ⟨⟨a1, a2, by rw [em]; exact Nat.lt_succ_of_lt a3⟩, b, fun z => ⟨(c z).1, by rw [em]; exact Nat.lt_succ_of_lt (c z).2⟩, fun z => ⟨(d z).1, by rw [em]; exact Nat.lt_succ_of_lt (d z).2⟩⟩
theorem fr_rP {K1 K : KC} {R : MC} (h : fr K1 K) (hT : rP K R) : rP K1 R := by
  unfold rP
  rw [h.1, h.2 4 (by omega) (by omega)]; exact hT
theorem fr_frS {K1 K : KC} (h : fr K1 K) : frS K1 K := ⟨fun k h1 h2 => h.2 k (by omega) (by omega), by rw [h.1], fun a _ _ => by rw [h.1]⟩
theorem sort_RK {K K1 : KC} {R : MC} {cs kk : Nat} (hI : IM R cs kk) (hK : RK K R cs kk) (hf : fr K1 (ki K 0 (nI (mS R + 1)))) (hS : rS (ki K 0 (nI (mS R + 1))) (sortM R)) (hL : rL K1 (sortM R)) : RK K1 (sortM R) cs kk :=
  ⟨fr_rS hf hS, fr_rO hf hK.2.1, hL, fr_rP hf hK.2.2.2.1, gro_SHI0 (sort_gro R) hI.2.2.1 hI.2.2.2.2.1 (fun _ _ => rfl) (fr_frS hf) hK.2.2.2.2⟩
theorem sort_rS {K : KC} {R : MC} {cs kk : Nat} (hK : RK K R cs kk) : rS (ki K 0 (nI (mS R + 1))) (sortM R) := ⟨rfl, hK.1.2.1, hK.1.2.2⟩
theorem sort_LV {R : MC} {cs kk : Nat} (hI : IM R cs kk) (h : mS R ≠ 12) (s : Nat) : LV (sortM R) s ↔ LV R s := by
  have q12 := hI.1.2.2
  have em : mS (sortM R) = mS R + 1 := by
    show (nI (mS R + 1)).toNatClampNeg = _
    exact nI_clamp (by omega)
  constructor
  · intro hs
    refine ⟨LV (sortM R), hs, fun t ht => ?_⟩
    have b := (LV_step ht).2
    refine ⟨?_, b⟩
    rcases b with e | ⟨c, hc, e, -⟩
    · rw [e]; exact hI.1.2.1
    · rw [← e]; exact (hI.2.1.2.2 c hc).1.2.2
  · rintro ⟨X, hs, hX⟩
    exact ⟨X, hs, fun t ht => ⟨by rw [em]; exact Nat.lt_succ_of_lt (hX t ht).1, (hX t ht).2⟩⟩
theorem sort_rL {K : KC} {R : MC} {cs kk : Nat} (hI : IM R cs kk) (hK : RK K R cs kk) (h : mS R ≠ 12) : rL (ki K 0 (nI (mS R + 1))) (sortM R) :=
  ⟨fun s => (hK.2.2.1.1 s).trans (sort_LV hI h s).symm, fun c => (hK.2.2.1.2 c).trans (and_congr_right fun _ =>
    ⟨fun q => ⟨fun z => (sort_LV hI h _).mpr (q.1 z), fun z => (sort_LV hI h _).mpr (q.2 z)⟩, fun q => ⟨fun z => (sort_LV hI h _).mp (q.1 z), fun z => (sort_LV hI h _).mp (q.2 z)⟩⟩)⟩
/-! a con -/
theorem le0_lt1 {x : Int32} : x ≤ 0 ↔ x < 1 := by
  rw [Int32.le_iff_toInt_le, Int32.lt_iff_toInt_lt, show (0 : Int32).toInt = 0 by decide, show (1 : Int32).toInt = 1 by decide]; omega
theorem le1_lt2 {x : Int32} : x ≤ 1 ↔ x < 2 := by
  rw [Int32.le_iff_toInt_le, Int32.lt_iff_toInt_lt, show (2 : Int32).toInt = 2 by decide, show (1 : Int32).toInt = 1 by decide]; omega
theorem num_of {x : Int32} (h1 : ¬ x < 0) (h2 : ¬ 2 < x) : ∃ m, m ≤ 2 ∧ x = nI m := by
  rw [Int32.lt_iff_toInt_lt] at h1 h2
  rw [show (0 : Int32).toInt = 0 by decide] at h1
  rw [show (2 : Int32).toInt = 2 by decide] at h2
  refine ⟨x.toInt.toNat, by omega, Int32.toInt_inj.mp ?_⟩
  rw [nI_toInt (by omega)]; omega
theorem con_gro {R : MC} {x1 x2 x3 x4 : Int32} (h30 : mC R ≤ 30) : gro (conM (mi R 0 0) (mC R) x1 x2 x3 x4) R := by
  refine ⟨?_, Nat.le_refl _, fun c hc => ⟨pk_un (by omega), pk_un (by omega), pk_un (by omega), pk_un (by omega)⟩, fun _ _ => ⟨rfl, rfl, rfl, rfl, rfl, rfl⟩⟩
  show mC R ≤ (nI (mC R + 1)).toNatClampNeg
  rw [nI_clamp (by omega)]; omega
theorem con_IM {R : MC} {cs kk s : Nat} {x2 x3 x4 : Int32} (hI : IM R cs kk) (hr : rC R (nI s) x2 x3 x4) (hs : s < mS R) (h : mC R ≠ 30) : IM (conM (mi R 0 0) (mC R) (nI s) x2 x3 x4) cs kk := by
  have q12 := hI.1.2.2
  have q30 := hI.2.1.2.1
  obtain ⟨r1, r2, r3, r4, r5, r6⟩ := hr
  have em : mC (conM (mi R 0 0) (mC R) (nI s) x2 x3 x4) = mC R + 1 := by
    show (nI (mC R + 1)).toNatClampNeg = _
    exact nI_clamp (by omega)
  have hg := con_gro (R := R) (x1 := nI s) (x2 := x2) (x3 := x3) (x4 := x4) q30
  refine ⟨hI.1, ⟨by rw [em]; rfl, by omega, fun j hj => ?_⟩, gro_wfP hg hI.2.2.1 (Nat.le_refl _) rfl, gro_wfK hg hI.2.2.2 (Nat.le_refl _) rfl rfl rfl⟩
  rw [em] at hj
  rcases Nat.lt_succ_iff_lt_or_eq.mp hj with z | z
  · obtain ⟨a, b, c, d⟩ := hI.2.1.2.2 j z
    obtain ⟨c1, c2, c3, c4⟩ := gro_c hg z
    obtain ⟨d1, d2, d3, d4⟩ := hg.2.2.1 j z
    rw [c1, c2, c3, c4, d1, d2, d3, d4]
    exact ⟨a, b, c, d⟩
  · subst z
    have d1 : (conM (mi R 0 0) (mC R) (nI s) x2 x3 x4).2 39 (mC R) = nI s := pk_us
    have d2 : (conM (mi R 0 0) (mC R) (nI s) x2 x3 x4).2 40 (mC R) = x2 := pk_us
    have d3 : (conM (mi R 0 0) (mC R) (nI s) x2 x3 x4).2 41 (mC R) = x3 := pk_us
    have d4 : (conM (mi R 0 0) (mC R) (nI s) x2 x3 x4).2 42 (mC R) = x4 := pk_us
    unfold cS cP cF cG
    rw [d1, d2, d3, d4, nI_clamp (by omega)]
    obtain ⟨m, hm, rfl⟩ := num_of r3 r4
    rw [nI_clamp (by omega)]
    refine ⟨⟨rfl, ?_, hs⟩, ⟨rfl, hm⟩, fun z => ?_, fun z => ?_⟩
    · refine Nat.one_le_iff_ne_zero.mpr (fun e => r1 ?_)
      rw [e]; exact Int32.le_refl _
    · rcases r5 with q | q
      · have q2 := (nI_ltI (b := 1) (by omega) (by omega)).mp q
        omega
      · obtain ⟨t, ht, rfl⟩ := iS_of hI.1 q
        rw [nI_clamp (by omega)]; exact ⟨rfl, ht⟩
    · rcases r6 with q | q
      · have q2 := (nI_ltI (b := 2) (by omega) (by omega)).mp q
        omega
      · obtain ⟨t, ht, rfl⟩ := iS_of hI.1 q
        rw [nI_clamp (by omega)]; exact ⟨rfl, ht⟩
theorem con_rS {K : KC} {R : MC} {cs kk s : Nat} {x2 x3 x4 : Int32} (hI : IM R cs kk) (hK : RK K R cs kk) (hs : s < 12) : rS (conK K (mC R) s x2 x3 x4) (conM (mi R 0 0) (mC R) (nI s) x2 x3 x4) ∧ (mC R ≠ 30 → rO (conK K (mC R) s x2 x3 x4) (conM (mi R 0 0) (mC R) (nI s) x2 x3 x4)) := by
  have q30 := hI.2.1.2.1
  have em : mC (conM (mi R 0 0) (mC R) (nI s) x2 x3 x4) = mC R + 1 := by
    show (nI (mC R + 1)).toNatClampNeg = _
    exact nI_clamp (by omega)
  have hg := con_gro (R := R) (x1 := nI s) (x2 := x2) (x3 := x3) (x4 := x4) q30
  refine ⟨⟨hK.1.1, rfl, fun c hc => ?_⟩, fun h t ht c => ?_⟩
  · rw [em] at hc
    rcases Nat.lt_succ_iff_lt_or_eq.mp hc with z | z
    · obtain ⟨d1, d2, d3, d4⟩ := hg.2.2.1 c z
      rw [d1, d2, d3, d4]
      obtain ⟨e1, e2, e3, e4⟩ := hK.1.2.2 c z
      have f1 : (conK K (mC R) s x2 x3 x4).2.1 3 c = K.2.1 3 c := pk_un (by omega)
      have f2 : (conK K (mC R) s x2 x3 x4).2.1 4 c = K.2.1 4 c := pk_un (by omega)
      have f3 : (conK K (mC R) s x2 x3 x4).2.1 5 c = K.2.1 5 c := pk_un (by omega)
      have f4 : (conK K (mC R) s x2 x3 x4).2.1 6 c = K.2.1 6 c := pk_un (by omega)
      exact ⟨f1.trans e1, f2.trans e2, f3.trans e3, f4.trans e4⟩
    · subst z
      have d1 : (conM (mi R 0 0) (mC R) (nI s) x2 x3 x4).2 39 (mC R) = nI s := pk_us
      have d2 : (conM (mi R 0 0) (mC R) (nI s) x2 x3 x4).2 40 (mC R) = x2 := pk_us
      have d3 : (conM (mi R 0 0) (mC R) (nI s) x2 x3 x4).2 41 (mC R) = x3 := pk_us
      have d4 : (conM (mi R 0 0) (mC R) (nI s) x2 x3 x4).2 42 (mC R) = x4 := pk_us
      have f1 : (conK K (mC R) s x2 x3 x4).2.1 3 (mC R) = nI s := pk_us
      have f2 : (conK K (mC R) s x2 x3 x4).2.1 4 (mC R) = x2 := pk_us
      have f3 : (conK K (mC R) s x2 x3 x4).2.1 5 (mC R) = x3 := pk_us
      have f4 : (conK K (mC R) s x2 x3 x4).2.1 6 (mC R) = x4 := pk_us
      exact ⟨f1.trans d1.symm, f2.trans d2.symm, f3.trans d3.symm, f4.trans d4.symm⟩
  · rw [em]
    have hnew : cS (conM (mi R 0 0) (mC R) (nI s) x2 x3 x4) (mC R) = s := by
      have d1 : (conM (mi R 0 0) (mC R) (nI s) x2 x3 x4).2 39 (mC R) = nI s := pk_us
      unfold cS; rw [d1, nI_clamp (by omega)]
    have ho := hK.2.1 t ht c
    have hold : (c < mC R ∧ cS R c = t) ↔ (c < mC R ∧ cS (conM (mi R 0 0) (mC R) (nI s) x2 x3 x4) c = t) := and_congr_right (fun z => by rw [(gro_c hg z).1])
    rw [hold] at ho
    by_cases e : t = s
    · subst e
      have f : (conK K (mC R) t x2 x3 x4).2.1 2 t = K.2.1 2 t ||| 1 <<< (nI (mC R) &&& 31) := pk_us
      rw [f, iB_or, Bool.or_eq_true, ho, iB_one (by omega), decide_eq_true_eq]
      constructor
      · rintro (⟨a, b⟩ | rfl)
        · exact ⟨by omega, b⟩
        · exact ⟨by omega, hnew⟩
      · rintro ⟨a, b⟩
        rcases Nat.lt_succ_iff_lt_or_eq.mp a with z | z
        · exact Or.inl ⟨z, b⟩
        · exact Or.inr z.symm
    · have f : (conK K (mC R) s x2 x3 x4).2.1 2 t = K.2.1 2 t := pk_un e
      rw [f, ho]
      constructor
      · rintro ⟨a, b⟩
        exact ⟨by omega, b⟩
      · rintro ⟨a, b⟩
        rcases Nat.lt_succ_iff_lt_or_eq.mp a with z | z
        · exact ⟨z, b⟩
        · subst z; exact absurd (b.symm.trans hnew) e
theorem con_RK {K K1 : KC} {R : MC} {cs kk s : Nat} {x2 x3 x4 : Int32} (hI : IM R cs kk) (hK : RK K R cs kk) (hs : s < 12) (h : mC R ≠ 30) (hf : fr K1 (conK K (mC R) s x2 x3 x4)) (hL : rL K1 (conM (mi R 0 0) (mC R) (nI s) x2 x3 x4)) : RK K1 (conM (mi R 0 0) (mC R) (nI s) x2 x3 x4) cs kk := by
  obtain ⟨h1, h2⟩ := con_rS (x2 := x2) (x3 := x3) (x4 := x4) hI hK hs
  have h4 : rP (conK K (mC R) s x2 x3 x4) (conM (mi R 0 0) (mC R) (nI s) x2 x3 x4) := hK.2.2.2.1
  have h5 : frS (conK K (mC R) s x2 x3 x4) K := ⟨fun k a b => pk_un (by omega), rfl, fun a a1 a2 => by
    show va_up (va_up (va_up (va_up (va_up K.2.1 3 _) 4 _) 5 _) 6 _) 2 _ a = _
    rw [va_up_ne _ _ (by omega), va_up_ne _ _ (by omega), va_up_ne _ _ (by omega), va_up_ne _ _ (by omega), va_up_ne _ _ (by omega)]⟩
  have h6 := fr_frS hf
  exact ⟨fr_rS hf h1, fr_rO hf (h2 h), hL, fr_rP hf h4, gro_SHI0 (con_gro hI.2.1.2.1) hI.2.2.1 hI.2.2.2.2.1 (fun _ _ => rfl) ⟨fun k a b => (h6.1 k a b).trans (h5.1 k a b), h6.2.1.trans h5.2.1, fun a a1 a2 => (h6.2.2 a a1 a2).trans (h5.2.2 a a1 a2)⟩ hK.2.2.2.2⟩
/-! a pattern -/
theorem pat_gro {R : MC} {a s t f g z : Int32} (h : mP R ≤ 200) : gro (patM (mi R 0 0) (mP R) a s t f g z) R := by
  refine ⟨Nat.le_refl _, ?_, fun c hc => ⟨rfl, rfl, rfl, rfl⟩, fun p hp1 => ⟨pk_un (by omega), pk_un (by omega), pk_un (by omega), pk_un (by omega), pk_un (by omega), pk_un (by omega)⟩⟩
  show mP R ≤ (nI (mP R + 1)).toNatClampNeg
  rw [nI_clamp (by omega)]; omega
theorem pat_IM {R : MC} {cs kk : Nat} {a s t f g z : Int32} (hI : IM R cs kk) (h : mP R ≠ 200) (hn : okP (patM (mi R 0 0) (mP R) a s t f g z) (mP R)) : IM (patM (mi R 0 0) (mP R) a s t f g z) cs kk := by
  have q200 := hI.2.2.1.2.1
  have hg := pat_gro (R := R) (a := a) (s := s) (t := t) (f := f) (g := g) (z := z) q200
  have em : mP (patM (mi R 0 0) (mP R) a s t f g z) = mP R + 1 := by
    show (nI (mP R + 1)).toNatClampNeg = _
    exact nI_clamp (by omega)
  refine ⟨hI.1, hI.2.1, ⟨by rw [em]; rfl, by omega, fun p hp1 => ?_⟩, gro_wfK hg hI.2.2.2 (Nat.le_refl _) rfl rfl rfl⟩
  rw [em] at hp1
  rcases Nat.lt_succ_iff_lt_or_eq.mp hp1 with q | q
  · exact gro_okP hg hI.2.2.1 (Nat.le_refl _) q
  · subst q; exact hn
theorem pat_RK {K K' : KC} {R : MC} {cs kk : Nat} {a s t f g z : Int32} (hI : IM R cs kk) (hK : RK K R cs kk) (h1 : ∀ k, k ≠ 4 → K'.1 k = K.1 k) (h2 : ∀ b, (b < 8 ∨ 13 < b) → K'.2.1 b = K.2.1 b) (h3 : K'.2.2 = K.2.2) (h4 : K'.1 4 = nI (mP R + 1)) (h5 : ∀ p, p ≠ mP R → ∀ b, K'.2.1 b p = K.2.1 b p) (h6 : K'.2.1 8 (mP R) = a ∧ K'.2.1 9 (mP R) = s ∧ K'.2.1 10 (mP R) = t ∧ K'.2.1 13 (mP R) = z ∧ (a = nI 2 → K'.2.1 11 (mP R) = f ∧ K'.2.1 12 (mP R) = g)) (ha : a = nI a.toNatClampNeg) : RK K' (patM (mi R 0 0) (mP R) a s t f g z) cs kk := by
  have q200 := hI.2.2.1.2.1
  have hg := pat_gro (R := R) (a := a) (s := s) (t := t) (f := f) (g := g) (z := z) q200
  have em : mP (patM (mi R 0 0) (mP R) a s t f g z) = mP R + 1 := by
    show (nI (mP R + 1)).toNatClampNeg = _
    exact nI_clamp (by omega)
  refine ⟨?_, ?_, ?_, ⟨h4, fun p hp1 => ?_⟩, gro_SHI0 hg hI.2.2.1 hI.2.2.2.2.1 (fun _ _ => rfl) ⟨fun k k1 k2 => h1 k (by omega), by rw [h3], fun b b1 b2 => h2 b (by omega)⟩ hK.2.2.2.2⟩
  · have : rS K' R := by
      unfold rS
      rw [h1 0 (by omega), h1 1 (by omega), h2 3 (by omega), h2 4 (by omega), h2 5 (by omega), h2 6 (by omega)]; exact hK.1
    exact this
  · have : rO K' R := by
      unfold rO
      rw [h2 2 (by omega)]; exact hK.2.1
    exact this
  · have : rL K' R := by
      unfold rL
      rw [h1 2 (by omega), h1 3 (by omega)]; exact hK.2.2.1
    exact this
  · rw [em] at hp1
    rcases Nat.lt_succ_iff_lt_or_eq.mp hp1 with q | q
    · obtain ⟨d1, d2, d3, d4, d5, d6⟩ := hg.2.2.2 p q
      obtain ⟨g1, -⟩ := gro_p hg q
      have hne : p ≠ mP R := by omega
      rw [d1, d2, d3, d4, d5, d6, g1, h5 p hne, h5 p hne, h5 p hne, h5 p hne, h5 p hne, h5 p hne]
      exact hK.2.2.2.1.2 p q
    · subst q
      have d1 : (patM (mi R 0 0) (mP R) a s t f g z).2 43 (mP R) = a := pk_us
      have d2 : (patM (mi R 0 0) (mP R) a s t f g z).2 44 (mP R) = s := pk_us
      have d3 : (patM (mi R 0 0) (mP R) a s t f g z).2 45 (mP R) = t := pk_us
      have d4 : (patM (mi R 0 0) (mP R) a s t f g z).2 46 (mP R) = f := pk_us
      have d5 : (patM (mi R 0 0) (mP R) a s t f g z).2 47 (mP R) = g := pk_us
      have d6 : (patM (mi R 0 0) (mP R) a s t f g z).2 48 (mP R) = z := pk_us
      unfold pk
      rw [d1, d2, d3, d4, d5, d6]
      obtain ⟨e1, e2, e3, e4, e5⟩ := h6
      exact ⟨e1, e2, e3, e4, fun q => e5 (by rw [ha, q])⟩
