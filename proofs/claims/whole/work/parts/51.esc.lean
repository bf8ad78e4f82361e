/-! what a sheet's search decides -/
abbrev xN (X : SX) : Nat := X.1.1
abbrev xA (X : SX) (i : Nat) : Int64 := X.1.2.1 i
abbrev xB (X : SX) (i j : Nat) : Int32 := X.1.2.2 i j
abbrev xS (X : SX) (j : Nat) : Int32 := X.2.1.1 j
abbrev xU (X : SX) (j : Nat) : Int32 := X.2.1.2.1 j
abbrev xD (X : SX) (j : Nat) : Int32 := X.2.1.2.2.1 j
abbrev xQ (X : SX) (j : Nat) : Int32 := X.2.1.2.2.2 j
abbrev xP (X : SX) (j : Nat) : List Nat := X.2.2 j
def xlb (X : SX) (i j : Nat) : Int := if xS X j = nI 0 then (xB X i j).toInt else 1099511627776 + (xB X i j).toInt
theorem xlb_inj {X : SX} {i i' j : Nat} (h : xlb X i j = xlb X i' j) : xB X i j = xB X i' j := by
  unfold xlb at h
  by_cases e : xS X j = nI 0
  · rw [if_pos e, if_pos e] at h; exact Int32.toInt_inj.mp h
  · rw [if_neg e, if_neg e] at h; exact Int32.toInt_inj.mp (by omega)
theorem xlb_eq {X : SX} {i i' j : Nat} (h : xB X i j = xB X i' j) : xlb X i j = xlb X i' j := by
  unfold xlb; rw [h]
theorem xlb_c {X : SX} {i j c : Nat} (h : ¬ xS X j = nI 0) (hc : c < 2 ^ 31) (hb : xB X i j = nI c) : xlb X i j = lab c := by
  unfold xlb; rw [if_neg h, hb, nI_toInt hc]; rfl
/-- the labels of a pattern -/
theorem askL_val {R : MC} (hP : wfP R) : ∀ (f p : Nat) (r : List Nat), p < mP R → ∀ x ∈ askL R f p r, (∃ v : Int32, x.2 = v.toInt) ∨ ∃ c, x.2 = lab c ∧ c < mC R := by
  intro f
  induction f with
  | zero => intro p r _ x h; cases h
  | succ f ih =>
    intro p r hp1 x hx
    obtain ⟨⟨-, b43⟩, -, -, w4, w5, w6⟩ := hP.2.2 p hp1
    rcases (show pk R p = 0 ∨ pk R p = 1 ∨ pk R p = 2 by omega) with h | h | h
    · rw [askL_any h] at hx; cases hx
    · rw [askL_num h] at hx
      rw [List.mem_singleton.mp hx]
      exact Or.inl ⟨_, rfl⟩
    · obtain ⟨⟨-, b45, s45⟩, mF, mG, -⟩ := w6 h
      rw [askL_made h] at hx
      rcases List.mem_cons.mp hx with rfl | hx
      · exact Or.inr ⟨_, rfl, b45⟩
      · rcases List.mem_append.mp hx with hx | hx
        · by_cases e : 1 ≤ cP R (pn R p)
          · rw [if_pos e] at hx
            have := (mF e).2.1
            exact ih _ _ (by omega) x hx
          · rw [if_neg e] at hx; cases hx
        · by_cases e : 2 ≤ cP R (pn R p)
          · rw [if_pos e] at hx
            have := (mG e).2.1
            exact ih _ _ (by omega) x hx
          · rw [if_neg e] at hx; cases hx
/-- what is known of a sheet throughout -/
def SXK (R : MC) (s0 n : Nat) (P : Nat → Nat) (X : SX) : Prop := wfS R ∧ wfC R ∧ wfP R ∧ SXI R s0 n P X ∧ xN X ≤ 40
theorem row_lt {R : MC} {s0 n : Nat} {P : Nat → Nat} {X : SX} (hX : SXK R s0 n P X) {i j : Nat} (hi : i < n) (hj : lB (xA X i) j = true) : j < xN X := (hX.2.2.2.1.2 i hi).2.2.1 j hj
theorem row_mem {R : MC} {s0 n : Nat} {P : Nat → Nat} {X : SX} (hX : SXK R s0 n P X) {i j : Nat} (hi : i < n) (hj : lB (xA X i) j = true) : (xP X j, xlb X i j) ∈ askL R 13 (P i) [] := ((hX.2.2.2.1.2 i hi).2.2.2.1 j hj).1
theorem row_all {R : MC} {s0 n : Nat} {P : Nat → Nat} {X : SX} (hX : SXK R s0 n P X) {i : Nat} (hi : i < n) {e : List Nat × Int} (he : e ∈ askL R 13 (P i) []) : ∃ j, lB (xA X i) j = true ∧ xP X j = e.1 ∧ xlb X i j = e.2 := (hX.2.2.2.1.2 i hi).2.2.2.2 e he
theorem row_val {R : MC} {s0 n : Nat} {P : Nat → Nat} {X : SX} (hX : SXK R s0 n P X) {i j : Nat} (hi : i < n) (hj : lB (xA X i) j = true) (hs : ¬ xS X j = nI 0) : ∃ c, c < mC R ∧ xB X i j = nI c ∧ xlb X i j = lab c := by
  have hm := row_mem hX hi hj
  have h30 := hX.2.1.2.1
  have e : xlb X i j = 1099511627776 + (xB X i j).toInt := if_neg hs
  have b1 := toInt_lt (xB X i j)
  rcases askL_val hX.2.2.1 13 (P i) [] (hX.2.2.2.1.2 i hi).1 _ hm with ⟨v, hv⟩ | ⟨c, hc, hc2⟩
  · have b2 := toInt_lt v
    have hv : xlb X i j = v.toInt := hv
    omega
  · have hc : xlb X i j = lab c := hc
    refine ⟨c, hc2, Int32.toInt_inj.mp ?_, hc⟩
    rw [nI_toInt (by omega)]
    unfold lab at hc
    omega
/-- a place below -/
theorem pl_up {R : MC} {s0 n : Nat} {P : Nat → Nat} {X : SX} (hX : SXK R s0 n P X) {j : Nat} (h1 : 1 ≤ j) (h2 : j < xN X) : ∃ a c k, a < j ∧ xU X j = nI a ∧ xD X j = nI c ∧ xQ X j = nI k ∧ c < mC R ∧ k < cP R c ∧ xP X j = k :: xP X a ∧ xS X j = nI (psrt R c k) ∧ ¬ xS X a = nI 0 := by
  obtain ⟨a, c, k, g1, g2, g3, g4, g5, g6, g7, g8, g9⟩ := hX.2.2.2.1.1.2.2.2.1 j h1 h2
  have hc := (hX.2.1.2.2 c g5).1.2
  have h12 := hX.1.2.2
  exact ⟨a, c, k, g1, g2, g3, g4, g5, g6, g7, g8, fun z => by
    have z2 : nI (cS R c) = nI 0 := g9.symm.trans z
    have := (nI_eq (by omega) (by omega)).mp z2
    omega⟩
theorem pl_0 {R : MC} {s0 n : Nat} {P : Nat → Nat} {X : SX} (hX : SXK R s0 n P X) : xP X 0 = [] ∧ xS X 0 = nI s0 := ⟨hX.2.2.2.1.1.2.1, hX.2.2.2.1.1.2.2.1⟩
/-- what a row asks above -/
theorem row_up {R : MC} {s0 n : Nat} {P : Nat → Nat} {X : SX} (hX : SXK R s0 n P X) {i j : Nat} (hi : i < n) (hj : lB (xA X i) j = true) (h1 : j ≠ 0) : ∃ a c k, a < j ∧ xU X j = nI a ∧ xD X j = nI c ∧ xQ X j = nI k ∧ c < mC R ∧ k < cP R c ∧ xP X j = k :: xP X a ∧ xS X j = nI (psrt R c k) ∧ lB (xA X i) a = true ∧ xlb X i a = lab c := by
  have hlt := row_lt hX hi hj
  have h40 := hX.2.2.2.2
  have h30 := hX.2.1.2.1
  obtain ⟨a, c, k, g1, g2, g3, g4, g5, g6, g7, g8, g9⟩ := pl_up hX (by omega) hlt
  obtain ⟨-, y0, y1, y2, y3, y4⟩ := ((hX.2.2.2.1.2 i hi).2.2.2.1 j hj).2.resolve_left h1
  have e : y0 = a := (nI_eq (by omega) (by omega)).mp (y1.symm.trans g2)
  subst e
  exact ⟨y0, c, k, g1, g2, g3, g4, g5, g6, g7, g8, y3, xlb_c g9 (by omega) (y4.trans g3)⟩
theorem pl_uniq {R : MC} {s0 n : Nat} {P : Nat → Nat} {X : SX} (hX : SXK R s0 n P X) {j j' : Nat} (h1 : 1 ≤ j) (h2 : j < xN X) (h3 : 1 ≤ j') (h4 : j' < xN X) (e1 : xU X j = xU X j') (e2 : xD X j = xD X j') (e3 : xQ X j = xQ X j') : j = j' := hX.2.2.2.1.1.2.2.2.2 j j' h1 h2 h3 h4 e1 e2 e3
/-- a place that is there, over what is settled -/
def TH (X : SX) (u : Tr) (y : Int64) (j : Nat) : Prop := j < xN X ∧ (j = 0 ∨ (1 ≤ j ∧ ∃ a c k, a < j ∧ xU X j = nI a ∧ xD X j = nI c ∧ xQ X j = nI k ∧ xP X j = k :: xP X a ∧ lB y a = true ∧ u (xP X a) = some (lab c) ∧ c < 30))
def ES (n : Nat) (R : MC) (s0 : Nat) (X : SX) (x : Int32) (y : Int64) (u : Tr) : Prop := wfT R s0 u ∧ (∀ i, iB x i = true → i < n) ∧ (∀ i, iB x i = true → ∀ j, lB (xA X i) j = true → lB y j = true → u (xP X j) = some (xlb X i j)) ∧ (∀ r a, u r = some a → ∃ j, lB y j = true ∧ xP X j = r) ∧ ∀ j, lB y j = true → TH X u y j
theorem ES_j {R : MC} {s0 n : Nat} {P : Nat → Nat} {X : SX} {x : Int32} {y : Int64} {u : Tr} (hX : SXK R s0 n P X) (hE : ES n R s0 X x y u) {i : Nat} (hi : iB x i = true) : ∀ m j', j' < m → lB (xA X i) j' = true → ∀ j, TH X u y j → xP X j' = xP X j → j' = j := by
  obtain ⟨e1, e2, e3, e4, e5⟩ := hE
  have hin := e2 i hi
  intro m
  induction m with
  | zero => intro j' h; omega
  | succ m ih =>
    intro j' hm hj' j hj he
    by_cases h0 : j' = 0
    · subst h0
      rw [(pl_0 hX).1] at he
      rcases hj.2 with z | ⟨z, a, c, k, g1, g2, g3, g4, g5, g6, g7, hc30⟩
      · exact z.symm
      · rw [g5] at he; cases he
    · obtain ⟨a', c', k', f1, f2, f3, f4, f5, f6, f7, f8, f9, f10⟩ := row_up hX hin hj' h0
      rcases hj.2 with z | ⟨z, a, c, k, g1, g2, g3, g4, g5, g6, g7, hc30⟩
      · subst z
        rw [(pl_0 hX).1, f7] at he; cases he
      · rw [f7, g5] at he
        obtain ⟨ek, ep⟩ := List.cons.inj he
        have ea := ih a' (by omega) f9 a (e5 a g6) ep
        subst ea
        have q1 := e3 i hi a' f9 g6
        rw [g7, f10] at q1
        have ec := lab_inj (Option.some.inj q1)
        subst ec ek
        exact pl_uniq hX (by omega) (row_lt hX hin hj') z hj.1 (f2.trans g2.symm) (f3.trans g3.symm) (f4.trans g4.symm)
theorem ES_none {R : MC} {s0 n : Nat} {P : Nat → Nat} {X : SX} {x : Int32} {y : Int64} {u : Tr} (hX : SXK R s0 n P X) (hE : ES n R s0 X x y u) {i j : Nat} (hi : iB x i = true) (hj : lB (xA X i) j = true) (hy : ¬ lB y j = true) : u (xP X j) = none := by
  cases h : u (xP X j) with
  | none => rfl
  | some a =>
    obtain ⟨j2, z1, z2⟩ := hE.2.2.2.1 _ _ h
    have := ES_j hX hE hi (j + 1) j (by omega) hj j2 (hE.2.2.2.2 j2 z1) z2.symm
    subst this; exact absurd z1 hy
theorem ES_sil {R : MC} {s0 n : Nat} {P : Nat → Nat} {X : SX} {x : Int32} {y : Int64} {u : Tr} (hX : SXK R s0 n P X) (hE : ES n R s0 X x y u) {i j : Nat} (hi : iB x i = true) (hj : TH X u y j) {e : List Nat × Int} (he : e ∈ askL R 13 (P i) []) (h : e.1 = xP X j) : lB (xA X i) j = true ∧ xlb X i j = e.2 := by
  obtain ⟨j2, z1, z2, z3⟩ := row_all hX (hE.2.1 i hi) he
  have := ES_j hX hE hi (j2 + 1) j2 (by omega) z1 j hj (z2.trans h)
  subst this; exact ⟨z1, z3⟩
theorem ES_low {R : MC} {s0 n : Nat} {P : Nat → Nat} {X : SX} {x : Int32} {y : Int64} {u : Tr} (hX : SXK R s0 n P X) (hE : ES n R s0 X x y u) {i j : Nat} (hi : iB x i = true) (hj : lB (xA X i) j = true) (hl : ∀ j', j' < j → lB (xA X i) j' = true → lB y j' = true) : TH X u y j := by
  have hin := hE.2.1 i hi
  refine ⟨row_lt hX hin hj, ?_⟩
  by_cases h0 : j = 0
  · exact Or.inl h0
  · obtain ⟨a, c, k, f1, f2, f3, f4, f5, f6, f7, f8, f9, f10⟩ := row_up hX hin hj h0
    have h30 := hX.2.1.2.1
    refine Or.inr ⟨by omega, a, c, k, f1, f2, f3, f4, f7, hl a f1 f9, ?_, by omega⟩
    rw [← f10]; exact hE.2.2.1 i hi a f9 (hl a f1 f9)
theorem psrt_LV {R : MC} {c k : Nat} (hu : usdV R c) (hk : k < cP R c) (h2 : cP R c ≤ 2) : LV R (psrt R c k) ∧ (c < 30 → pso R (lab c) k = some (psrt R c k)) := by
  unfold psrt
  by_cases h : k = 0
  · subst h
    rw [if_pos rfl]; exact ⟨hu.1 (by omega), fun h3 => pso_lab0 h3 (by omega)⟩
  · obtain rfl : k = 1 := by omega
    rw [if_neg h]; exact ⟨hu.2 (by omega), fun h3 => pso_lab1 h3 (by omega)⟩
theorem okA_lab {R : MC} {s c : Nat} (hc : c < 30) (h : okA R s (lab c)) : c < mC R ∧ cS R c = s ∧ usdV R c := by
  rcases h with ⟨-, z⟩ | ⟨c2, z1, z2, z3, z4⟩
  · exact absurd rfl (z c hc)
  · rw [lab_inj z1]; exact ⟨z2, z3, z4⟩
theorem TH_srt {R : MC} {s0 n : Nat} {P : Nat → Nat} {X : SX} {y : Int64} {u : Tr} (hX : SXK R s0 n P X) (hw : wfT R s0 u) (hL : LV R s0) {j : Nat} (hj : TH X u y j) : ∃ s, xS X j = nI s ∧ srt R s0 u (xP X j) = some s ∧ LV R s := by
  rcases hj.2 with z | ⟨z, a, c, k, g1, g2, g3, g4, g5, g6, g7, hc30⟩
  · subst z
    obtain ⟨h1, h2⟩ := pl_0 hX
    exact ⟨s0, h2, by rw [h1]; rfl, hL⟩
  · obtain ⟨a', c', k', f1, f2, f3, f4, f5, f6, f7, f8, f9⟩ := pl_up hX z hj.1
    have h40 := hX.2.2.2.2
    have h30 := hX.2.1.2.1
    have hN := hj.1
    have h2 := (hX.2.1.2.2 c' f5).2.1.2
    obtain ⟨ek, ep⟩ := List.cons.inj (f7.symm.trans g5)
    obtain ⟨s, s1, s2⟩ := hw _ _ g7
    have ec : c = c' := (nI_eq (by omega) (by omega)).mp (g3.symm.trans f3)
    subst ec
    obtain ⟨-, -, hu⟩ := okA_lab hc30 s2
    subst ek
    obtain ⟨q1, q2⟩ := psrt_LV hu f6 h2
    exact ⟨_, f8, by rw [g5, srt_cons g7]; exact q2 hc30, q1⟩
