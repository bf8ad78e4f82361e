/-! a place more is settled -/
theorem TH_mono {X : SX} {u u' : Tr} {y y' : Int64} {j : Nat} (he : extT u u') (hy : ∀ j, lB y j = true → lB y' j = true) (h : TH X u y j) : TH X u' y' j := ⟨h.1, h.2.imp id (fun ⟨z, a, c, k, g1, g2, g3, g4, g5, g6, g7, g8⟩ => ⟨z, a, c, k, g1, g2, g3, g4, g5, hy a g6, he _ _ g7, g8⟩)⟩
theorem ES_step {R : MC} {s0 n s : Nat} {P : Nat → Nat} {X : SX} {x x' : Int32} {y y' : Int64} {u : Tr} {a : Int} (hX : SXK R s0 n P X) (hE : ES n R s0 X x y u) {j : Nat} (hj : TH X u y j) (hu : u (xP X j) = none) (hs : srt R s0 u (xP X j) = some s) (ha : okA R s a) (hx : ∀ i, iB x' i = true → iB x i = true ∧ (lB (xA X i) j = true → xlb X i j = a)) (hy : ∀ k, lB y' k = true ↔ lB y k = true ∨ k = j) : ES n R s0 X x' y' (updT u (xP X j) a) := by
  obtain ⟨e1, e2, e3, e4, e5⟩ := hE
  have hext : extT u (updT u (xP X j) a) := ext_updT hu
  refine ⟨wfT_upd e1 hu hs ha, fun i hi => e2 i (hx i hi).1, fun i hi k hk hk2 => ?_, fun r b hr => ?_, fun k hk => ?_⟩
  · obtain ⟨h1, h2⟩ := hx i hi
    rcases (hy k).mp hk2 with z | z
    · exact hext _ _ (e3 i h1 k hk z)
    · subst z
      rw [updT_s, h2 hk]
  · by_cases e : r = xP X j
    · exact ⟨j, (hy j).mpr (Or.inr rfl), e.symm⟩
    · rw [updT_n e] at hr
      obtain ⟨k, z1, z2⟩ := e4 r b hr
      exact ⟨k, (hy k).mpr (Or.inl z1), z2⟩
  · rcases (hy k).mp hk with z | z
    · exact TH_mono hext (fun k z => (hy k).mpr (Or.inl z)) (e5 k z)
    · subst z; exact TH_mono hext (fun k z => (hy k).mpr (Or.inl z)) hj
def nvx (P : Nat → Nat) (n : Nat) (x : Int32) : List Nat := ((List.range n).filter (fun i => iB x i)).map P
theorem nvx_mem {P : Nat → Nat} {n : Nat} {x : Int32} {p : Nat} : p ∈ nvx P n x ↔ ∃ i, i < n ∧ iB x i = true ∧ P i = p := by
  unfold nvx
  rw [List.mem_map]
  exact ⟨fun ⟨i, h1, h2⟩ => ⟨i, List.mem_range.mp (List.mem_filter.mp h1).1, (List.mem_filter.mp h1).2, h2⟩, fun ⟨i, h1, h2, h3⟩ => ⟨i, List.mem_filter.mpr ⟨List.mem_range.mpr h1, h2⟩, h3⟩⟩
/-- a value that fits none of the rows x, and is u where u says -/
def SE (R : MC) (s0 n : Nat) (P : Nat → Nat) (x : Int32) (u : Tr) : Prop := Sat R s0 [] (nvx P n x) u
theorem SE_sub {R : MC} {s0 n : Nat} {P : Nat → Nat} {x x' : Int32} {u : Tr} (h : ∀ i, iB x' i = true → iB x i = true) (hs : SE R s0 n P x u) : SE R s0 n P x' u := by
  obtain ⟨t, h1, h2, h3, h4⟩ := hs
  refine ⟨t, h1, h2, h3, fun p hq => ?_⟩
  obtain ⟨i, z1, z2, z3⟩ := nvx_mem.mp hq
  exact h4 p (nvx_mem.mpr ⟨i, z1, h i z2, z3⟩)
theorem SE_0 {R : MC} {s0 n : Nat} {P : Nat → Nat} {x : Int32} {u : Tr} (hw : wfT R s0 u) (h : x = 0) : SE R s0 n P x u := by
  refine ⟨u, fun _ _ z => z, hw, fun p hq => (by cases hq), fun p hq => ?_⟩
  obtain ⟨i, z1, z2, z3⟩ := nvx_mem.mp hq
  rw [h, iB_0] at z2; cases z2
theorem SE_full {R : MC} {s0 n : Nat} {P : Nat → Nat} {X : SX} {x : Int32} {y : Int64} {u : Tr} (hX : SXK R s0 n P X) (hE : ES n R s0 X x y u) {i : Nat} (hi : iB x i = true) (hf : ∀ j, lB (xA X i) j = true → lB y j = true) : ¬ SE R s0 n P x u := by
  rintro ⟨t, h1, h2, h3, h4⟩
  have hin := hE.2.1 i hi
  obtain ⟨e, g1, b, g2, g3⟩ := h4 (P i) (nvx_mem.mpr ⟨i, hin, hi, rfl⟩)
  obtain ⟨j, z1, z2, z3⟩ := row_all hX hin g1
  have q := h1 _ _ (hE.2.2.1 i hi j z1 (hf j z1))
  rw [z2, z3, g2] at q
  exact g3 (Option.some.inj q)
theorem SE_back {R : MC} {s0 n : Nat} {P : Nat → Nat} {X : SX} {x x' : Int32} {y : Int64} {u : Tr} {a : Int} (hX : SXK R s0 n P X) (hE : ES n R s0 X x y u) {j : Nat} (hu : u (xP X j) = none) (hx : ∀ i, iB x i = true → iB x' i = true ∨ (lB (xA X i) j = true ∧ xlb X i j ≠ a)) (hs : SE R s0 n P x' (updT u (xP X j) a)) : SE R s0 n P x u := by
  obtain ⟨t, h1, h2, h3, h4⟩ := hs
  refine ⟨t, fun r b hb => h1 _ _ (ext_updT hu _ _ hb), h2, fun p hq => (by cases hq), fun p hq => ?_⟩
  obtain ⟨i, z1, z2, z3⟩ := nvx_mem.mp hq
  rcases hx i z2 with z | ⟨z4, z5⟩
  · exact h4 p (nvx_mem.mpr ⟨i, z1, z, z3⟩)
  · rw [← z3]
    exact ⟨_, row_mem hX z1 z4, a, h1 _ _ updT_s, fun e => z5 e.symm⟩
theorem SE_fwd {R : MC} {s0 n s : Nat} {P : Nat → Nat} {X : SX} {x : Int32} {y : Int64} {u : Tr} {a : Int} (hX : SXK R s0 n P X) (hE : ES n R s0 X x y u) {j : Nat} (hj : TH X u y j) (hu : u (xP X j) = none) (hs : srt R s0 u (xP X j) = some s) (ha : okA R s a) (hf : ∀ i, iB x i = true → lB (xA X i) j = true → xlb X i j ≠ a) (h : SE R s0 n P x u) : SE R s0 n P x (updT u (xP X j) a) := by
  obtain ⟨t, h1, h2, h3, h4⟩ := h
  refine repl hE.1 hu h1 h2 (srt_mono h1 _ _ hs) ha h3 h4 (fun p hq => by cases hq) (fun p hq e he e1 => ?_)
  obtain ⟨i, z1, z2, z3⟩ := nvx_mem.mp hq
  rw [← z3] at he
  obtain ⟨q1, q2⟩ := ES_sil hX hE z2 hj he e1
  rw [← q2]; exact hf i z2 q1
theorem SE_fwdC {R : MC} {s0 n s : Nat} {P : Nat → Nat} {X : SX} {x : Int32} {y : Int64} {u : Tr} (hX : SXK R s0 n P X) (hE : ES n R s0 X x y u) {j : Nat} (hs : srt R s0 u (xP X j) = some s) (hl : LV R s) (h0 : s ≠ 0) (h : SE R s0 n P x u) : ∃ c, c < mC R ∧ cS R c = s ∧ usdV R c ∧ SE R s0 n P x (updT u (xP X j) (lab c)) := by
  obtain ⟨t, h1, h2, h3, h4⟩ := h
  have hst := srt_mono h1 _ _ hs
  cases ht : t (xP X j) with
  | none =>
    obtain ⟨c, g1, g2, g3, g4⟩ := (LV_step hl).2.resolve_left h0
    refine ⟨c, g1, g2, ⟨g3, g4⟩, updT t (xP X j) (lab c), fun r b hb => ?_, wfT_upd h2 ht hst (Or.inr ⟨c, rfl, g1, g2, g3, g4⟩), fun p hq => (by cases hq), fun p hq => misT_ext (h4 p hq) (ext_updT ht)⟩
    by_cases e : r = xP X j
    · subst e; rw [updT_s] at hb ⊢; exact hb
    · rw [updT_n e] at hb ⊢; exact h1 r b hb
  | some b =>
    obtain ⟨s2, q1, q2⟩ := h2 _ _ ht
    rw [hst] at q1
    cases q1
    rcases q2 with ⟨z, -⟩ | ⟨c, g0, g1, g2, g3⟩
    · exact absurd z h0
    · subst g0
      refine ⟨c, g1, g2, g3, t, fun r b hb => ?_, h2, fun p hq => (by cases hq), h4⟩
      by_cases e : r = xP X j
      · subst e; rw [updT_s] at hb; rw [ht]; exact hb
      · rw [updT_n e] at hb; exact h1 r b hb
theorem BIG_ok {R : MC} : okA R 0 BIG := Or.inl ⟨rfl, fun c hc => by unfold BIG lab; omega⟩
theorem BIG_ne {X : SX} {i j : Nat} (h : xS X j = nI 0) : xlb X i j ≠ BIG := by
  have e : xlb X i j = (xB X i j).toInt := if_pos h
  have := toInt_lt (xB X i j)
  rw [e]; unfold BIG; omega
/-! what a row asks, as a tree -/
theorem row_inj {R : MC} {s0 n : Nat} {P : Nat → Nat} {X : SX} (hX : SXK R s0 n P X) {i i' : Nat} (hi : i < n) (hi' : i' < n) (hag : ∀ j, j < xN X → lB (xA X i) j = true → lB (xA X i') j = true → xB X i j = xB X i' j) : ∀ m j j', j < m → lB (xA X i) j = true → lB (xA X i') j' = true → xP X j = xP X j' → j = j' := by
  intro m
  induction m with
  | zero => intro j j' h; omega
  | succ m ih =>
    intro j j' hm hj hj' he
    by_cases h0 : j = 0
    · subst h0
      by_cases h0' : j' = 0
      · exact h0'.symm
      · obtain ⟨a', c', k', f1, f2, f3, f4, f5, f6, f7, f8, f9, f10⟩ := row_up hX hi' hj' h0'
        rw [(pl_0 hX).1, f7] at he; cases he
    · obtain ⟨a, c, k, g1, g2, g3, g4, g5, g6, g7, g8, g9, g10⟩ := row_up hX hi hj h0
      by_cases h0' : j' = 0
      · subst h0'
        rw [(pl_0 hX).1, g7] at he; cases he
      · obtain ⟨a', c', k', f1, f2, f3, f4, f5, f6, f7, f8, f9, f10⟩ := row_up hX hi' hj' h0'
        rw [g7, f7] at he
        obtain ⟨ek, ep⟩ := List.cons.inj he
        have ea := ih a a' (by omega) g9 f9 ep
        subst ea ek
        have ec : lab c = lab c' := by rw [← g10, ← f10]; exact xlb_eq (hag a (row_lt hX hi g9) g9 f9)
        have ec := lab_inj ec
        subst ec
        exact pl_uniq hX (by omega) (row_lt hX hi hj) (by omega) (row_lt hX hi' hj') (g2.trans f2.symm) (g3.trans f3.symm) (g4.trans f4.symm)
noncomputable def uRow (X : SX) (i : Nat) : Tr := fun r => @dite _ (∃ j, lB (xA X i) j = true ∧ xP X j = r) (Classical.propDecidable _) (fun h => some (xlb X i h.choose)) (fun _ => none)
theorem uRow_at {R : MC} {s0 n : Nat} {P : Nat → Nat} {X : SX} (hX : SXK R s0 n P X) {i j : Nat} (hi : i < n) (hj : lB (xA X i) j = true) : uRow X i (xP X j) = some (xlb X i j) := by
  have h : ∃ j2, lB (xA X i) j2 = true ∧ xP X j2 = xP X j := ⟨j, hj, rfl⟩
  unfold uRow
  rw [dif_pos h]
  have := row_inj hX hi hi (fun _ _ _ _ => rfl) (h.choose + 1) h.choose j (by omega) h.choose_spec.1 hj h.choose_spec.2
  rw [this]
theorem uRow_some {X : SX} {i : Nat} {r : List Nat} {a : Int} (h : uRow X i r = some a) : ∃ j, lB (xA X i) j = true ∧ xP X j = r ∧ a = xlb X i j := by
  unfold uRow at h
  split at h
  · rename_i h2
    exact ⟨h2.choose, h2.choose_spec.1, h2.choose_spec.2, (Option.some.inj h).symm⟩
  · cases h
theorem uRow_fit {R : MC} {s0 n : Nat} {P : Nat → Nat} {X : SX} (hX : SXK R s0 n P X) {i : Nat} (hi : i < n) : fitT R (uRow X i) (P i) := fun e he => by
  obtain ⟨j, z1, z2, z3⟩ := row_all hX hi he
  rw [← z2, ← z3]; exact uRow_at hX hi z1
theorem uRow_ext {R : MC} {s0 n : Nat} {P : Nat → Nat} {X : SX} (hX : SXK R s0 n P X) {i : Nat} (hi : i < n) {t : Tr} (h : fitT R t (P i)) : extT (uRow X i) t := fun r a hr => by
  obtain ⟨j, z1, z2, z3⟩ := uRow_some hr
  have := h _ (row_mem hX hi z1)
  rw [← z2, z3]; exact this
/-- the row's cons have values -/
def HV (R : MC) (X : SX) (i : Nat) : Prop := ∀ j, lB (xA X i) j = true → ¬ xS X j = nI 0 → ∃ c, c < mC R ∧ xB X i j = nI c ∧ usdV R c
theorem uRow_wf {R : MC} {s0 n : Nat} {P : Nat → Nat} {X : SX} (hX : SXK R s0 n P X) {i : Nat} (hi : i < n) (hv : HV R X i) : wfT R s0 (uRow X i) := fun r a hr => by
  obtain ⟨j, z1, z2, z3⟩ := uRow_some hr
  have h30 := hX.2.1.2.1
  obtain ⟨hq1, hq2, -⟩ := hX.2.2.2.1.2 i hi
  obtain ⟨s, s1, s2⟩ := askL_srt (s0 := s0) (t := uRow X i) h30 hX.2.2.1 13 (P i) [] hq1 (by rw [hq2]; rfl) (uRow_fit hX hi) _ (row_mem hX hi z1)
  subst z2 z3
  refine ⟨s, s1, ?_⟩
  rcases s2 with ⟨z, v, hvv⟩ | ⟨c, e1, e2, e3⟩
  · refine Or.inl ⟨z, fun c hc => ?_⟩
    rw [show xlb X i j = v.toInt from hvv]
    exact fun q => lab_ne_int q.symm
  · have e1 : xlb X i j = lab c := e1
    have hS : ¬ xS X j = nI 0 := fun q => by
      have q2 : xlb X i j = (xB X i j).toInt := if_pos q
      exact lab_ne_int (e1.symm.trans q2)
    obtain ⟨c1, y1, y2, y3⟩ := hv j z1 hS
    have : lab c = lab c1 := by rw [← e1]; exact xlb_c hS (by omega) y2
    have := lab_inj this
    subst this
    exact Or.inr ⟨c, e1, e2, e3, y3⟩
theorem fit_HV {R : MC} {s0 n : Nat} {P : Nat → Nat} {X : SX} (hX : SXK R s0 n P X) {i : Nat} (hi : i < n) {t : Tr} (hw : wfT R s0 t) (hf : fitT R t (P i)) : HV R X i := fun j hj hs => by
  obtain ⟨c, c1, c2, c3⟩ := row_val hX hi hj hs
  have h30 := hX.2.1.2.1
  have q := hf _ (row_mem hX hi hj)
  obtain ⟨s, s1, s2⟩ := hw _ _ q
  have s2 : okA R s (xlb X i j) := s2
  rw [c3] at s2
  exact ⟨c, c1, c2, (okA_lab (by omega) s2).2.2⟩
/-- two rows ask the same wherever both ask -/
def AGR (X : SX) (i i' : Nat) : Prop := ∀ j, j < xN X → lB (xA X i) j = true → lB (xA X i') j = true → xB X i j = xB X i' j
theorem ES_row {R : MC} {s0 n : Nat} {P : Nat → Nat} {X : SX} {x : Int32} (hX : SXK R s0 n P X) {i : Nat} (hi : i < n) (hv : HV R X i) (hx : ∀ r, iB x r = true ↔ r < i ∧ AGR X r i) : ES n R s0 X x (xA X i) (uRow X i) := by
  have h30 := hX.2.1.2.1
  refine ⟨uRow_wf hX hi hv, fun r hr => ?_, fun r hr j hj hj2 => ?_, fun r a hr => ?_, fun j hj => ⟨row_lt hX hi hj, ?_⟩⟩
  · have := ((hx r).mp hr).1
    omega
  · rw [uRow_at hX hi hj2, xlb_eq (((hx r).mp hr).2 j (row_lt hX hi hj2) hj hj2)]
  · obtain ⟨j, z1, z2, -⟩ := uRow_some hr
    exact ⟨j, z1, z2⟩
  · by_cases h0 : j = 0
    · exact Or.inl h0
    · obtain ⟨a, c, k, f1, f2, f3, f4, f5, f6, f7, f8, f9, f10⟩ := row_up hX hi hj h0
      refine Or.inr ⟨by omega, a, c, k, f1, f2, f3, f4, f7, f9, ?_, by omega⟩
      rw [← f10]; exact uRow_at hX hi f9
theorem reach_iff {R : MC} {s0 n : Nat} {P : Nat → Nat} {X : SX} {x : Int32} (hX : SXK R s0 n P X) {i : Nat} (hi : i < n) (hv : HV R X i) (hx : ∀ r, iB x r = true ↔ r < i ∧ AGR X r i) : SE R s0 n P x (uRow X i) ↔ Sat R s0 [P i] ((List.range i).map P) (fun _ => none) := by
  constructor
  · rintro ⟨t, h1, h2, h3, h4⟩
    refine ⟨t, fun r a hr => (by cases hr), h2, fun p hq => ?_, fun p hq => ?_⟩
    · rw [List.mem_singleton.mp hq]; exact fitT_ext (uRow_fit hX hi) h1
    · obtain ⟨r, r1, rfl⟩ := List.mem_map.mp hq
      have r2 := List.mem_range.mp r1
      by_cases hag : AGR X r i
      · exact h4 _ (nvx_mem.mpr ⟨r, by omega, (hx r).mpr ⟨r2, hag⟩, rfl⟩)
      · obtain ⟨j, hj⟩ := Classical.not_forall.mp hag
        obtain ⟨j1, hj⟩ := Classical.not_imp.mp hj
        obtain ⟨j2, hj⟩ := Classical.not_imp.mp hj
        obtain ⟨j3, hj⟩ := Classical.not_imp.mp hj
        exact ⟨_, row_mem hX (by omega) j2, xlb X i j, h1 _ _ (uRow_at hX hi j3), fun e => hj (xlb_inj e.symm)⟩
  · rintro ⟨t, h1, h2, h3, h4⟩
    refine ⟨t, uRow_ext hX hi (h3 _ (List.mem_singleton.mpr rfl)), h2, fun p hq => (by cases hq), fun p hq => ?_⟩
    obtain ⟨r, z1, z2, rfl⟩ := nvx_mem.mp hq
    exact h4 _ (List.mem_map.mpr ⟨r, List.mem_range.mpr ((hx r).mp z2).1, rfl⟩)
theorem reach_HV {R : MC} {s0 n : Nat} {P : Nat → Nat} {X : SX} (hX : SXK R s0 n P X) {i : Nat} (hi : i < n) {nv : List Nat} (h : Sat R s0 [P i] nv (fun _ => none)) : HV R X i := by
  obtain ⟨t, h1, h2, h3, h4⟩ := h
  exact fit_HV hX hi h2 (h3 _ (List.mem_singleton.mpr rfl))
theorem ES_open {R : MC} {s0 n : Nat} {X : SX} {x : Int32} (hx : ∀ r, iB x r = true ↔ r < n) : ES n R s0 X x 0 (fun _ => none) :=
  ⟨fun r a h => (by cases h), fun i hi => (hx i).mp hi, fun i _ j _ h => (by rw [lB_0] at h; cases h), fun r a h => (by cases h), fun j h => (by rw [lB_0] at h; cases h)⟩
theorem open_iff {R : MC} {s0 n : Nat} {P : Nat → Nat} {x : Int32} (hx : ∀ r, iB x r = true ↔ r < n) : SE R s0 n P x (fun _ => none) ↔ Sat R s0 [] ((List.range n).map P) (fun _ => none) := by
  have e : nvx P n x = (List.range n).map P := by
    unfold nvx
    rw [List.filter_eq_self.mpr (fun i hi => (hx i).mpr (List.mem_range.mp hi))]
  unfold SE; rw [e]
/-- both rows fit a value at once -/
theorem meet_iff {R : MC} {s0 n : Nat} {P : Nat → Nat} {X : SX} (hX : SXK R s0 n P X) {i i' : Nat} (hi : i < n) (hi' : i' < n) : Sat R s0 [P i, P i'] [] (fun _ => none) ↔ HV R X i ∧ HV R X i' ∧ AGR X i i' := by
  constructor
  · rintro ⟨t, h1, h2, h3, h4⟩
    have f1 := h3 _ List.mem_cons_self
    have f2 := h3 (P i') (List.mem_cons_of_mem _ List.mem_cons_self)
    refine ⟨fit_HV hX hi h2 f1, fit_HV hX hi' h2 f2, fun j hj j1 j2 => xlb_inj ?_⟩
    have q1 := f1 _ (row_mem hX hi j1)
    have q2 := f2 _ (row_mem hX hi' j2)
    exact Option.some.inj (q1.symm.trans q2)
  · rintro ⟨h1, h2, h3⟩
    have w1 := uRow_wf hX hi h1
    have w2 := uRow_wf hX hi' h2
    have cm : ∀ r a b, uRow X i r = some a → uRow X i' r = some b → a = b := fun r a b ha hb => by
      obtain ⟨j, z1, z2, z3⟩ := uRow_some ha
      obtain ⟨j', y1, y2, y3⟩ := uRow_some hb
      have := row_inj hX hi hi' h3 (j + 1) j j' (by omega) z1 y1 (z2.trans y2.symm)
      subst this
      rw [z3, y3]; exact xlb_eq (h3 j (row_lt hX hi z1) z1 y1)
    have e1 : extT (uRow X i) (fun r => (uRow X i r).or (uRow X i' r)) := fun r a ha => by
      show (uRow X i r).or (uRow X i' r) = some a
      rw [ha]; rfl
    have e2 : extT (uRow X i') (fun r => (uRow X i r).or (uRow X i' r)) := fun r b hb => by
      show (uRow X i r).or (uRow X i' r) = some b
      cases ha : uRow X i r with
      | none => exact hb
      | some a => rw [cm r a b ha hb]; rfl
    refine ⟨fun r => (uRow X i r).or (uRow X i' r), fun r a h => (by cases h), fun r a ha => ?_, fun p hq => ?_, fun p hq => (by cases hq)⟩
    · have ha : (uRow X i r).or (uRow X i' r) = some a := ha
      cases h : uRow X i r with
      | some b =>
        rw [h] at ha
        cases ha
        obtain ⟨s, s1, s2⟩ := w1 r _ h
        exact ⟨s, srt_mono e1 _ _ s1, s2⟩
      | none =>
        rw [h] at ha
        obtain ⟨s, s1, s2⟩ := w2 r a ha
        exact ⟨s, srt_mono e2 _ _ s1, s2⟩
    · rcases List.mem_cons.mp hq with rfl | hq
      · exact fitT_ext (uRow_fit hX hi) e1
      · rw [List.mem_singleton.mp hq]; exact fitT_ext (uRow_fit hX hi') e2
