/-! a sheet as it grows: places, one row's bits and asks, and (for the eye alone) the path of each place -/
abbrev SH : Type := (Nat × Int64 × (Nat → Int32)) × ((Nat → Int32) × (Nat → Int32) × (Nat → Int32) × (Nat → Int32)) × (Nat → List Nat)
abbrev zN (h : SH) : Nat := h.1.1
abbrev zA (h : SH) : Int64 := h.1.2.1
abbrev zB (h : SH) : Nat → Int32 := h.1.2.2
abbrev zS (h : SH) : Nat → Int32 := h.2.1.1
abbrev zU (h : SH) : Nat → Int32 := h.2.1.2.1
abbrev zC (h : SH) : Nat → Int32 := h.2.1.2.2.1
abbrev zQ (h : SH) : Nat → Int32 := h.2.1.2.2.2
abbrev zP (h : SH) : Nat → List Nat := h.2.2
def psrt (R : MC) (c k : Nat) : Nat := if k = 0 then cF R c else cG R c
/-- the places are in order -/
def PLW (R : MC) (s0 : Nat) (h : SH) : Prop := 1 ≤ zN h ∧ zP h 0 = [] ∧ zS h 0 = nI s0 ∧
  (∀ j, 1 ≤ j → j < zN h → ∃ a c k, a < j ∧ zU h j = nI a ∧ zC h j = nI c ∧ zQ h j = nI k ∧ c < mC R ∧ k < cP R c ∧ zP h j = k :: zP h a ∧ zS h j = nI (psrt R c k) ∧ zS h a = nI (cS R c)) ∧
  (∀ j j', 1 ≤ j → j < zN h → 1 ≤ j' → j' < zN h → zU h j = zU h j' → zC h j = zC h j' → zQ h j = zQ h j' → j = j')
def extP (h h' : SH) : Prop := zN h ≤ zN h' ∧ ∀ x, x < zN h → zS h' x = zS h x ∧ zU h' x = zU h x ∧ zC h' x = zC h x ∧ zQ h' x = zQ h x ∧ zP h' x = zP h x
theorem extP_refl (h : SH) : extP h h := ⟨Nat.le_refl _, fun _ _ => ⟨rfl, rfl, rfl, rfl, rfl⟩⟩
theorem extP_trans {a b c : SH} (h1 : extP a b) (h2 : extP b c) : extP a c := ⟨Nat.le_trans h1.1 h2.1, fun x hx => by
  obtain ⟨a1, a2, a3, a4, a5⟩ := h1.2 x hx
  obtain ⟨b1, b2, b3, b4, b5⟩ := h2.2 x (Nat.lt_of_lt_of_le hx h1.1)
  exact ⟨b1.trans a1, b2.trans a2, b3.trans a3, b4.trans a4, b5.trans a5⟩⟩
/-- one place more -/
def addP (h : SH) (j c k : Nat) (sv : Int32) : SH := ((zN h + 1, zA h, zB h), (upd (zS h) (zN h) sv, upd (zU h) (zN h) (nI j), upd (zC h) (zN h) (nI c), upd (zQ h) (zN h) (nI k)), fun x => if x = zN h then k :: zP h j else zP h x)
theorem addP_ext (h : SH) (j c k : Nat) (sv : Int32) : extP h (addP h j c k sv) := ⟨Nat.le_succ _, fun x hx => ⟨pk_un (by omega), pk_un (by omega), pk_un (by omega), pk_un (by omega), if_neg (by omega)⟩⟩
theorem addP_PLW {R : MC} {s0 : Nat} {h : SH} {j c k : Nat} (hh : PLW R s0 h) (hj : j < zN h) (hc : c < mC R) (hk : k < cP R c) (hs : zS h j = nI (cS R c)) (hno : ∀ x, 1 ≤ x → x < zN h → ¬ (zU h x = nI j ∧ zC h x = nI c ∧ zQ h x = nI k)) : PLW R s0 (addP h j c k (nI (psrt R c k))) := by
  obtain ⟨h1, h2, h3, h4, h5⟩ := hh
  have hx := (addP_ext h j c k (nI (psrt R c k))).2
  have e1 : zU (addP h j c k (nI (psrt R c k))) (zN h) = nI j := pk_us
  have e2 : zC (addP h j c k (nI (psrt R c k))) (zN h) = nI c := pk_us
  have e3 : zQ (addP h j c k (nI (psrt R c k))) (zN h) = nI k := pk_us
  have e4 : zS (addP h j c k (nI (psrt R c k))) (zN h) = nI (psrt R c k) := pk_us
  have e5 : zP (addP h j c k (nI (psrt R c k))) (zN h) = k :: zP h j := if_pos rfl
  refine ⟨by show 1 ≤ zN h + 1; omega, ?_, ?_, fun x x1 x2 => ?_, fun x x' x1 x2 y1 y2 q1 q2 q3 => ?_⟩
  · rw [(hx 0 (by omega)).2.2.2.2]; exact h2
  · rw [(hx 0 (by omega)).1]; exact h3
  · rcases Nat.lt_succ_iff_lt_or_eq.mp (show x < zN h + 1 from x2) with z | z
    · obtain ⟨a, c', k', g1, g2, g3, g4, g5, g6, g7, g8, g9⟩ := h4 x x1 z
      obtain ⟨b1, b2, b3, b4, b5⟩ := hx x z
      refine ⟨a, c', k', g1, by rw [b2]; exact g2, by rw [b3]; exact g3, by rw [b4]; exact g4, g5, g6, ?_, by rw [b1]; exact g8, ?_⟩
      · rw [b5, (hx a (by omega)).2.2.2.2]; exact g7
      · rw [(hx a (by omega)).1]; exact g9
    · subst z
      refine ⟨j, c, k, hj, e1, e2, e3, hc, hk, ?_, e4, ?_⟩
      · rw [e5, (hx j hj).2.2.2.2]
      · rw [(hx j hj).1]; exact hs
  · rcases Nat.lt_succ_iff_lt_or_eq.mp (show x < zN h + 1 from x2) with z | z <;> rcases Nat.lt_succ_iff_lt_or_eq.mp (show x' < zN h + 1 from y2) with z' | z'
    · obtain ⟨-, b2, b3, b4, -⟩ := hx x z
      obtain ⟨-, c2, c3, c4, -⟩ := hx x' z'
      rw [b2, c2] at q1
      rw [b3, c3] at q2
      rw [b4, c4] at q3
      exact h5 x x' x1 z y1 z' q1 q2 q3
    · obtain ⟨-, b2, b3, b4, -⟩ := hx x z
      rw [z'] at q1 q2 q3
      rw [b2, e1] at q1
      rw [b3, e2] at q2
      rw [b4, e3] at q3
      exact absurd ⟨q1, q2, q3⟩ (hno x x1 z)
    · obtain ⟨-, b2, b3, b4, -⟩ := hx x' z'
      rw [z] at q1 q2 q3
      rw [b2, e1] at q1
      rw [b3, e2] at q2
      rw [b4, e3] at q3
      exact absurd ⟨q1.symm, q2.symm, q3.symm⟩ (hno x' y1 z')
    · omega
def lbv (h : SH) (x : Nat) : Int := if zS h x = nI 0 then (zB h x).toInt else 1099511627776 + (zB h x).toInt
def bOk (h : SH) : Prop := ∀ x, lB (zA h) x = true → x < zN h
/-- what a laid part has added: the entries L, below the place j with the path r -/
def LAY (R : MC) (s0 : Nat) (L : List (List Nat × Int)) (w : Nat) (r : List Nat) (j : Nat) (h h' : SH) : Prop := extP h h' ∧ zN h' + 1 ≤ zN h + w ∧ PLW R s0 h' ∧ bOk h' ∧
  ((∀ x, x < zN h → ¬ r <:+ zP h x → lB (zA h') x = lB (zA h) x ∧ zB h' x = zB h x) ∧ ∀ x, lB (zA h') x = true → ¬ r <:+ zP h' x → x < zN h) ∧
  (∀ x, lB (zA h') x = true → r <:+ zP h' x → (zP h' x, lbv h' x) ∈ L ∧ (x = j ∨ (1 ≤ x ∧ ∃ y, zU h' x = nI y ∧ y < x ∧ lB (zA h') y = true ∧ zB h' y = zC h' x))) ∧
  ∀ e ∈ L, ∃ x, lB (zA h') x = true ∧ zP h' x = e.1 ∧ lbv h' x = e.2
def shA (h : SH) (a : Int64) : SH := ((zN h, a, zB h), h.2)
def shB (h : SH) (b : Nat → Int32) : SH := ((zN h, zA h, b), h.2)
/-- the place itself is asked -/
def setJ (h : SH) (j : Nat) (v : Int32) : SH := shB (shA h (zA h ||| 1 <<< ((nI j).toInt64 &&& 63))) (upd (zB h) j v)
theorem LAY_1 {R : MC} {s0 j : Nat} {h : SH} {v : Int32} {l : Int} (hP : PLW R s0 h) (hb : bOk h) (hj : j < zN h) (h40 : zN h ≤ 40) (hno : ∀ x, lB (zA h) x = true → ¬ zP h j <:+ zP h x) (hl : (if zS h j = nI 0 then v.toInt else 1099511627776 + v.toInt) = l) : LAY R s0 [(zP h j, l)] 1 (zP h j) j h (setJ h j v) := by
  have bit : ∀ x, lB (zA (setJ h j v)) x = (lB (zA h) x || decide (j = x)) := fun x => by
    show lB (zA h ||| 1 <<< ((nI j).toInt64 &&& 63)) x = _
    rw [lB_or, lB_one (by omega)]
  have hbj : zB (setJ h j v) j = v := pk_us
  have hlj : lbv (setJ h j v) j = l := by
    unfold lbv
    rw [hbj]; exact hl
  refine ⟨extP_refl h, by show zN h + 1 ≤ zN h + 1; omega, hP, fun x hx => ?_, ⟨fun x hx hs => ?_, fun x hx hs => ?_⟩, fun x hx hs => ?_, fun e he => ?_⟩
  · rw [bit, Bool.or_eq_true, decide_eq_true_eq] at hx
    rcases hx with hx | rfl
    · exact hb x hx
    · exact hj
  · have hne : x ≠ j := fun e => hs (by rw [e]; exact List.suffix_refl _)
    refine ⟨?_, pk_un hne⟩
    rw [bit, decide_eq_false (fun e => hne e.symm), Bool.or_false]
  · rw [bit, Bool.or_eq_true, decide_eq_true_eq] at hx
    rcases hx with hx | rfl
    · exact hb x hx
    · exact hj
  · rw [bit, Bool.or_eq_true, decide_eq_true_eq] at hx
    rcases hx with hx | rfl
    · exact absurd hs (hno x hx)
    · refine ⟨?_, Or.inl rfl⟩
      rw [hlj]; exact List.mem_cons_self
  · rw [List.mem_singleton.mp he]
    refine ⟨j, ?_, rfl, hlj⟩
    rw [bit, decide_eq_true rfl, Bool.or_true]
theorem lbv_ext {h h' : SH} {x : Nat} (h1 : zS h' x = zS h x) (h2 : zB h' x = zB h x) : lbv h' x = lbv h x := by
  unfold lbv; rw [h1, h2]
/-- a part below is laid behind what was laid -/
theorem LAY_2 {R : MC} {s0 : Nat} {L L' : List (List Nat × Int)} {w w' j c k j3 : Nat} {r : List Nat} {h h2 h3 h4 : SH} (A : LAY R s0 L w r j h h2) (hj : j < zN h) (hr : zP h j = r) (E1 : lB (zA h2) j = true) (E2 : zB h2 j = nI c)
    (B1 : extP h2 h3) (B2 : zN h3 ≤ zN h2 + 1) (B3 : zA h3 = zA h2) (B4 : zB h3 = zB h2) (B5 : 1 ≤ j3 ∧ j3 < zN h3) (B6 : zU h3 j3 = nI j) (B7 : zC h3 j3 = nI c) (B8 : zP h3 j3 = k :: r) (B9 : j < j3)
    (C : LAY R s0 L' w' (k :: r) j3 h3 h4) (hL : ∀ e ∈ L, ¬ (k :: r) <:+ e.1) (hL' : ∀ e ∈ L', (k :: r) <:+ e.1) : LAY R s0 (L ++ L') (w + w') r j h h4 ∧ lB (zA h4) j = true ∧ zB h4 j = nI c := by
  obtain ⟨a1, a2, a3, a4, ⟨a5, a8⟩, a6, a7⟩ := A
  obtain ⟨c1, c2, c3, c4, ⟨c5, c8⟩, c6, c7⟩ := C
  have e14 : extP h h4 := extP_trans a1 (extP_trans B1 c1)
  have e24 : extP h2 h4 := extP_trans B1 c1
  have hj2 : j < zN h2 := Nat.lt_of_lt_of_le hj a1.1
  have nk : ∀ x, lB (zA h2) x = true → ¬ (k :: r) <:+ zP h2 x := fun x hx z => by
    have := (a6 x hx ((List.suffix_cons k r).trans z)).1
    exact hL _ this z
  have lb24 : ∀ x, lB (zA h2) x = true → lB (zA h4) x = true ∧ zB h4 x = zB h2 x ∧ lbv h4 x = lbv h2 x ∧ zP h4 x = zP h2 x := fun x hx => by
    have hx2 := a4 x hx
    have hs := nk x hx
    obtain ⟨q1, -, -, -, q5⟩ := e24.2 x hx2
    have hx3 : x < zN h3 := Nat.lt_of_lt_of_le hx2 B1.1
    obtain ⟨z1, z2⟩ := c5 x hx3 (by rw [(B1.2 x hx2).2.2.2.2]; exact hs)
    exact ⟨by rw [z1, B3]; exact hx, by rw [z2, B4], lbv_ext q1 (by rw [z2, B4]), q5⟩
  have lb42 : ∀ x, lB (zA h4) x = true → ¬ (k :: r) <:+ zP h4 x → lB (zA h2) x = true := fun x hx hs => by
    have hx3 := c8 x hx hs
    have q5 := (c1.2 x hx3).2.2.2.2
    obtain ⟨z1, -⟩ := c5 x hx3 (by rw [← q5]; exact hs)
    rw [← B3, ← z1]; exact hx
  obtain ⟨j1, j2, -, -⟩ := lb24 j E1
  refine ⟨⟨e14, by omega, c3, c4, ⟨fun x hx hs => ?_, fun x hx hs => ?_⟩, fun x hx hs => ?_, fun e he => ?_⟩, j1, by rw [j2]; exact E2⟩
  · have hx2 : x < zN h2 := Nat.lt_of_lt_of_le hx a1.1
    have hx3 : x < zN h3 := Nat.lt_of_lt_of_le hx2 B1.1
    have p2 := (a1.2 x hx).2.2.2.2
    have p3 := (B1.2 x hx2).2.2.2.2
    obtain ⟨z1, z2⟩ := c5 x hx3 (by rw [p3, p2]; exact fun z => hs ((List.suffix_cons k r).trans z))
    rw [z1, z2, B3, B4]
    exact a5 x hx hs
  · have hx2 := lb42 x hx (fun z => hs ((List.suffix_cons k r).trans z))
    have q5 := (lb24 x hx2).2.2.2
    exact a8 x hx2 (by rw [← q5]; exact hs)
  · by_cases hk : (k :: r) <:+ zP h4 x
    · obtain ⟨z1, z2⟩ := c6 x hx hk
      refine ⟨List.mem_append_right _ z1, Or.inr ?_⟩
      rcases z2 with rfl | z2
      · obtain ⟨-, q2, q3, -, -⟩ := c1.2 x B5.2
        exact ⟨B5.1, j, by rw [q2]; exact B6, B9, j1, by rw [j2, E2, q3, B7]⟩
      · exact z2
    · have hx2 := lb42 x hx hk
      obtain ⟨-, -, q3, q4⟩ := lb24 x hx2
      rw [q4] at hs
      obtain ⟨z1, z2⟩ := a6 x hx2 hs
      refine ⟨List.mem_append_left _ (by rw [q3, q4]; exact z1), z2.imp id (fun ⟨g1, y, g2, g3, g4, g5⟩ => ⟨g1, y, ?_, g3, (lb24 y g4).1, ?_⟩)⟩
      · rw [(e24.2 x (a4 x hx2)).2.1]; exact g2
      · rw [(lb24 y g4).2.1, (e24.2 x (a4 x hx2)).2.2.1]; exact g5
  · rcases List.mem_append.mp he with he | he
    · obtain ⟨x, x1, x2, x3⟩ := a7 e he
      obtain ⟨z1, -, z3, z4⟩ := lb24 x x1
      exact ⟨x, z1, by rw [z4]; exact x2, by rw [z3]; exact x3⟩
    · exact c7 e he
