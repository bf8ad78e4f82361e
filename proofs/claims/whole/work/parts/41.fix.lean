/-! which sorts live: round by round, as the class finds it -/
def pin (M : MC) (X : Nat → Prop) (c : Nat) : Prop := (1 ≤ cP M c → X (cF M c)) ∧ (2 ≤ cP M c → X (cG M c))
def stL (M : MC) : Nat → Nat → Prop
  | 0, s => s < mS M
  | r + 1, s => s < mS M ∧ (s = 0 ∨ ∃ c, c < mC M ∧ cS M c = s ∧ pin M (stL M r) c)
theorem pin_mono {M : MC} {X Y : Nat → Prop} (h : ∀ s, X s → Y s) {c : Nat} (hp : pin M X c) : pin M Y c := ⟨fun z => h _ (hp.1 z), fun z => h _ (hp.2 z)⟩
theorem stL_dec {M : MC} : ∀ r s, stL M (r + 1) s → stL M r s := by
  intro r
  induction r with
  | zero => intro s h; exact h.1
  | succ r ih =>
    intro s h
    refine ⟨h.1, h.2.imp id (fun ⟨c, h1, h2, h3⟩ => ⟨c, h1, h2, pin_mono ih h3⟩)⟩
theorem stL_next {M : MC} {r : Nat} (h : ∀ s, stL M r s → stL M (r + 1) s) : ∀ s, stL M (r + 1) s → stL M (r + 2) s := fun s hs => ⟨hs.1, hs.2.imp id (fun ⟨c, h1, h2, h3⟩ => ⟨c, h1, h2, pin_mono h h3⟩)⟩
theorem rcnt_lt {P Q : Nat → Prop} {n i : Nat} (hi : i < n) (hPQ : ∀ j, P j → Q j) (hQ : Q i) (hP : ¬ P i) : rcnt P n < rcnt Q n := by
  have le : ∀ n, rcnt P n ≤ rcnt Q n := by
    intro n
    induction n with
    | zero => exact Nat.le_refl _
    | succ n ih =>
      by_cases h : P n
      · rw [rcnt_y h, rcnt_y (hPQ n h)]; omega
      · rw [rcnt_n h]
        by_cases h2 : Q n
        · rw [rcnt_y h2]; omega
        · rw [rcnt_n h2]; exact ih
  induction n with
  | zero => omega
  | succ n ih =>
    by_cases e : i = n
    · subst e
      rw [rcnt_n hP, rcnt_y hQ]
      have := le i; omega
    · have := ih (by omega)
      by_cases h : P n
      · rw [rcnt_y h, rcnt_y (hPQ n h)]; omega
      · rw [rcnt_n h]
        by_cases h2 : Q n
        · rw [rcnt_y h2]; omega
        · rw [rcnt_n h2]; exact this
theorem stL_fix {M : MC} (hS : wfS M) : ∀ s, stL M (mS M - 1) s → stL M (mS M) s := by
  have h1 := hS.2.1
  have key : ∀ r, (∀ s, stL M r s → stL M (r + 1) s) ∨ rcnt (stL M (r + 1)) (mS M) + (r + 1) ≤ mS M := by
    intro r
    induction r with
    | zero =>
      by_cases h : ∀ s, stL M 0 s → stL M 1 s
      · exact Or.inl h
      · obtain ⟨s, hs⟩ := Classical.not_forall.mp h
        have q1 : stL M 0 s := Classical.byContradiction fun z => hs (fun y => absurd y z)
        have q2 : ¬ stL M 1 s := fun z => hs (fun _ => z)
        have := rcnt_lt (P := stL M 1) (Q := stL M 0) (n := mS M) (i := s) q1 (stL_dec 0) q1 q2
        have := rcnt_le (stL M 0) (mS M)
        exact Or.inr (show rcnt (stL M 1) (mS M) + (0 + 1) ≤ mS M by omega)
    | succ r ih =>
      rcases ih with ih | ih
      · exact Or.inl (stL_next ih)
      · by_cases h : ∀ s, stL M (r + 1) s → stL M (r + 2) s
        · exact Or.inl h
        · obtain ⟨s, hs⟩ := Classical.not_forall.mp h
          have q1 : stL M (r + 1) s := Classical.byContradiction fun z => hs (fun y => absurd y z)
          have q2 : ¬ stL M (r + 2) s := fun z => hs (fun _ => z)
          have := rcnt_lt (P := stL M (r + 2)) (Q := stL M (r + 1)) (n := mS M) (i := s) q1.1 (stL_dec (r + 1)) q1 q2
          exact Or.inr (show rcnt (stL M (r + 2)) (mS M) + (r + 1 + 1) ≤ mS M by omega)
  have e : mS M - 1 + 1 = mS M := by omega
  rcases key (mS M - 1) with h | h
  · rw [e] at h; exact h
  · exfalso
    have z0 : stL M (mS M - 1 + 1) 0 := ⟨by omega, Or.inl rfl⟩
    have := rcnt_lt (P := fun _ => False) (Q := stL M (mS M - 1 + 1)) (n := mS M) (i := 0) (by omega) (fun _ z => z.elim) z0 (fun z => z)
    omega
theorem LV_stL {M : MC} : ∀ r s, LV M s → stL M r s := by
  intro r
  induction r with
  | zero => intro s h; exact (LV_step h).1
  | succ r ih =>
    intro s h
    obtain ⟨h1, h2⟩ := LV_step h
    exact ⟨h1, h2.imp id (fun ⟨c, a, b, e1, e2⟩ => ⟨c, a, b, fun z => ih _ (e1 z), fun z => ih _ (e2 z)⟩)⟩
theorem stL_LV {M : MC} (hS : wfS M) (s : Nat) : stL M (mS M) s ↔ LV M s := by
  refine ⟨fun h => ⟨stL M (mS M), h, fun t ht => ?_⟩, LV_stL _ s⟩
  have h1 := hS.2.1
  obtain ⟨n, e⟩ : ∃ n, mS M = n + 1 := ⟨mS M - 1, by omega⟩
  have fx := stL_fix hS
  rw [e] at ht fx
  obtain ⟨a, b⟩ := ht
  refine ⟨a, b.imp id (fun ⟨c, c1, c2, c3⟩ => ⟨c, c1, c2, ?_⟩)⟩
  rw [e]
  exact pin_mono (M := M) (X := stL M n) (Y := stL M (n + 1)) fx c3
theorem stL_pin {M : MC} (hS : wfS M) {c : Nat} : pin M (stL M (mS M - 1)) c ↔ usdV M c := by
  constructor
  · intro h
    exact pin_mono (Y := LV M) (fun s hs => (stL_LV hS s).mp (stL_fix hS s hs)) h
  · intro h
    exact pin_mono (X := LV M) (fun s hs => LV_stL _ s hs) h
