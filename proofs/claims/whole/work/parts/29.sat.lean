/-! what both sides decide -/
def fitT (M : MC) (t : Tr) (p : Nat) : Prop := ∀ x ∈ askL M 13 p [], t x.1 = some x.2
def misT (M : MC) (t : Tr) (p : Nat) : Prop := ∃ x ∈ askL M 13 p [], ∃ b, t x.1 = some b ∧ b ≠ x.2
def extT (u t : Tr) : Prop := ∀ r a, u r = some a → t r = some a
def Sat (M : MC) (s0 : Nat) (ms nv : List Nat) (u : Tr) : Prop := ∃ t, extT u t ∧ wfT M s0 t ∧ (∀ p ∈ ms, fitT M t p) ∧ ∀ p ∈ nv, misT M t p
theorem fitT_ext {M : MC} {t u : Tr} {p : Nat} (h : fitT M t p) (he : extT t u) : fitT M u p := fun x hx => he _ _ (h x hx)
theorem misT_ext {M : MC} {t u : Tr} {p : Nat} (h : misT M t p) (he : extT t u) : misT M u p := by
  obtain ⟨x, hx, b, h1, h2⟩ := h
  exact ⟨x, hx, b, he _ _ h1, h2⟩
theorem Sat_up {M : MC} {s0 : Nat} {ms nv : List Nat} {u : Tr} {r : List Nat} {a : Int} (h : u r = none) (hs : Sat M s0 ms nv (updT u r a)) : Sat M s0 ms nv u := by
  obtain ⟨t, h1, h2⟩ := hs
  exact ⟨t, fun q b hb => h1 q b (ext_updT h q b hb), h2⟩
theorem askL_suf {M : MC} : ∀ (f p : Nat) (r : List Nat) (x : List Nat × Int), x ∈ askL M f p r → r <:+ x.1 := by
  intro f
  induction f with
  | zero => intro p r x h; cases h
  | succ f ih =>
    intro p r x h
    unfold askL at h
    split at h
    · cases h
    · split at h
      · rw [List.mem_singleton.mp h]; exact List.suffix_refl r
      · rcases List.mem_cons.mp h with rfl | h
        · exact List.suffix_refl r
        · rcases List.mem_append.mp h with h | h
          · split at h
            · exact (List.suffix_cons 0 r).trans (ih _ _ _ h)
            · cases h
          · split at h
            · exact (List.suffix_cons 1 r).trans (ih _ _ _ h)
            · cases h
theorem suf_step {r q : List Nat} {k : Nat} {z : List Nat} (h1 : r <:+ q) (h2 : q <:+ z) (h3 : (k :: r) <:+ z) (hne : q ≠ r) : (k :: r) <:+ q := by
  refine List.suffix_of_suffix_length_le h3 h2 ?_
  have h4 := h1.length_le
  have h5 : r.length ≠ q.length := fun e => hne (h1.eq_of_length e).symm
  show r.length + 1 ≤ q.length
  omega
theorem askL_pre {M : MC} : ∀ (f p : Nat) (r q : List Nat) (x : List Nat × Int), x ∈ askL M f p r → r <:+ q → q <:+ x.1 → ∃ a, (q, a) ∈ askL M f p r := by
  intro f
  induction f with
  | zero => intro p r q x h; cases h
  | succ f ih =>
    intro p r q x h h1 h2
    by_cases e : q = r
    · subst e
      unfold askL at h ⊢
      split at h
      · cases h
      · next e0 =>
        rw [if_neg e0]
        split at h
        · next e1 => rw [if_pos e1]; exact ⟨_, List.mem_cons_self⟩
        · next e1 => rw [if_neg e1]; exact ⟨_, List.mem_cons_self⟩
    · unfold askL at h ⊢
      split at h
      · cases h
      · next e0 =>
        rw [if_neg e0]
        split at h
        · rw [List.mem_singleton.mp h] at h2
          exact absurd (List.IsSuffix.eq_of_length_le h2 h1.length_le) e
        · next e1 =>
          rw [if_neg e1]
          rcases List.mem_cons.mp h with rfl | h
          · exact absurd (List.IsSuffix.eq_of_length_le h2 h1.length_le) e
          · rcases List.mem_append.mp h with h | h
            · split at h
              · next e2 =>
                rw [if_pos e2]
                obtain ⟨a, ha⟩ := ih _ _ q x h (suf_step h1 h2 (askL_suf _ _ _ _ h) e) h2
                exact ⟨a, List.mem_cons_of_mem _ (List.mem_append_left _ ha)⟩
              · cases h
            · split at h
              · next e2 =>
                rw [if_pos e2]
                obtain ⟨a, ha⟩ := ih _ _ q x h (suf_step h1 h2 (askL_suf _ _ _ _ h) e) h2
                exact ⟨a, List.mem_cons_of_mem _ (List.mem_append_right _ ha)⟩
              · cases h
/-- where a pattern fits, its nodes' sorts are the tree's -/
theorem askL_srt {M : MC} {s0 : Nat} {t : Tr} (hC : mC M ≤ 30) (hP : wfP M) : ∀ (f p : Nat) (r : List Nat), p < mP M → srt M s0 t r = some (ps M p) → (∀ x ∈ askL M f p r, t x.1 = some x.2) → ∀ x ∈ askL M f p r, ∃ s, srt M s0 t x.1 = some s ∧ ((s = 0 ∧ ∃ v : Int32, x.2 = v.toInt) ∨ ∃ c, x.2 = lab c ∧ c < mC M ∧ cS M c = s) := by
  intro f
  induction f with
  | zero => intro p r _ _ _ x h; cases h
  | succ f ih =>
    intro p r hp hs hf x hx
    obtain ⟨⟨-, b43⟩, -, -, w4, w5, w6⟩ := hP.2.2 p hp
    rcases (show pk M p = 0 ∨ pk M p = 1 ∨ pk M p = 2 by omega) with h | h | h
    · rw [askL_any h] at hx; cases hx
    · rw [askL_num h] at hx
      rw [List.mem_singleton.mp hx]
      exact ⟨_, hs, Or.inl ⟨(w5 h).1, _, rfl⟩⟩
    · obtain ⟨⟨-, b45, s45⟩, mF, mG, -⟩ := w6 h
      rw [askL_made h] at hx hf
      have h0 : t r = some (lab (pn M p)) := hf _ List.mem_cons_self
      rcases List.mem_cons.mp hx with rfl | hx
      · exact ⟨_, hs, Or.inr ⟨_, rfl, b45, s45.symm⟩⟩
      · rcases List.mem_append.mp hx with hx | hx
        · by_cases e : 1 ≤ cP M (pn M p)
          · rw [if_pos e] at hx hf
            obtain ⟨-, f2, f3⟩ := mF e
            exact ih _ _ (by omega) (by rw [srt_cons h0, f3]; exact pso_lab0 (by omega) e) (fun z hz => hf z (List.mem_cons_of_mem _ (List.mem_append_left _ hz))) x hx
          · rw [if_neg e] at hx; cases hx
        · by_cases e : 2 ≤ cP M (pn M p)
          · rw [if_pos e] at hx hf
            obtain ⟨-, f2, f3⟩ := mG e
            exact ih _ _ (by omega) (by rw [srt_cons h0, f3]; exact pso_lab1 (by omega) e) (fun z hz => hf z (List.mem_cons_of_mem _ (List.mem_append_right _ hz))) x hx
          · rw [if_neg e] at hx; cases hx
theorem below_none {M : MC} {s0 : Nat} {u : Tr} {r : List Nat} (hw : wfT M s0 u) (hu : u r = none) : ∀ l : List Nat, u (l ++ r) = none := by
  intro l
  induction l with
  | nil => exact hu
  | cons k l ih =>
    cases h : u ((k :: l) ++ r) with
    | none => rfl
    | some a =>
      obtain ⟨s, h1, -⟩ := hw _ _ h
      obtain ⟨b, h2, -⟩ := srt_some (show srt M s0 u (k :: (l ++ r)) = some s from h1)
      rw [ih] at h2; cases h2
def cutT (t : Tr) (r : List Nat) (a : Int) : Tr := fun q => if q = r then some a else if r <:+ q then none else t q
theorem cut_s {t : Tr} {r : List Nat} {a : Int} : cutT t r a r = some a := if_pos rfl
theorem cut_o {t : Tr} {r q : List Nat} {a : Int} (h : ¬ r <:+ q) : cutT t r a q = t q := by
  unfold cutT
  rw [if_neg (fun e => h (by rw [e]; exact List.suffix_refl r)), if_neg h]
theorem repl {M : MC} {s0 s : Nat} {ms nv : List Nat} {u t : Tr} {r : List Nat} {a : Int} (hwu : wfT M s0 u) (hu : u r = none) (he : extT u t) (hw : wfT M s0 t) (hs : srt M s0 t r = some s) (ha : okA M s a) (hm : ∀ p ∈ ms, fitT M t p) (hn : ∀ p ∈ nv, misT M t p)
    (h1 : ∀ p ∈ ms, ∀ x ∈ askL M 13 p [], x.1 ≠ r) (h2 : ∀ p ∈ nv, ∀ x ∈ askL M 13 p [], x.1 = r → x.2 ≠ a) : Sat M s0 ms nv (updT u r a) := by
  have hnil : ∀ q : List Nat, [] <:+ q := fun q => List.nil_suffix
  have hsrt : ∀ q, ¬ r <:+ q ∨ q = r → srt M s0 (cutT t r a) q = srt M s0 t q := by
    intro q hq
    cases q with
    | nil => rfl
    | cons k q' =>
      have hno : ¬ r <:+ q' := by
        intro h
        rcases hq with hq | hq
        · exact hq (h.trans (List.suffix_cons k q'))
        · have := h.length_le
          rw [← hq] at this
          simp at this
          omega
      show (match cutT t r a q' with | some a => pso M a k | none => none) = (match t q' with | some a => pso M a k | none => none)
      rw [cut_o hno]
  refine ⟨cutT t r a, fun q b hb => ?_, fun q b hb => ?_, fun p hp x hx => ?_, fun p hp => ?_⟩
  · by_cases e : q = r
    · subst e; rw [updT_s] at hb; rw [cut_s]; exact hb
    · rw [updT_n e] at hb
      have hno : ¬ r <:+ q := by
        rintro ⟨l, rfl⟩
        rw [below_none hwu hu l] at hb; cases hb
      rw [cut_o hno]; exact he q b hb
  · by_cases e : q = r
    · subst e
      rw [cut_s] at hb
      cases hb
      exact ⟨s, by rw [hsrt q (Or.inr rfl)]; exact hs, ha⟩
    · have hno : ¬ r <:+ q := fun z => by
        unfold cutT at hb
        rw [if_neg e, if_pos z] at hb; cases hb
      rw [cut_o hno] at hb
      obtain ⟨s2, g1, g2⟩ := hw q b hb
      exact ⟨s2, by rw [hsrt q (Or.inl hno)]; exact g1, g2⟩
  · have hno : ¬ r <:+ x.1 := fun z => by
      obtain ⟨a2, h9⟩ := askL_pre 13 p [] r x hx (hnil r) z
      exact h1 p hp _ h9 rfl
    rw [cut_o hno]; exact hm p hp x hx
  · obtain ⟨x, hx, b, g1, g2⟩ := hn p hp
    by_cases z : r <:+ x.1
    · obtain ⟨a2, h9⟩ := askL_pre 13 p [] r x hx (hnil r) z
      exact ⟨(r, a2), h9, a, cut_s, fun e => h2 p hp _ h9 rfl e.symm⟩
    · exact ⟨x, hx, b, by rw [cut_o z]; exact g1, g2⟩
def livesOk (M : MC) : Prop := ∀ a, a < mS M → (M.2 50 a = 1 ∧ LV M a) ∨ (M.2 50 a = 0 ∧ ¬ LV M a)
theorem usd_iff {M : MC} (hL : livesOk M) (hC : wfC M) {c : Nat} (hc : c < mC M) : usdD M c ↔ usdV M c := by
  obtain ⟨-, -, w1, w2⟩ := hC.2.2 c hc
  have key : ∀ a, a < mS M → (M.2 50 a ≠ 0 ↔ LV M a) := fun a ha => by
    rcases hL a ha with ⟨h1, h2⟩ | ⟨h1, h2⟩
    · exact ⟨fun _ => h2, fun _ => by rw [h1]; decide⟩
    · exact ⟨fun h => absurd h1 h, fun h => absurd h h2⟩
  exact ⟨fun h => ⟨fun z => (key _ (w1 z).2).mp (h.1 z), fun z => (key _ (w2 z).2).mp (h.2 z)⟩, fun h => ⟨fun z => (key _ (w1 z).2).mpr (h.1 z), fun z => (key _ (w2 z).2).mpr (h.2 z)⟩⟩
/-- a used con that is not tried gives way to one that is, and stands nowhere -/
theorem tri_rep {M : MC} {c : Nat} (hu : usdD M c) (hn : ¬ tri M c) : ∃ i, i < c ∧ cS M i = cS M c ∧ M.2 59 i = 0 ∧ tri M i := by
  have h1 : ∃ i, i < c ∧ cS M i = cS M c ∧ M.2 59 i = 0 ∧ usdD M i := Classical.byContradiction fun h => hn ⟨hu, Or.inr (fun i hi z => h ⟨i, hi, z⟩)⟩
  obtain ⟨i, ⟨a1, a2, a3, a4⟩, hmin⟩ := pk_least _ h1
  refine ⟨i, a1, a2, a3, a4, Or.inr (fun k hk z => hmin k hk ⟨by omega, by rw [z.1, a2], z.2⟩)⟩
theorem lab_ne_int {c : Nat} {v : Int32} : lab c ≠ v.toInt := by
  have := toInt_lt v
  unfold lab
  omega
theorem tri_59 {M : MC} {c : Nat} (hu : usdD M c) (hn : ¬ tri M c) : M.2 59 c = 0 := Classical.byContradiction fun h => hn ⟨hu, Or.inl h⟩
theorem split_C {M : MC} {s0 s m : Nat} {ms nv : List Nat} {u : Tr} {r : List Nat} (hC : wfC M) (hP : wfP M) (hL : livesOk M) (hms : ∀ p ∈ ms, p < mP M ∧ ps M p = s0) (hG : ∀ p, p ∈ ms ∨ p ∈ nv → ∀ x ∈ askL M 13 p [], hasL M (M.2 62) m (M.2 59) x.2)
    (hwu : wfT M s0 u) (hu : u r = none) (hs : srt M s0 u r = some s) (hlv : LV M s) (hs0 : s ≠ 0) (h : Sat M s0 ms nv u) : ∃ c, c ∈ optL M s (mC M) ∧ Sat M s0 ms nv (updT u r (lab c)) := by
  obtain ⟨t, he, hw, hm, hn⟩ := h
  have hst : srt M s0 t r = some s := srt_mono he _ _ hs
  have hc30 := hC.2.1
  cases hb : t r with
  | none =>
    obtain ⟨-, q⟩ := LV_step hlv
    rcases q with q | ⟨c, c1, c2, c3⟩
    · exact absurd q hs0
    have hu2 : usdD M c := (usd_iff hL hC c1).mpr c3
    obtain ⟨e, e1, e2, e3⟩ : ∃ e, e < mC M ∧ cS M e = s ∧ tri M e := by
      by_cases ht : tri M c
      · exact ⟨c, c1, c2, ht⟩
      · obtain ⟨i, i1, i2, -, i4⟩ := tri_rep hu2 ht
        exact ⟨i, by omega, by rw [i2, c2], i4⟩
    refine ⟨e, mem_optL e1 ⟨e2, e3⟩, updT t r (lab e), fun q b hq => ?_, wfT_upd hw hb hst (Or.inr ⟨e, rfl, e1, e2, (usd_iff hL hC e1).mp e3.1⟩), fun p hp => fitT_ext (hm p hp) (ext_updT hb), fun p hp => misT_ext (hn p hp) (ext_updT hb)⟩
    by_cases eq : q = r
    · subst eq; rw [updT_s] at hq ⊢; exact hq
    · rw [updT_n eq] at hq ⊢; exact he q b hq
  | some b =>
    obtain ⟨s2, g1, g2⟩ := hw r b hb
    rw [hst] at g1
    cases g1
    rcases g2 with ⟨g2, -⟩ | ⟨c, rfl, c1, c2, c3⟩
    · exact absurd g2 hs0
    have hu2 : usdD M c := (usd_iff hL hC c1).mpr c3
    by_cases ht : tri M c
    · refine ⟨c, mem_optL c1 ⟨c2, ht⟩, t, fun q b2 hq => ?_, hw, hm, hn⟩
      by_cases eq : q = r
      · subst eq; rw [updT_s] at hq; rw [hb]; exact hq
      · rw [updT_n eq] at hq; exact he q b2 hq
    · obtain ⟨i, i1, i2, i3, i4⟩ := tri_rep hu2 ht
      refine ⟨i, mem_optL (by omega) ⟨by rw [i2, c2], i4⟩, repl hwu hu he hw hst (Or.inr ⟨i, rfl, by omega, by rw [i2, c2], (usd_iff hL hC (by omega)).mp i4.1⟩) hm hn (fun p hp x hx e => ?_) (fun p hp x hx _ e => ?_)⟩
      · have hv : x.2 = lab c := by
          have := hm p hp x hx
          rw [e, hb] at this
          exact (Option.some.inj this).symm
        rcases hG p (Or.inl hp) x hx with ⟨j, -, z⟩ | ⟨d, -, z, z2⟩
        · rw [hv] at z; exact lab_ne_int z
        · rw [hv] at z
          rw [← lab_inj z] at z2
          exact z2 (tri_59 hu2 ht)
      · rcases hG p (Or.inr hp) x hx with ⟨j, -, z⟩ | ⟨d, -, z, z2⟩
        · rw [e] at z; exact lab_ne_int z
        · rw [e] at z
          rw [← lab_inj z] at z2
          exact z2 i3
theorem split_I {M : MC} {s0 m : Nat} {ms nv : List Nat} {u : Tr} {r : List Nat} (hC : wfC M) (hP : wfP M) (hms : ∀ p ∈ ms, p < mP M ∧ ps M p = s0) (hG : ∀ p, p ∈ ms ∨ p ∈ nv → ∀ x ∈ askL M 13 p [], hasL M (M.2 62) m (M.2 59) x.2)
    (hwu : wfT M s0 u) (hu : u r = none) (hs : srt M s0 u r = some 0) (h : Sat M s0 ms nv u) : ∃ j, j ≤ m ∧ Sat M s0 ms nv (updT u r (ilab M j m)) := by
  obtain ⟨t, he, hw, hm, hn⟩ := h
  have hst : srt M s0 t r = some 0 := srt_mono he _ _ hs
  have hc30 := hC.2.1
  have hbig : ilab M m m = BIG := if_neg (Nat.lt_irrefl m)
  have hbl : ∀ c, c < 30 → BIG ≠ lab c := fun c hc => by unfold BIG lab; omega
  have hbi : ∀ v : Int32, BIG ≠ v.toInt := fun v => by have := toInt_lt v; unfold BIG; omega
  cases hb : t r with
  | none =>
    refine ⟨m, Nat.le_refl _, updT t r (ilab M m m), fun q b hq => ?_, wfT_upd hw hb hst (Or.inl ⟨rfl, by rw [hbig]; exact hbl⟩), fun p hp => fitT_ext (hm p hp) (ext_updT hb), fun p hp => misT_ext (hn p hp) (ext_updT hb)⟩
    by_cases eq : q = r
    · subst eq; rw [updT_s] at hq ⊢; exact hq
    · rw [updT_n eq] at hq ⊢; exact he q b hq
  | some b =>
    by_cases hj : ∃ j, j < m ∧ b = (M.2 62 j).toInt
    · obtain ⟨j, j1, rfl⟩ := hj
      refine ⟨j, by omega, t, fun q b2 hq => ?_, hw, hm, hn⟩
      by_cases eq : q = r
      · subst eq
        rw [updT_s] at hq
        rw [hb]
        unfold ilab at hq
        rw [if_pos j1] at hq; exact hq
      · rw [updT_n eq] at hq; exact he q b2 hq
    · refine ⟨m, Nat.le_refl _, ?_⟩
      rw [hbig]
      refine repl hwu hu he hw hst (Or.inl ⟨rfl, hbl⟩) hm hn (fun p hp x hx e => ?_) (fun p hp x hx _ e => ?_)
      · have hv : x.2 = b := by
          have := hm p hp x hx
          rw [e, hb] at this
          exact (Option.some.inj this).symm
        obtain ⟨q1, q2⟩ := hms p hp
        obtain ⟨s2, g1, g2⟩ := askL_srt (s0 := s0) hc30 hP 13 p [] q1 (by rw [q2]; rfl) (hm p hp) x hx
        rw [e, hst] at g1
        cases g1
        rcases hG p (Or.inl hp) x hx with ⟨j, z1, z⟩ | ⟨d, d1, z, -⟩
        · exact hj ⟨j, z1, by rw [← hv]; exact z⟩
        · rcases g2 with ⟨-, v, g2⟩ | ⟨c, g2, g3, g4⟩
          · rw [z] at g2; exact lab_ne_int g2
          · have := (hC.2.2 c g3).1.2.1
            omega
      · rcases hG p (Or.inr hp) x hx with ⟨j, -, z⟩ | ⟨d, d1, z, -⟩
        · rw [e] at z; exact hbi _ z
        · rw [e] at z; exact hbl d (by omega) z
