/-! states that differ in the nodes alone -/
def sT (N M : MC) : Prop := (∀ k, k ≠ 6 → k ≠ 8 → N.1 k = M.1 k) ∧ ∀ a, (a < 51 ∨ 55 < a) → N.2 a = M.2 a
theorem sT_refl (M : MC) : sT M M := ⟨fun _ _ _ => rfl, fun _ _ => rfl⟩
theorem sT_trans {A B C : MC} (h1 : sT A B) (h2 : sT B C) : sT A C := ⟨fun k a b => (h1.1 k a b).trans (h2.1 k a b), fun k a => (h1.2 k a).trans (h2.2 k a)⟩
theorem sT_mi6 (M : MC) (v : Int32) : sT (mi M 6 v) M := ⟨fun k h _ => pk_un h, fun _ _ => rfl⟩
theorem sT_mi8 (M : MC) (v : Int32) : sT (mi M 8 v) M := ⟨fun k _ h => pk_un h, fun _ _ => rfl⟩
theorem sT_ma {M : MC} {a i : Nat} {v : Int32} (h : 51 ≤ a) (h2 : a ≤ 55) : sT (ma M a i v) M := ⟨fun _ _ _ => rfl, fun b hb => va_up_ne _ _ (by omega)⟩
theorem sT_node {M : MC} {n : Nat} {x : Int32} : sT (nodeM M n x) M := sT_trans (sT_mi6 _ _) (sT_trans (sT_ma (by omega) (by omega)) (sT_ma (by omega) (by omega)))
theorem sT_fillI {M : MC} {v j m : Nat} : sT (fillI M v j m) M := sT_trans (sT_ma (by omega) (by omega)) (sT_ma (by omega) (by omega))
theorem sT_fillC {M : MC} {v c n : Nat} : sT (fillC M v c n) M := by
  have h1 : sT (ma (ma M 51 v 2) 53 v (nI c)) M := sT_trans (sT_ma (by omega) (by omega)) (sT_ma (by omega) (by omega))
  have h2 : sT (ma (nodeM (ma (ma M 51 v 2) 53 v (nI c)) n (M.2 41 c)) 54 v (nI n)) M := sT_trans (sT_ma (by omega) (by omega)) (sT_trans sT_node h1)
  unfold fillC
  split
  · exact sT_trans (sT_ma (by omega) (by omega)) (sT_trans sT_node h2)
  · split
    · exact h2
    · exact h1
theorem sT_wfS {N M : MC} (h : sT N M) (hS : wfS M) : wfS N := by
  unfold wfS mS at *
  rw [h.1 1 (by decide) (by decide)]; exact hS
theorem sT_wfC {N M : MC} (h : sT N M) (hC : wfC M) : wfC N := by
  unfold wfC mC mS cS cP cF cG at *
  rw [h.1 1 (by decide) (by decide), h.1 2 (by decide) (by decide), h.2 39 (by decide), h.2 40 (by decide), h.2 41 (by decide), h.2 42 (by decide)]; exact hC
theorem sT_wfP {N M : MC} (h : sT N M) (hP : wfP M) : wfP N := by
  unfold wfP okP mP pk ps pn pf pg pd mC mS cS cP cF cG at *
  rw [h.1 1 (by decide) (by decide), h.1 2 (by decide) (by decide), h.1 3 (by decide) (by decide), h.2 39 (by decide), h.2 40 (by decide), h.2 41 (by decide), h.2 42 (by decide), h.2 43 (by decide), h.2 44 (by decide), h.2 45 (by decide), h.2 46 (by decide), h.2 47 (by decide), h.2 48 (by decide)]; exact hP
theorem sT_optL {N M : MC} (h : sT N M) (s n : Nat) : optL N s n = optL M s n := by
  have e : ∀ c, (cS N c = s ∧ tri N c) ↔ (cS M c = s ∧ tri M c) := fun c => by
    unfold tri usdD cS cP cF cG
    rw [h.2 39 (by decide), h.2 40 (by decide), h.2 41 (by decide), h.2 42 (by decide), h.2 50 (by decide), h.2 59 (by decide)]
  unfold optL
  exact List.filter_congr (fun c _ => decide_eq_decide.mpr (e c))
theorem sT_askL {N M : MC} (h : sT N M) : ∀ (f p : Nat) (r : List Nat), askL N f p r = askL M f p r := by
  intro f
  induction f with
  | zero => intro p r; rfl
  | succ f ih =>
    intro p r
    unfold askL
    unfold pk pn pf pg cP
    rw [h.2 43 (by decide), h.2 45 (by decide), h.2 46 (by decide), h.2 47 (by decide), h.2 40 (by decide)]
    rw [ih, ih]
theorem sT_cs {N M : MC} (h : sT N M) : mS N = mS M ∧ mC N = mC M ∧ mP N = mP M ∧ (∀ c, cS N c = cS M c) ∧ (∀ c, cP N c = cP M c) ∧ (∀ c, cF N c = cF M c) ∧ (∀ c, cG N c = cG M c) ∧ (∀ p, ps N p = ps M p) ∧ (∀ p, pd N p = pd M p) := by
  unfold mS mC mP cS cP cF cG ps pd
  rw [h.1 1 (by decide) (by decide), h.1 2 (by decide) (by decide), h.1 3 (by decide) (by decide), h.2 39 (by decide), h.2 40 (by decide), h.2 41 (by decide), h.2 42 (by decide), h.2 44 (by decide), h.2 48 (by decide)]
  exact ⟨rfl, rfl, rfl, fun _ => rfl, fun _ => rfl, fun _ => rfl, fun _ => rfl, fun _ => rfl, fun _ => rfl⟩
/-! trees that a value may have -/
def usdV (M : MC) (c : Nat) : Prop := (1 ≤ cP M c → LV M (cF M c)) ∧ (2 ≤ cP M c → LV M (cG M c))
def pso (M : MC) (a : Int) (k : Nat) : Option Nat := if 1099511627776 ≤ a ∧ a < 1099511627776 + 30 then (if k = 0 ∧ 1 ≤ cP M (a - 1099511627776).toNat then some (cF M (a - 1099511627776).toNat) else if k = 1 ∧ 2 ≤ cP M (a - 1099511627776).toNat then some (cG M (a - 1099511627776).toNat) else none) else none
def srt (M : MC) (s0 : Nat) (t : Tr) : List Nat → Option Nat
  | [] => some s0
  | k :: r => match t r with
    | some a => pso M a k
    | none => none
def okA (M : MC) (s : Nat) (a : Int) : Prop := (s = 0 ∧ ∀ c, c < 30 → a ≠ lab c) ∨ (∃ c, a = lab c ∧ c < mC M ∧ cS M c = s ∧ usdV M c)
def wfT (M : MC) (s0 : Nat) (t : Tr) : Prop := ∀ r a, t r = some a → ∃ s, srt M s0 t r = some s ∧ okA M s a
def updT (u : Tr) (r : List Nat) (a : Int) : Tr := fun q => if q = r then some a else u q
theorem updT_s {u : Tr} {r : List Nat} {a : Int} : updT u r a r = some a := if_pos rfl
theorem updT_n {u : Tr} {r q : List Nat} {a : Int} (h : q ≠ r) : updT u r a q = u q := if_neg h
theorem pso_lab0 {M : MC} {c : Nat} (hc : c < 30) (h : 1 ≤ cP M c) : pso M (lab c) 0 = some (cF M c) := by
  unfold pso lab
  have e : ((1099511627776 : Int) + c - 1099511627776).toNat = c := by omega
  rw [if_pos (by omega), e, if_pos ⟨rfl, h⟩]
theorem pso_lab1 {M : MC} {c : Nat} (hc : c < 30) (h : 2 ≤ cP M c) : pso M (lab c) 1 = some (cG M c) := by
  unfold pso lab
  have e : ((1099511627776 : Int) + c - 1099511627776).toNat = c := by omega
  rw [if_pos (by omega), e, if_neg (by omega), if_pos ⟨rfl, h⟩]
theorem pso_some {M : MC} {a : Int} {k s : Nat} (h : pso M a k = some s) : ∃ c, c < 30 ∧ a = lab c ∧ ((k = 0 ∧ 1 ≤ cP M c ∧ s = cF M c) ∨ (k = 1 ∧ 2 ≤ cP M c ∧ s = cG M c)) := by
  unfold pso at h
  split at h
  next hb =>
    refine ⟨(a - 1099511627776).toNat, by omega, by unfold lab; omega, ?_⟩
    split at h
    next h1 => exact Or.inl ⟨h1.1, h1.2, (Option.some.inj h).symm⟩
    next =>
      split at h
      next h1 => exact Or.inr ⟨h1.1, h1.2, (Option.some.inj h).symm⟩
      next => cases h
  next => cases h
theorem srt_cons {M : MC} {s0 : Nat} {t : Tr} {k : Nat} {r : List Nat} {a : Int} (h : t r = some a) : srt M s0 t (k :: r) = pso M a k := by
  show (match t r with | some a => pso M a k | none => none) = _
  rw [h]
theorem srt_some {M : MC} {s0 : Nat} {t : Tr} {k s : Nat} {r : List Nat} (h : srt M s0 t (k :: r) = some s) : ∃ a, t r = some a ∧ pso M a k = some s := by
  have h : (match t r with | some a => pso M a k | none => none) = some s := h
  cases e : t r with
  | none => rw [e] at h; cases h
  | some a => rw [e] at h; exact ⟨a, rfl, h⟩
/-- the sort at a path hangs on the labels above it -/
theorem srt_mono {M : MC} {s0 : Nat} {t u : Tr} (he : ∀ r a, t r = some a → u r = some a) : ∀ (r : List Nat) (s : Nat), srt M s0 t r = some s → srt M s0 u r = some s := by
  intro r
  cases r with
  | nil => intro s h; exact h
  | cons k r =>
    intro s h
    obtain ⟨a, h1, h2⟩ := srt_some h
    rw [srt_cons (he r a h1)]; exact h2
theorem ext_updT {u : Tr} {r : List Nat} {a : Int} (h : u r = none) : ∀ q b, u q = some b → updT u r a q = some b := fun q b hb => by
  by_cases e : q = r
  · rw [e, h] at hb; cases hb
  · rw [updT_n e]; exact hb
theorem wfT_upd {M : MC} {s0 s : Nat} {u : Tr} {r : List Nat} {a : Int} (hw : wfT M s0 u) (hu : u r = none) (hs : srt M s0 u r = some s) (ha : okA M s a) : wfT M s0 (updT u r a) := by
  intro q b hb
  by_cases e : q = r
  · subst e
    rw [updT_s] at hb
    cases hb
    exact ⟨s, srt_mono (ext_updT hu) _ _ hs, ha⟩
  · rw [updT_n e] at hb
    obtain ⟨s2, h1, h2⟩ := hw q b hb
    exact ⟨s2, srt_mono (ext_updT hu) _ _ h1, h2⟩
/-- the read nodes are in order -/
def XW (M : MC) (s0 : Nat) (X : XS) : Prop := (∀ (i j : Nat) (r : List Nat) (t t' : Nat), X.1[i]? = some (r, t) → X.1[j]? = some (r, t') → i = j) ∧ X.1[0]? = some ([], s0) ∧ (∀ (v : Nat) (r : List Nat) (t : Nat), X.1[v]? = some (r, t) → srt M s0 X.2 r = some t ∧ LV M t) ∧ wfT M s0 X.2
def kids (M : MC) (c : Nat) (r : List Nat) : List (List Nat × Nat) := (if 1 ≤ cP M c then [(0 :: r, cF M c)] else []) ++ (if 2 ≤ cP M c then [(1 :: r, cG M c)] else [])
def xI (X : XS) (r : List Nat) (a : Int) : XS := (X.1, updT X.2 r a)
def xC (M : MC) (X : XS) (r : List Nat) (c : Nat) : XS := (X.1 ++ kids M c r, updT X.2 r (lab c))
theorem XW_0 {M : MC} {s0 : Nat} (h : LV M s0) : XW M s0 ([([], s0)], fun _ => none) := by
  refine ⟨fun i j r t t' h1 h2 => ?_, rfl, fun v r t h1 => ?_, fun r a h1 => by cases h1⟩
  · have := lt_of_get h1; have := lt_of_get h2
    have a1 : i < 1 := by assumption
    have a2 : j < 1 := by assumption
    omega
  · have hv : v < 1 := lt_of_get h1
    rw [show v = 0 by omega] at h1
    cases h1
    exact ⟨rfl, h⟩
theorem XW_I {M : MC} {s0 : Nat} {X : XS} {v : Nat} {r : List Nat} {a : Int} (hX : XW M s0 X) (hv : X.1[v]? = some (r, 0)) (hn : X.2 r = none) (ha : ∀ c, c < 30 → a ≠ lab c) : XW M s0 (xI X r a) :=
  ⟨hX.1, hX.2.1, fun w q t h => ⟨srt_mono (ext_updT hn) _ _ (hX.2.2.1 w q t h).1, (hX.2.2.1 w q t h).2⟩, wfT_upd hX.2.2.2 hn (hX.2.2.1 v r 0 hv).1 (Or.inl ⟨rfl, ha⟩)⟩
theorem kids_get {M : MC} {c : Nat} {r : List Nat} {i : Nat} {q : List Nat} {t : Nat} (h : (kids M c r)[i]? = some (q, t)) : (i = 0 ∧ 1 ≤ cP M c ∧ q = 0 :: r ∧ t = cF M c) ∨ (2 ≤ cP M c ∧ i = 1 ∧ q = 1 :: r ∧ t = cG M c) := by
  unfold kids at h
  by_cases h1 : 1 ≤ cP M c
  · rw [if_pos h1] at h
    by_cases h2 : 2 ≤ cP M c
    · rw [if_pos h2] at h
      have hl : i < 2 := lt_of_get h
      rcases (show i = 0 ∨ i = 1 by omega) with rfl | rfl
      · cases h; exact Or.inl ⟨rfl, h1, rfl, rfl⟩
      · cases h; exact Or.inr ⟨h2, rfl, rfl, rfl⟩
    · rw [if_neg h2] at h
      have hl : i < 1 := lt_of_get h
      rw [show i = 0 by omega] at h ⊢
      cases h; exact Or.inl ⟨rfl, h1, rfl, rfl⟩
  · rw [if_neg h1, if_neg (by omega)] at h
    have hl : i < 0 := lt_of_get h
    omega
theorem app_get {α : Type} {a b : List α} {i : Nat} {x : α} (h : (a ++ b)[i]? = some x) : (i < a.length ∧ a[i]? = some x) ∨ ∃ j, i = a.length + j ∧ b[j]? = some x := by
  by_cases hl : i < a.length
  · rw [List.getElem?_append_left hl] at h; exact Or.inl ⟨hl, h⟩
  · rw [List.getElem?_append_right (by omega)] at h
    exact Or.inr ⟨i - a.length, by omega, h⟩
theorem XW_C {M : MC} {s0 : Nat} {X : XS} {v c : Nat} {r : List Nat} (hC : mC M ≤ 30) (hX : XW M s0 X) (hv : X.1[v]? = some (r, cS M c)) (hn : X.2 r = none) (hc : c < mC M) (hu : usdV M c) : XW M s0 (xC M X r c) := by
  have hno : ∀ (k w t : Nat), X.1[w]? = some (k :: r, t) → False := fun k w t h => by
    obtain ⟨a, h1, -⟩ := srt_some (hX.2.2.1 w _ t h).1
    rw [hn] at h1; cases h1
  refine ⟨fun i j q t t' h1 h2 => ?_, ?_, fun w q t h => ?_, wfT_upd hX.2.2.2 hn (hX.2.2.1 v r _ hv).1 (Or.inr ⟨c, rfl, hc, rfl, hu⟩)⟩
  · rcases app_get h1 with ⟨-, z1⟩ | ⟨i', ei, z1⟩ <;> rcases app_get h2 with ⟨-, z2⟩ | ⟨j', ej, z2⟩
    · exact hX.1 i j q t t' z1 z2
    · rcases kids_get z2 with ⟨-, -, rfl, -⟩ | ⟨-, -, rfl, -⟩ <;> exact (hno _ _ _ z1).elim
    · rcases kids_get z1 with ⟨-, -, rfl, -⟩ | ⟨-, -, rfl, -⟩ <;> exact (hno _ _ _ z2).elim
    · rcases kids_get z1 with ⟨a1, -, e1, -⟩ | ⟨-, a1, e1, -⟩ <;> rcases kids_get z2 with ⟨a2, -, e2, -⟩ | ⟨-, a2, e2, -⟩
      · omega
      · rw [e1] at e2; cases e2
      · rw [e1] at e2; cases e2
      · omega
  · show (X.1 ++ kids M c r)[0]? = _
    rw [List.getElem?_append_left (lt_of_get hX.2.1)]; exact hX.2.1
  · rcases app_get h with ⟨-, z⟩ | ⟨i', ei, z⟩
    · exact ⟨srt_mono (ext_updT hn) _ _ (hX.2.2.1 w q t z).1, (hX.2.2.1 w q t z).2⟩
    · rcases kids_get z with ⟨-, h1, rfl, rfl⟩ | ⟨h1, -, rfl, rfl⟩
      · exact ⟨by rw [srt_cons (show (xC M X r c).2 r = some (lab c) from updT_s)]; exact pso_lab0 (by omega) h1, hu.1 h1⟩
      · exact ⟨by rw [srt_cons (show (xC M X r c).2 r = some (lab c) from updT_s)]; exact pso_lab1 (by omega) h1, hu.2 h1⟩
