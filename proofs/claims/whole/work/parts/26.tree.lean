/-! partial trees: a label (a number, a con, or a number beyond all) at a path (nearest part first) -/
abbrev Tr : Type := List Nat → Option Int
def BIG : Int := 1125899906842624
def askL (M : MC) : Nat → Nat → List Nat → List (List Nat × Int)
  | 0, _, _ => []
  | f + 1, p, r => if pk M p = 0 then [] else if pk M p = 1 then [(r, (M.2 45 p).toInt)] else (r, lab (pn M p)) :: ((if 1 ≤ cP M (pn M p) then askL M f (pf M p) (0 :: r) else []) ++ (if 2 ≤ cP M (pn M p) then askL M f (pg M p) (1 :: r) else []))
theorem askL_any {M : MC} {f p : Nat} {r : List Nat} (h : pk M p = 0) : askL M (f + 1) p r = [] := if_pos h
theorem askL_num {M : MC} {f p : Nat} {r : List Nat} (h : pk M p = 1) : askL M (f + 1) p r = [(r, (M.2 45 p).toInt)] := by
  show (if pk M p = 0 then _ else _) = _
  rw [if_neg (by omega), if_pos h]
theorem askL_made {M : MC} {f p : Nat} {r : List Nat} (h : pk M p = 2) : askL M (f + 1) p r = (r, lab (pn M p)) :: ((if 1 ≤ cP M (pn M p) then askL M f (pf M p) (0 :: r) else []) ++ (if 2 ≤ cP M (pn M p) then askL M f (pg M p) (1 :: r) else [])) := by
  show (if pk M p = 0 then _ else _) = _
  rw [if_neg (by omega), if_neg (by omega)]
theorem askL_len {M : MC} (hP : wfP M) : ∀ (f p : Nat) (r : List Nat), p < mP M → pd M p < f → (askL M f p r).length = pd M p := by
  intro f
  induction f with
  | zero => intro p r _ h; omega
  | succ f ih =>
    intro p r hp hf
    obtain ⟨⟨-, b43⟩, -, -, w4, w5, w6⟩ := hP.2.2 p hp
    rcases (show pk M p = 0 ∨ pk M p = 1 ∨ pk M p = 2 by omega) with h | h | h
    · rw [askL_any h, w4 h]; rfl
    · rw [askL_num h, (w5 h).2]; rfl
    · obtain ⟨-, mF, mG, dd⟩ := w6 h
      rw [askL_made h, List.length_cons, List.length_append, dd]
      by_cases h1 : 1 ≤ cP M (pn M p)
      · rw [if_pos h1] at dd
        rw [if_pos h1, if_pos h1, ih (pf M p) _ (by have := (mF h1).2.1; omega) (by omega)]
        by_cases h2 : 2 ≤ cP M (pn M p)
        · rw [if_pos h2] at dd
          rw [if_pos h2, if_pos h2, ih (pg M p) _ (by have := (mG h2).2.1; omega) (by omega)]; omega
        · rw [if_neg h2, if_neg h2]; show _ + 0 + 1 = _; omega
      · rw [if_neg h1, if_neg h1, if_neg (by omega), if_neg (by omega)]; rfl
theorem askL_lab {M : MC} : ∀ (f p : Nat) (r : List Nat) (x : List Nat × Int), x ∈ askL M f p r → x.2 ∈ labL M f p := by
  intro f
  induction f with
  | zero => intro p r x h; cases h
  | succ f ih =>
    intro p r x h
    unfold askL at h
    unfold labL
    by_cases h0 : pk M p = 0
    · rw [if_pos h0] at h; cases h
    · rw [if_neg h0] at h ⊢
      by_cases h1 : pk M p = 1
      · rw [if_pos h1] at h ⊢
        rw [List.mem_singleton.mp h]; exact List.mem_cons_self
      · rw [if_neg h1] at h ⊢
        rcases List.mem_cons.mp h with rfl | h
        · exact List.mem_cons_self
        · refine List.mem_cons_of_mem _ ?_
          rcases List.mem_append.mp h with h | h
          · refine List.mem_append_left _ ?_
            by_cases e : 1 ≤ cP M (pn M p)
            · rw [if_pos e] at h ⊢; exact ih _ _ _ h
            · rw [if_neg e] at h; cases h
          · refine List.mem_append_right _ ?_
            by_cases e : 2 ≤ cP M (pn M p)
            · rw [if_pos e] at h ⊢; exact ih _ _ _ h
            · rw [if_neg e] at h; cases h
/-- the reference's nodes, read: node v stands at a path, with a sort -/
abbrev XS : Type := List (List Nat × Nat) × Tr
def repV (N : MC) (X : XS) (v : Nat) (r : List Nat) (t : Nat) : Prop := (nK N v = 0 ∧ X.2 r = none) ∨ (nK N v = 1 ∧ t = 0 ∧ X.2 r = some (N.2 53 v).toInt) ∨ (nK N v = 3 ∧ t = 0 ∧ X.2 r = some BIG) ∨
  (nK N v = 2 ∧ ∃ c, N.2 53 v = nI c ∧ c < mC N ∧ cS N c = t ∧ X.2 r = some (lab c) ∧ (1 ≤ cP N c → ∃ g, N.2 54 v = nI g ∧ X.1[g]? = some (0 :: r, cF N c)) ∧ (2 ≤ cP N c → ∃ g, N.2 55 v = nI g ∧ X.1[g]? = some (1 :: r, cG N c)))
def RepX (N : MC) (X : XS) : Prop := N.1 6 = nI X.1.length ∧ X.1.length ≤ 270 ∧ ∀ v r t, X.1[v]? = some (r, t) → (N.2 51 v = nI (nK N v) ∧ nK N v ≤ 3) ∧ N.2 52 v = nI t ∧ t < mS N ∧ repV N X v r t
theorem RepX_n {N : MC} {X : XS} (h : RepX N X) : nN N = X.1.length := by
  show (N.1 6).toNatClampNeg = _
  rw [h.1, nI_clamp (by have := h.2.1; omega)]
theorem lt_of_get {α : Type} {l : List α} {k : Nat} {x : α} (h : l[k]? = some x) : k < l.length := (List.getElem?_eq_some_iff.mp h).1
theorem RepX_wf {N : MC} {X : XS} (h : RepX N X) (hS : wfS N) (hC : wfC N) : wfN N := by
  have hn := RepX_n h
  have hs12 := hS.2.2
  refine ⟨by rw [hn]; exact h.1, by rw [hn]; exact h.2.1, fun v hv => ?_⟩
  rw [hn] at hv
  have hg : X.1[v]? = some (X.1[v].1, X.1[v].2) := List.getElem?_eq_getElem hv
  obtain ⟨a1, a2, a3, a4⟩ := h.2.2 v _ _ hg
  have hns : nS N v = X.1[v].2 := by show (N.2 52 v).toNatClampNeg = _; rw [a2, nI_clamp (by omega)]
  refine ⟨a1, ⟨by rw [hns]; exact a2, by rw [hns]; exact a3⟩, fun z => ?_, fun z => ?_, fun z => ?_⟩
  · rcases a4 with ⟨q, -⟩ | ⟨q, q2, -⟩ | ⟨q, q2, -⟩ | ⟨q, -⟩ <;> first | omega | (rw [hns]; exact q2)
  · rcases a4 with ⟨q, -⟩ | ⟨q, q2, -⟩ | ⟨q, q2, -⟩ | ⟨q, -⟩ <;> first | omega | (rw [hns]; exact q2)
  · rcases a4 with ⟨q, -⟩ | ⟨q, q2, -⟩ | ⟨q, q2, -⟩ | ⟨q, c, b1, b2, b3, b4, b5, b6⟩
    · omega
    · omega
    · omega
    · have hc30 := hC.2.1
      have hw : nW N v = c := by show (N.2 53 v).toNatClampNeg = _; rw [b1, nI_clamp (by omega)]
      rw [hw]
      refine ⟨⟨b1, b2, by rw [hns, b3]⟩, fun z => ?_, fun z => ?_⟩
      · obtain ⟨g, g1, g2⟩ := b5 z
        have hlt := lt_of_get g2
        have h270 := h.2.1
        have hf : nF N v = g := by show (N.2 54 v).toNatClampNeg = _; rw [g1, nI_clamp (by omega)]
        obtain ⟨-, c2, c3, -⟩ := h.2.2 g _ _ g2
        rw [hf]
        exact ⟨g1, by rw [hn]; exact hlt, by show (N.2 52 g).toNatClampNeg = _; rw [c2, nI_clamp (by omega)]⟩
      · obtain ⟨g, g1, g2⟩ := b6 z
        have hlt := lt_of_get g2
        have h270 := h.2.1
        have hf : nG N v = g := by show (N.2 55 v).toNatClampNeg = _; rw [g1, nI_clamp (by omega)]
        obtain ⟨-, c2, c3, -⟩ := h.2.2 g _ _ g2
        rw [hf]
        exact ⟨g1, by rw [hn]; exact hlt, by show (N.2 52 g).toNatClampNeg = _; rw [c2, nI_clamp (by omega)]⟩
theorem lab_inj {a b : Nat} (h : lab a = lab b) : a = b := by unfold lab at h; omega
theorem toInt_lt (x : Int32) : -2147483648 ≤ x.toInt ∧ x.toInt < 2147483648 := ⟨Int32.le_toInt x, Int32.toInt_lt x⟩
/-- what fit answers, of the tree -/
theorem fit_rel {N : MC} {X : XS} (hS : wfS N) (hC : wfC N) (hP : wfP N) (hR : RepX N X) : ∀ (f p v : Nat) (r : List Nat), p < mP N → pd N p < f → X.1[v]? = some (r, ps N p) →
    ((fitR N f p v).1 = 1 → ∀ x ∈ askL N f p r, X.2 x.1 = some x.2) ∧ ((fitR N f p v).1 = 0 → ∃ x ∈ askL N f p r, ∃ b, X.2 x.1 = some b ∧ b ≠ x.2) ∧
    ((fitR N f p v).1 = 2 → ∃ r2 t2, X.1[(fitR N f p v).2]? = some (r2, t2) ∧ X.2 r2 = none ∧ ∃ x ∈ askL N f p r, x.1 = r2) := by
  have hc30 := hC.2.1
  have h270 := hR.2.1
  intro f
  induction f with
  | zero => intro p v r _ h; omega
  | succ f ih =>
    intro p v r hp hf hv
    obtain ⟨⟨-, b43⟩, -, -, w4, w5, w6⟩ := hP.2.2 p hp
    obtain ⟨⟨a1, a1'⟩, a2, a3, a4⟩ := hR.2.2 v _ _ hv
    rw [fitR_s]
    by_cases e0 : pk N p = 0
    · rw [if_pos e0, askL_any e0]
      exact ⟨fun _ x hx => (by cases hx), fun z => absurd z (by decide), fun z => absurd z (by decide)⟩
    rw [if_neg e0]
    by_cases e1 : nK N v = 0
    · rw [if_pos e1]
      refine ⟨fun z => absurd (show (2 : Nat) = 1 from z) (by decide), fun z => absurd (show (2 : Nat) = 0 from z) (by decide), fun _ => ⟨r, _, hv, ?_, ?_⟩⟩
      · rcases a4 with ⟨-, q⟩ | ⟨q, -⟩ | ⟨q, -⟩ | ⟨q, -⟩ <;> first | exact q | omega
      · rcases (show pk N p = 1 ∨ pk N p = 2 by omega) with h | h
        · rw [askL_num h]; exact ⟨_, List.mem_cons_self, rfl⟩
        · rw [askL_made h]; exact ⟨_, List.mem_cons_self, rfl⟩
    rw [if_neg e1]
    by_cases e2 : pk N p = 1
    · rw [if_pos e2, askL_num e2]
      have hps := (w5 e2).1
      by_cases e3 : nK N v = 1 ∧ N.2 53 v = N.2 45 p
      · rw [if_pos e3]
        refine ⟨fun _ x hx => ?_, fun z => absurd z (by decide), fun z => absurd z (by decide)⟩
        rw [List.mem_singleton.mp hx]
        rcases a4 with ⟨q, -⟩ | ⟨-, -, q⟩ | ⟨q, -⟩ | ⟨q, -⟩
        · omega
        · rw [q, e3.2]
        · omega
        · omega
      · rw [if_neg e3]
        refine ⟨fun z => absurd z (by decide), fun _ => ⟨_, List.mem_cons_self, ?_⟩, fun z => absurd z (by decide)⟩
        rcases a4 with ⟨q, -⟩ | ⟨q1, -, q⟩ | ⟨-, -, q⟩ | ⟨q, c, -, b2, b3, -⟩
        · omega
        · exact ⟨_, q, fun z => e3 ⟨q1, Int32.toInt_inj.mp z⟩⟩
        · refine ⟨_, q, ?_⟩
          have := toInt_lt (N.2 45 p)
          show ¬ BIG = (N.2 45 p).toInt
          unfold BIG
          omega
        · have := (hC.2.2 c b2).1.2.1
          omega
    rw [if_neg e2]
    have e22 : pk N p = 2 := by omega
    obtain ⟨⟨e45, b45, s45⟩, mF, mG, dd⟩ := w6 e22
    have hcs := (hC.2.2 (pn N p) b45).1.2.1
    obtain ⟨c, b1, b2, b3, b4, b5, b6⟩ : ∃ c, N.2 53 v = nI c ∧ c < mC N ∧ cS N c = ps N p ∧ X.2 r = some (lab c) ∧ (1 ≤ cP N c → ∃ g, N.2 54 v = nI g ∧ X.1[g]? = some (0 :: r, cF N c)) ∧ (2 ≤ cP N c → ∃ g, N.2 55 v = nI g ∧ X.1[g]? = some (1 :: r, cG N c)) := by
      rcases a4 with ⟨q, -⟩ | ⟨-, q, -⟩ | ⟨-, q, -⟩ | ⟨-, q⟩
      · omega
      · omega
      · omega
      · exact q
    by_cases e3 : N.2 53 v = N.2 45 p
    · rw [if_neg (fun z => z e3), askL_made e22]
      have ecc : c = pn N p := by rw [b1, e45] at e3; exact (nI_eq (by omega) (by omega)).mp e3
      subst ecc
      by_cases e4 : cP N (pn N p) < 1
      · rw [if_pos e4, if_neg (by omega), if_neg (by omega)]
        refine ⟨fun _ x hx => ?_, fun z => absurd z (by decide), fun z => absurd z (by decide)⟩
        rw [List.mem_singleton.mp hx]; exact b4
      · rw [if_neg e4]
        obtain ⟨g, g1, g2⟩ := b5 (by omega)
        have hlt := lt_of_get g2
        have hnf : nF N v = g := by show (N.2 54 v).toNatClampNeg = _; rw [g1, nI_clamp (by omega)]
        obtain ⟨f1, f2, f3⟩ := mF (by omega)
        rw [if_pos (show 1 ≤ cP N (pn N p) by omega)] at dd
        rw [if_pos (show 1 ≤ cP N (pn N p) by omega), hnf]
        obtain ⟨i1, i2, i3⟩ := ih (pf N p) g (0 :: r) (by omega) (by omega) (by rw [f3]; exact g2)
        by_cases e5 : (fitR N f (pf N p) g).1 ≠ 1 ∨ cP N (pn N p) < 2
        · rw [if_pos e5]
          refine ⟨fun z => ?_, fun z => ?_, fun z => ?_⟩
          · have h2 : cP N (pn N p) < 2 := e5.elim (fun q => absurd z q) id
            intro x hx
            rw [if_neg (by omega), List.append_nil] at hx
            rcases List.mem_cons.mp hx with rfl | hx
            · exact b4
            · exact i1 z x hx
          · obtain ⟨x, hx, hb⟩ := i2 z
            exact ⟨x, List.mem_cons_of_mem _ (List.mem_append_left _ hx), hb⟩
          · obtain ⟨r2, t2, j1, j2, x, hx, j3⟩ := i3 z
            exact ⟨r2, t2, j1, j2, x, List.mem_cons_of_mem _ (List.mem_append_left _ hx), j3⟩
        · rw [if_neg e5]
          have e6 : (fitR N f (pf N p) g).1 = 1 := Classical.byContradiction fun q => e5 (Or.inl q)
          have e7 : 2 ≤ cP N (pn N p) := by
            rcases Nat.lt_or_ge (cP N (pn N p)) 2 with q | q
            · exact absurd (Or.inr q) e5
            · exact q
          obtain ⟨g', g1', g2'⟩ := b6 e7
          have hlt' := lt_of_get g2'
          have hng : nG N v = g' := by show (N.2 55 v).toNatClampNeg = _; rw [g1', nI_clamp (by omega)]
          obtain ⟨f1', f2', f3'⟩ := mG e7
          rw [if_pos e7] at dd
          rw [if_pos e7, hng]
          obtain ⟨k1, k2, k3⟩ := ih (pg N p) g' (1 :: r) (by omega) (by omega) (by rw [f3']; exact g2')
          refine ⟨fun z x hx => ?_, fun z => ?_, fun z => ?_⟩
          · rcases List.mem_cons.mp hx with rfl | hx
            · exact b4
            · rcases List.mem_append.mp hx with hx | hx
              · exact i1 e6 x hx
              · exact k1 z x hx
          · obtain ⟨x, hx, hb⟩ := k2 z
            exact ⟨x, List.mem_cons_of_mem _ (List.mem_append_right _ hx), hb⟩
          · obtain ⟨r2, t2, j1, j2, x, hx, j3⟩ := k3 z
            exact ⟨r2, t2, j1, j2, x, List.mem_cons_of_mem _ (List.mem_append_right _ hx), j3⟩
    · rw [if_pos e3, askL_made e22]
      refine ⟨fun z => absurd z (by decide), fun _ => ⟨_, List.mem_cons_self, _, b4, fun z => e3 ?_⟩, fun z => absurd z (by decide)⟩
      rw [b1, e45, lab_inj z]
