/-! a fill, read -/
theorem ma_old {M : MC} {a i b v : Nat} {x : Int32} (h : v ≠ i) : (ma M a i x).2 b v = M.2 b v := by
  show (va_up M.2 a (upd (M.2 a) i x)) b v = _
  by_cases e : b = a
  · rw [e, va_up_self, pk_un h]
  · rw [va_up_ne _ _ e]
theorem nodeM_old {M : MC} {n b v : Nat} {x : Int32} (h : v ≠ n) : (nodeM M n x).2 b v = M.2 b v := by
  show (ma (ma M 51 n 0) 52 n x).2 b v = _
  rw [ma_old h, ma_old h]
theorem fillC_old {N : MC} {h c n v a : Nat} (hv : v ≠ h) (hn : v < n) : (fillC N h c n).2 a v = N.2 a v := by
  have h1 : v ≠ n := by omega
  have h2 : v ≠ n + 1 := by omega
  unfold fillC
  split
  · rw [ma_old hv, nodeM_old h2, ma_old hv, nodeM_old h1, ma_old hv, ma_old hv]
  · split
    · rw [ma_old hv, nodeM_old h1, ma_old hv, ma_old hv]
    · rw [ma_old hv, ma_old hv]
theorem fillC_h {N : MC} {h c n : Nat} (hn : h < n) : (fillC N h c n).2 51 h = 2 ∧ (fillC N h c n).2 52 h = N.2 52 h ∧ (fillC N h c n).2 53 h = nI c ∧ (1 ≤ cP N c → (fillC N h c n).2 54 h = nI n) ∧ (2 ≤ cP N c → (fillC N h c n).2 55 h = nI (n + 1)) := by
  have h1 : h ≠ n := by omega
  have h2 : h ≠ n + 1 := by omega
  unfold fillC
  split
  next q => refine ⟨?_, ?_, ?_, fun _ => ?_, fun _ => ?_⟩ <;> simp [ma, mi, nodeM, va_up, upd, h1, h2]
  next q =>
    split
    next q2 => refine ⟨?_, ?_, ?_, fun _ => ?_, fun z => absurd z q⟩ <;> simp [ma, mi, nodeM, va_up, upd, h1, h2]
    next q2 => refine ⟨?_, ?_, ?_, fun z => absurd z q2, fun z => absurd z q⟩ <;> simp [ma, mi, nodeM, va_up, upd, h1, h2]
theorem fillC_n {N : MC} {h c n : Nat} (hn : h < n) : (1 ≤ cP N c → (fillC N h c n).2 51 n = 0 ∧ (fillC N h c n).2 52 n = N.2 41 c) ∧ (2 ≤ cP N c → (fillC N h c n).2 51 (n + 1) = 0 ∧ (fillC N h c n).2 52 (n + 1) = N.2 42 c) := by
  have h1 : n ≠ h := by omega
  have h2 : n + 1 ≠ h := by omega
  unfold fillC
  split
  next q => exact ⟨fun _ => ⟨by simp [ma, mi, nodeM, va_up, upd, h1], by simp [ma, mi, nodeM, va_up, upd, h1]⟩, fun _ => ⟨by simp [ma, mi, nodeM, va_up, upd], by simp [ma, mi, nodeM, va_up, upd]⟩⟩
  next q =>
    split
    next q2 => exact ⟨fun _ => ⟨by simp [ma, mi, nodeM, va_up, upd, h1], by simp [ma, mi, nodeM, va_up, upd, h1]⟩, fun z => absurd z q⟩
    next q2 => exact ⟨fun z => absurd z q2, fun z => absurd z q⟩
theorem fillC_6 {N : MC} {h c n : Nat} {r : List Nat} (hn : N.1 6 = nI n) : (fillC N h c n).1 6 = nI (n + (kids N c r).length) := by
  unfold fillC kids
  split
  next q => rw [if_pos (by omega)]; rfl
  next q =>
    split
    next q2 => rfl
    next q2 => exact hn
theorem RepX_C {N : MC} {s0 : Nat} {X : XS} {h c t : Nat} {r : List Nat} (hX : XW N s0 X) (hR : RepX N X) (hC : wfC N) (hh : X.1[h]? = some (r, t)) (hu : X.2 r = none) (hc : c < mC N) (hcs : cS N c = t) (hb : X.1.length + 2 ≤ 270) : RepX (fillC N h c X.1.length) (xC N X r c) := by
  have hlt := lt_of_get hh
  have hs := sT_cs (sT_fillC (M := N) (v := h) (c := c) (n := X.1.length))
  obtain ⟨s1, s2, -, s3, s4, s5, s6, -, -⟩ := hs
  obtain ⟨g1, g2, g3, g4, g5⟩ := fillC_h (N := N) (c := c) hlt
  obtain ⟨n1, n2⟩ := fillC_n (N := N) (c := c) hlt
  obtain ⟨-, ⟨-, b40⟩, w1, w2⟩ := hC.2.2 c hc
  have hkl : (kids N c r).length ≤ 2 := by
    unfold kids
    rw [List.length_append]
    split <;> split <;> simp
  have hnk : ∀ v, nK (fillC N h c X.1.length) v = ((fillC N h c X.1.length).2 51 v).toNatClampNeg := fun _ => rfl
  refine ⟨?_, ?_, fun v q tq hv => ?_⟩
  · show (fillC N h c X.1.length).1 6 = nI (X.1 ++ kids N c r).length
    rw [List.length_append]
    exact fillC_6 hR.1
  · show (X.1 ++ kids N c r).length ≤ 270
    rw [List.length_append]; omega
  · have hv : (X.1 ++ kids N c r)[v]? = some (q, tq) := hv
    have hup : ∀ {i : Nat} {z : List Nat × Nat}, X.1[i]? = some z → (X.1 ++ kids N c r)[i]? = some z := fun hz => by rw [List.getElem?_append_left (lt_of_get hz)]; exact hz
    rcases app_get hv with ⟨hl, z⟩ | ⟨i', rfl, z⟩
    · by_cases e : v = h
      · subst e
        rw [hh] at z
        cases z
        obtain ⟨-, a2, a3, -⟩ := hR.2.2 v _ _ hh
        have hk : nK (fillC N v c X.1.length) v = 2 := by rw [hnk, g1]; rfl
        refine ⟨⟨by rw [hk]; exact g1, by omega⟩, by rw [g2]; exact a2, by rw [s1]; exact a3, Or.inr (Or.inr (Or.inr ⟨hk, c, g3, by rw [s2]; exact hc, by rw [s3]; exact hcs, updT_s, fun y => ⟨X.1.length, ?_, ?_⟩, fun y => ⟨X.1.length + 1, ?_, ?_⟩⟩))⟩
        · rw [s4] at y; exact g4 y
        · rw [s4] at y
          rw [s5]
          show (X.1 ++ kids N c r)[X.1.length]? = _
          rw [List.getElem?_append_right (Nat.le_refl _), Nat.sub_self]
          unfold kids
          rw [if_pos y]; rfl
        · rw [s4] at y; exact g5 y
        · rw [s4] at y
          rw [s6]
          show (X.1 ++ kids N c r)[X.1.length + 1]? = _
          rw [List.getElem?_append_right (by omega), Nat.add_sub_cancel_left]
          unfold kids
          rw [if_pos (by omega), if_pos y]; rfl
      · have hne : q ≠ r := fun z2 => e (by subst z2; exact hX.1 v h q tq t z hh)
        obtain ⟨a1, a2, a3, a4⟩ := hR.2.2 v q tq z
        have o := fun a => fillC_old (N := N) (c := c) (a := a) e hl
        have hk : nK (fillC N h c X.1.length) v = nK N v := by rw [hnk, o]
        have hx : (xC N X r c).2 q = X.2 q := updT_n hne
        refine ⟨by rw [hk, o]; exact a1, by rw [o]; exact a2, by rw [s1]; exact a3, ?_⟩
        unfold repV
        rw [hk, hx, o, o, o, s2]
        refine a4.imp id (fun a4 => a4.imp id (fun a4 => a4.imp id (fun a4 => ⟨a4.1, ?_⟩)))
        obtain ⟨d, d1, d2, d3, d4, d5, d6⟩ := a4.2
        refine ⟨d, d1, d2, by rw [s3]; exact d3, d4, fun y => ?_, fun y => ?_⟩
        · rw [s4] at y
          obtain ⟨g, y1, y2⟩ := d5 y
          exact ⟨g, y1, by rw [s5]; exact hup y2⟩
        · rw [s4] at y
          obtain ⟨g, y1, y2⟩ := d6 y
          exact ⟨g, y1, by rw [s6]; exact hup y2⟩
    · have hnone : X.2 q = none ∧ q ≠ r := by
        have hq : ∃ k, q = k :: r := by rcases kids_get z with ⟨-, -, e, -⟩ | ⟨-, -, e, -⟩ <;> exact ⟨_, e⟩
        obtain ⟨k, rfl⟩ := hq
        refine ⟨?_, fun e => ?_⟩
        · cases hx : X.2 (k :: r) with
          | none => rfl
          | some a =>
            obtain ⟨s, h1, -⟩ := hX.2.2.2 _ _ hx
            obtain ⟨b, h2, -⟩ := srt_some h1
            rw [hu] at h2; cases h2
        · have := congrArg List.length e
          simp at this
      have hx : (xC N X r c).2 q = none := by rw [show (xC N X r c).2 q = X.2 q from updT_n hnone.2]; exact hnone.1
      rcases kids_get z with ⟨rfl, y, -, rfl⟩ | ⟨y, rfl, -, rfl⟩
      · obtain ⟨m1, m2⟩ := n1 y
        have hk : nK (fillC N h c X.1.length) (X.1.length + 0) = 0 := by rw [hnk, Nat.add_zero, m1]; rfl
        refine ⟨⟨by rw [hk]; exact m1, by omega⟩, ?_, by rw [s1]; exact (w1 y).2, Or.inl ⟨hk, hx⟩⟩
        rw [Nat.add_zero, m2]; exact (w1 y).1
      · obtain ⟨m1, m2⟩ := n2 y
        have hk : nK (fillC N h c X.1.length) (X.1.length + 1) = 0 := by rw [hnk, m1]; rfl
        exact ⟨⟨by rw [hk]; exact m1, by omega⟩, by rw [m2]; exact (w2 y).1, by rw [s1]; exact (w2 y).2, Or.inl ⟨hk, hx⟩⟩
def ilab (M : MC) (j m : Nat) : Int := if j < m then (M.2 62 j).toInt else BIG
theorem RepX_I {N : MC} {s0 : Nat} {X : XS} {h j m : Nat} {r : List Nat} (hX : XW N s0 X) (hR : RepX N X) (hh : X.1[h]? = some (r, 0)) : RepX (fillI N h j m) (xI X r (ilab N j m)) := by
  obtain ⟨s1, s2, -, s3, s4, s5, s6, -, -⟩ := sT_cs (sT_fillI (M := N) (v := h) (j := j) (m := m))
  have g1 : (fillI N h j m).2 51 h = if j < m then 1 else 3 := by simp [fillI, ma, va_up, upd]
  have g3 : (fillI N h j m).2 53 h = if j < m then N.2 62 j else 0 := by simp [fillI, ma, va_up, upd]
  have g2 : ∀ v, (fillI N h j m).2 52 v = N.2 52 v := fun v => rfl
  have g54 : ∀ v, (fillI N h j m).2 54 v = N.2 54 v := fun v => rfl
  have g55 : ∀ v, (fillI N h j m).2 55 v = N.2 55 v := fun v => rfl
  have o1 : ∀ v, v ≠ h → (fillI N h j m).2 51 v = N.2 51 v := fun v hv => by simp [fillI, ma, va_up, upd, hv]
  have o3 : ∀ v, v ≠ h → (fillI N h j m).2 53 v = N.2 53 v := fun v hv => by simp [fillI, ma, va_up, upd, hv]
  have hnk : ∀ v, nK (fillI N h j m) v = ((fillI N h j m).2 51 v).toNatClampNeg := fun _ => rfl
  refine ⟨hR.1, hR.2.1, fun v q tq hv => ?_⟩
  have hv : X.1[v]? = some (q, tq) := hv
  obtain ⟨a1, a2, a3, a4⟩ := hR.2.2 v q tq hv
  by_cases e : v = h
  · subst e
    rw [hh] at hv
    cases hv
    by_cases hj : j < m
    · rw [if_pos hj] at g1 g3
      have hk : nK (fillI N v j m) v = 1 := by rw [hnk, g1]; rfl
      refine ⟨⟨by rw [hk]; exact g1, by omega⟩, by rw [g2]; exact a2, by rw [s1]; exact a3, Or.inr (Or.inl ⟨hk, rfl, ?_⟩)⟩
      rw [g3]
      show updT X.2 r (ilab N j m) r = _
      rw [updT_s]; unfold ilab; rw [if_pos hj]
    · rw [if_neg hj] at g1 g3
      have hk : nK (fillI N v j m) v = 3 := by rw [hnk, g1]; rfl
      refine ⟨⟨by rw [hk]; exact g1, by omega⟩, by rw [g2]; exact a2, by rw [s1]; exact a3, Or.inr (Or.inr (Or.inl ⟨hk, rfl, ?_⟩))⟩
      show updT X.2 r (ilab N j m) r = _
      rw [updT_s]; unfold ilab; rw [if_neg hj]
  · have hne : q ≠ r := fun z2 => e (by subst z2; exact hX.1 v h q tq 0 hv hh)
    have hk : nK (fillI N h j m) v = nK N v := by rw [hnk, o1 v e]
    have hx : (xI X r (ilab N j m)).2 q = X.2 q := updT_n hne
    refine ⟨by rw [hk, o1 v e]; exact a1, by rw [g2]; exact a2, by rw [s1]; exact a3, ?_⟩
    unfold repV
    rw [hk, hx, o3 v e, g54, g55, s2]
    refine a4.imp id (fun a4 => a4.imp id (fun a4 => a4.imp id (fun a4 => ⟨a4.1, ?_⟩)))
    obtain ⟨d, d1, d2, d3, d4, d5, d6⟩ := a4.2
    exact ⟨d, d1, d2, by rw [s3]; exact d3, d4, fun y => by rw [s4] at y; rw [s5]; exact d5 y, fun y => by rw [s4] at y; rw [s6]; exact d6 y⟩
