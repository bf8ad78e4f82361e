/-! has: the search -/
def coM (M : MC) : MC := (fun k => if k = 6 ∨ k = 7 ∨ k = 8 then 0 else M.1 k, fun a => if 51 ≤ a ∧ a ≤ 58 then (fun _ => 0) else M.2 a)
theorem co_of {α : Type} (f : MC → α) (hf : ∀ N, f (coM N) = f N) {N M : MC} (h : coM N = coM M) : f N = f M := by rw [← hf N, h, hf M]
theorem co_P (f : MC → Prop) (hf : ∀ N, f (coM N) = f N) {N M : MC} (h : coM N = coM M) (hM : f M) : f N := (co_of f hf h).mpr hM
theorem sT_co {N M : MC} (h : sT N M) : coM N = coM M := by
  unfold coM
  refine Prod.ext (funext fun k => ?_) (funext fun a => ?_)
  · show (if k = 6 ∨ k = 7 ∨ k = 8 then 0 else N.1 k) = (if k = 6 ∨ k = 7 ∨ k = 8 then 0 else M.1 k)
    by_cases e : k = 6 ∨ k = 7 ∨ k = 8
    · rw [if_pos e, if_pos e]
    · rw [if_neg e, if_neg e, h.1 k (by omega) (by omega)]
  · show (if 51 ≤ a ∧ a ≤ 58 then (fun _ => 0) else N.2 a) = (if 51 ≤ a ∧ a ≤ 58 then (fun _ => 0) else M.2 a)
    by_cases e : 51 ≤ a ∧ a ≤ 58
    · rw [if_pos e, if_pos e]
    · rw [if_neg e, if_neg e, h.2 a (by omega)]
theorem co_mi {M : MC} {k : Nat} {v : Int32} (h : k = 6 ∨ k = 7 ∨ k = 8) : coM (mi M k v) = coM M := by
  unfold coM
  refine Prod.ext (funext fun j => ?_) rfl
  show (if j = 6 ∨ j = 7 ∨ j = 8 then 0 else upd M.1 k v j) = (if j = 6 ∨ j = 7 ∨ j = 8 then 0 else M.1 j)
  by_cases e : j = 6 ∨ j = 7 ∨ j = 8
  · rw [if_pos e, if_pos e]
  · rw [if_neg e, if_neg e]; exact pk_un (by omega)
theorem co_ma {M : MC} {a i : Nat} {v : Int32} (h : 51 ≤ a ∧ a ≤ 58) : coM (ma M a i v) = coM M := by
  unfold coM
  refine Prod.ext rfl (funext fun b => ?_)
  show (if 51 ≤ b ∧ b ≤ 58 then (fun _ => 0) else va_up M.2 a (upd (M.2 a) i v) b) = (if 51 ≤ b ∧ b ≤ 58 then (fun _ => 0) else M.2 b)
  by_cases e : 51 ≤ b ∧ b ≤ 58
  · rw [if_pos e, if_pos e]
  · rw [if_neg e, if_neg e]; exact va_up_ne _ _ (by omega)
theorem co_wfS (N : MC) : wfS (coM N) = wfS N := rfl
theorem co_wfC (N : MC) : wfC (coM N) = wfC N := rfl
theorem co_wfP (N : MC) : wfP (coM N) = wfP N := rfl
theorem co_LV (N : MC) : LV (coM N) = LV N := rfl
theorem co_liv (N : MC) : livesOk (coM N) = livesOk N := rfl
theorem co_opt (N : MC) : optL (coM N) = optL N := rfl
theorem co_mC (N : MC) : mC (coM N) = mC N := rfl
theorem co_stepX (N : MC) : stepX (coM N) = stepX N := rfl
theorem co_askL (N : MC) : askL (coM N) = askL N := by
  funext f
  induction f with
  | zero => rfl
  | succ f ih =>
    funext p r
    show (if pk N p = 0 then [] else if pk N p = 1 then [(r, (N.2 45 p).toInt)] else (r, lab (pn N p)) :: ((if 1 ≤ cP N (pn N p) then askL (coM N) f (pf N p) (0 :: r) else []) ++ (if 2 ≤ cP N (pn N p) then askL (coM N) f (pg N p) (1 :: r) else []))) = _
    rw [ih]; rfl
theorem co_wfQ (N : MC) : wfQ (coM N) = wfQ N := rfl
theorem co_msL (N : MC) : msL (coM N) = msL N := rfl
theorem co_nvL (N : MC) : nvL (coM N) = nvL N := rfl
theorem co_fitT (N : MC) : fitT (coM N) = fitT N := by
  funext t p
  show (∀ x ∈ askL (coM N) 13 p [], _) = _
  rw [co_askL]; rfl
theorem co_misT (N : MC) : misT (coM N) = misT N := by
  funext t p
  show (∃ x ∈ askL (coM N) 13 p [], _) = _
  rw [co_askL]; rfl
theorem co_srt (N : MC) : srt (coM N) = srt N := by
  funext s t r
  cases r with
  | nil => rfl
  | cons k r => rfl
theorem co_wfT (N : MC) : wfT (coM N) = wfT N := by
  funext s t
  show (∀ r a, t r = some a → ∃ s2, srt (coM N) s t r = some s2 ∧ okA N s2 a) = _
  rw [co_srt]; rfl
theorem co_Sat (N : MC) : Sat (coM N) = Sat N := by
  funext s0 ms nv u
  show (∃ t, extT u t ∧ wfT (coM N) s0 t ∧ (∀ p ∈ ms, fitT (coM N) t p) ∧ ∀ p ∈ nv, misT (coM N) t p) = _
  rw [co_wfT, co_fitT, co_misT]; rfl
def PL (M : MC) : List (List Nat) := (msL M ++ nvL M).flatMap (fun p => (askL M 13 p []).map Prod.fst)
theorem co_PL (N : MC) : PL (coM N) = PL N := by
  unfold PL
  rw [co_askL]; rfl
/-- the prefix hangs on the written cells below n -/
def kp (N N' : MC) (n : Nat) : Prop := ∀ i, i < n → N.2 56 i = N'.2 56 i ∧ N.2 57 i = N'.2 57 i ∧ N.2 58 i = N'.2 58 i
theorem preX_kp {N N' : MC} {m s0 : Nat} (hc : coM N = coM N') : ∀ n, kp N N' n → preX N m s0 n = preX N' m s0 n := by
  intro n
  induction n with
  | zero => intro _; rfl
  | succ n ih =>
    intro h
    obtain ⟨h1, h2, -⟩ := h n (by omega)
    show stepX N m (preX N m s0 n) (hN N n) (jN N n) = stepX N' m (preX N' m s0 n) (hN N' n) (jN N' n)
    rw [ih (fun i hi => h i (by omega)), co_of stepX co_stepX hc]
    unfold hN jN
    rw [h1, h2]
theorem okPre_kp {N N' : MC} {m s0 n : Nat} (hc : coM N = coM N') (h : kp N N' n) (hok : okPre N' m s0 n) : okPre N m s0 n := by
  intro i hi
  obtain ⟨h1, h2, -⟩ := h i hi
  rw [preX_kp hc i (fun k hk => h k (by omega))]
  unfold hN jN
  rw [h1, h2, co_of optL co_opt hc, co_of mC co_mC hc]
  exact hok i hi
def oN (M : MC) (m t : Nat) : Nat := if t = 0 then m + 1 else (optL M t (mC M)).length
theorem okPre_s {N : MC} {m s0 n h t : Nat} {r : List Nat} (hok : okPre N m s0 n) (h1 : (preX N m s0 n).1[h]? = some (r, t)) (h2 : (preX N m s0 n).2 r = none) {j : Nat} (h3 : N.2 56 n = nI h) (h4 : N.2 57 n = nI j) (hb : h < 2 ^ 31) (hb2 : j < 2 ^ 31) (h5 : j < oN N m t) : okPre N m s0 (n + 1) := by
  intro i hi
  rcases Nat.lt_succ_iff_lt_or_eq.mp hi with q | rfl
  · exact hok i q
  · have e1 : hN N i = h := by unfold hN; rw [h3, nI_clamp hb]
    have e2 : jN N i = j := by unfold jN; rw [h4, nI_clamp hb2]
    rw [e1, e2]
    unfold oN at h5
    refine ⟨r, t, h1, h2, h3, h4, fun z => ?_, fun z => ?_⟩
    · rw [if_pos z] at h5; omega
    · rw [if_neg z] at h5; exact h5
theorem stepX_u {M : MC} {m h t j : Nat} {X : XS} {r : List Nat} (h1 : X.1[h]? = some (r, t)) (h5 : j < oN M m t) : ∃ a, (stepX M m X h j).2 = updT X.2 r a := by
  by_cases ht : t = 0
  · subst ht; rw [stepX_I h1]; exact ⟨_, rfl⟩
  · unfold oN at h5
    rw [if_neg ht] at h5
    rw [stepX_C h1 ht (List.getElem?_eq_getElem h5)]
    exact ⟨_, rfl⟩
theorem no_split {M : MC} {s0 m h t : Nat} {X : XS} {r : List Nat} {ms nv : List Nat} (hC : wfC M) (hP : wfP M) (hL : livesOk M) (hms : ∀ p ∈ ms, p < mP M ∧ ps M p = s0) (hG : ∀ p, p ∈ ms ∨ p ∈ nv → ∀ x ∈ askL M 13 p [], hasL M (M.2 62) m (M.2 59) x.2)
    (hX : XW M s0 X) (h1 : X.1[h]? = some (r, t)) (h2 : X.2 r = none) (hall : ∀ j, j < oN M m t → ¬ Sat M s0 ms nv (stepX M m X h j).2) : ¬ Sat M s0 ms nv X.2 := by
  intro hs
  obtain ⟨q1, q2⟩ := hX.2.2.1 h r t h1
  by_cases ht : t = 0
  · subst ht
    obtain ⟨j, j1, j2⟩ := split_I hC hP hms hG hX.2.2.2 h2 q1 hs
    refine hall j (by unfold oN; rw [if_pos rfl]; omega) ?_
    rw [stepX_I h1]; exact j2
  · obtain ⟨c, c1, c2⟩ := split_C hC hP hL hms hG hX.2.2.2 h2 q1 q2 ht hs
    obtain ⟨j, j1⟩ := List.getElem?_of_mem c1
    refine hall j (by unfold oN; rw [if_neg ht]; exact lt_of_get j1) ?_
    rw [stepX_C h1 ht j1]; exact c2
theorem oN_pos {M : MC} {m t : Nat} (hC : wfC M) (hL : livesOk M) (h : LV M t) : 0 < oN M m t := by
  unfold oN
  by_cases ht : t = 0
  · rw [if_pos ht]; omega
  · rw [if_neg ht]
    obtain ⟨-, q⟩ := LV_step h
    rcases q with q | ⟨c, c1, c2, c3⟩
    · exact absurd q ht
    have hu2 : usdD M c := (usd_iff hL hC c1).mpr c3
    by_cases htr : tri M c
    · exact List.length_pos_of_mem (mem_optL c1 ⟨c2, htr⟩)
    · obtain ⟨i, i1, i2, -, i4⟩ := tri_rep hu2 htr
      exact List.length_pos_of_mem (mem_optL (by omega) ⟨by rw [i2, c2], i4⟩)
def mu (l : List (List Nat)) (t : Tr) : Nat := (l.filter (fun r => (t r).isNone)).length
theorem mu_up {t : Tr} {r : List Nat} {a : Int} (h2 : t r = none) : ∀ l : List (List Nat), mu l (updT t r a) ≤ mu l t ∧ (r ∈ l → mu l (updT t r a) < mu l t) := by
  intro l
  induction l with
  | nil => exact ⟨Nat.le_refl _, fun h => by cases h⟩
  | cons q l ih =>
    unfold mu at *
    by_cases e : q = r
    · subst e
      have e1 : (updT t q a q).isNone = false := by rw [updT_s]; rfl
      have e2 : (t q).isNone = true := by rw [h2]; rfl
      rw [List.filter_cons_of_neg (by rw [e1]; decide), List.filter_cons_of_pos (by rw [e2])]
      rw [List.length_cons]
      exact ⟨by omega, fun _ => by omega⟩
    · have e1 : (updT t r a q).isNone = (t q).isNone := by rw [updT_n e]
      cases e2 : (t q).isNone with
      | true =>
        rw [List.filter_cons_of_pos (by rw [e1, e2]), List.filter_cons_of_pos (by rw [e2]), List.length_cons, List.length_cons]
        exact ⟨by omega, fun h => by have := ih.2 ((List.mem_cons.mp h).resolve_left (fun z => e z.symm)); omega⟩
      | false =>
        rw [List.filter_cons_of_neg (by rw [e1, e2]; decide), List.filter_cons_of_neg (by rw [e2]; decide)]
        exact ⟨ih.1, fun h => ih.2 ((List.mem_cons.mp h).resolve_left (fun z => e z.symm))⟩
theorem mu_le (l : List (List Nat)) (t : Tr) : mu l t ≤ l.length := List.length_filter_le _ _
theorem PL_len {M : MC} {s0 a b : Nat} (hP : wfP M) (hQ : wfQ M s0 a b) : (PL M).length ≤ 120 := by
  have key : ∀ l : List Nat, (∀ p ∈ l, p < mP M) → (l.flatMap (fun p => (askL M 13 p []).map Prod.fst)).length ≤ 12 * l.length := by
    intro l
    induction l with
    | nil => intro _; exact Nat.le_refl _
    | cons p l ih =>
      intro h
      have hp := h p List.mem_cons_self
      have hd := (hP.2.2 p hp).2.2.1.2
      rw [List.flatMap_cons, List.length_append, List.length_map, askL_len hP 13 p [] hp (by omega), List.length_cons]
      have := ih (fun q hq => h q (List.mem_cons_of_mem _ hq))
      omega
  obtain ⟨e9, b9, e10, b10, h1, h2⟩ := hQ
  have hl : (msL M ++ nvL M).length = a + b := by
    unfold msL nvL
    rw [List.length_append, List.length_map, List.length_map, List.length_range, List.length_range, e9, e10, nI_clamp (by omega), nI_clamp (by omega)]
  have := key (msL M ++ nvL M) (fun p hp => by
    rcases List.mem_append.mp hp with hp | hp
    · obtain ⟨i, hi, rfl⟩ := List.mem_map.mp hp
      rw [List.mem_range, e9, nI_clamp (by omega)] at hi
      obtain ⟨p, e, hp, -⟩ := h1 i hi
      have := hP.2.1
      rw [e, nI_clamp (by omega)]; exact hp
    · obtain ⟨i, hi, rfl⟩ := List.mem_map.mp hp
      rw [List.mem_range, e10, nI_clamp (by omega)] at hi
      obtain ⟨p, e, hp, -⟩ := h2 i hi
      have := hP.2.1
      rw [e, nI_clamp (by omega)]; exact hp)
  rw [hl] at this
  unfold PL
  omega
