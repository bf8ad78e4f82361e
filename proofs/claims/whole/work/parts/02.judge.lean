/-! the words of the tables that any later state keeps -/
def tw_k (w : Cond) : Bool := match w with
  | .arrayClass _ | .fieldLinkNest .. | .methodLinkNest .. | .stringRef .. | .arrayOver (.array _) => true
  | w => w.onTables && (w.keeps || w.faceAtom)
def tw_tbl : List Cond := lw_tbl.filter tw_k
theorem tw_moved {w : Cond} {s U : State} {A A' : Array Value} (hW : s.WarmedH U.vm) (hk : tw_k w = true) (h : w.before A s = true) : w.before A' U = true := by
  have main : (w.onTables && (w.keeps || w.faceAtom)) = true → w.before A' U = true := by
    intro hq
    simp only [Bool.and_eq_true, Bool.or_eq_true] at hq
    have h1 : w.before A (s.setVm U.vm) = true := by
      rcases hq.2 with h2 | h2
      · exact Cond.holds_shifted (State.Shifted.of_warmed hW) w [] h2 h
      · exact Cond.faceAtom_setVm hW.alike w h2 h
    exact va_tabs hq.1 (rfl : (s.setVm U.vm).vm = U.vm) h1
  cases w with
  | arrayClass ty => exact word_at hW (Or.inr ⟨ty, rfl⟩) h
  | arrayOver ty =>
    cases ty with
    | array t => exact ov_moved hW h
    | _ => exact main hk
  | fieldLinkNest a i b n d hh => exact va_tabs rfl (rfl : (s.setVm U.vm).vm = U.vm) (Cond.fieldLinkNest_warmed hW h)
  | methodLinkNest a i x hh => exact va_tabs rfl (rfl : (s.setVm U.vm).vm = U.vm) (Cond.methodLinkNest_warmed hW h)
  | stringRef a i t => exact Cond.stringRef_warmed hW h
  | _ => exact main hk
theorem tw_in {w : Cond} (h : w ∈ tw_tbl) : tw_k w = true := (List.mem_filter.mp h).2
/-! abstract cells: arrays by a tag (0 int, 1 long, 2 boolean, 3 int[]), objects by the number of their class; references are numbers of cells -/
abbrev mj_C : Type := (Nat × vp_A) ⊕ (Nat × List Value)
abbrev mj_H : Type := List mj_C × Nat × Nat
abbrev mj_O : Type := Option Value ⊕ Nat
def mj_v (ad : Nat → Nat) (v : Value) : Value := match v with
  | .ref k => .ref (ad k)
  | w => w
def mj_A (ad : Nat → Nat) (x : vp_A) : vp_A := (x.1, match x.2 with
  | .inr (.inr (.inr (.inr f))) => .inr (.inr (.inr (.inr (fun i => (f i).map ad))))
  | y => y)
def mj_E (ad : Nat → Nat) (cy : ClassId) (c : mj_C) : va_E := match c with
  | .inl q => .inl (cy, mj_A ad q.2)
  | .inr q => .inr (q.1, q.2.map (mj_v ad))
def mj_W (ad : Nat → Nat) (cy : Nat → ClassId) (A : List mj_C) : va_W := A.mapIdx (fun k c => (ad k, mj_E ad (cy k) c))
theorem mj_W_get {ad : Nat → Nat} {cy : Nat → ClassId} {A : List mj_C} {k : Nat} {c : mj_C} (h : A[k]? = some c) : (mj_W ad cy A)[k]? = some (ad k, mj_E ad (cy k) c) := by
  simp [mj_W, h]
theorem mj_W_set {ad : Nat → Nat} {cy : Nat → ClassId} {A : List mj_C} {k : Nat} {c : mj_C} : (mj_W ad cy A).set k (ad k, mj_E ad (cy k) c) = mj_W ad cy (A.set k c) := by
  simp [mj_W, List.mapIdx_set]
theorem mj_W_len {ad : Nat → Nat} {cy : Nat → ClassId} {A : List mj_C} : (mj_W ad cy A).length = A.length := by simp [mj_W]
def mj_rv (n : Nat) (v : Value) : Prop := ∀ j, v = .ref j → j < n
/-- every reference that the cell holds is below n -/
def mj_rf (n : Nat) (c : mj_C) : Prop := match c with
  | .inl q => (match q.2.2 with
    | .inr (.inr (.inr (.inr f))) => ∀ i j, f i = some j → j < n
    | _ => True)
  | .inr q => ∀ v ∈ q.2, mj_rv n v
theorem mj_v_ext {ad ad' : Nat → Nat} {n : Nat} {v : Value} (h : mj_rv n v) (he : ∀ k, k < n → ad' k = ad k) : mj_v ad' v = mj_v ad v := by
  cases v with
  | ref j => show Value.ref (ad' j) = Value.ref (ad j); rw [he j (h j rfl)]
  | _ => rfl
theorem mj_E_ext {ad ad' : Nat → Nat} {n : Nat} {cy : ClassId} {c : mj_C} (h : mj_rf n c) (he : ∀ k, k < n → ad' k = ad k) : mj_E ad' cy c = mj_E ad cy c := by
  rcases c with ⟨tg, m, x⟩ | ⟨ci, fs⟩
  · rcases x with f | f | f | f | f
    · rfl
    · rfl
    · rfl
    · rfl
    · show Sum.inl (cy, (m, _)) = Sum.inl (cy, (m, _))
      have hf : (fun i => (f i).map ad') = fun i => (f i).map ad := by
        funext i
        cases hfi : f i with
        | none => rfl
        | some j => show some (ad' j) = some (ad j); rw [he j (h i j hfi)]
      simp only [hf]
  · show Sum.inr (ci, fs.map (mj_v ad')) = Sum.inr (ci, fs.map (mj_v ad))
    have : fs.map (mj_v ad') = fs.map (mj_v ad) := List.map_congr_left (fun v hv => mj_v_ext (h v hv) he)
    rw [this]
theorem mj_W_push {ad : Nat → Nat} {cy : Nat → ClassId} {A : List mj_C} {q : Nat} {cA : ClassId} {c : mj_C} (hA : ∀ (k : Nat) (c : mj_C), A[k]? = some c → mj_rf A.length c) (hc : mj_rf A.length c) :
    mj_W ad cy A ++ [(q, mj_E ad cA c)] = mj_W (va_up ad A.length q) (va_up cy A.length cA) (A ++ [c]) := by
  unfold mj_W
  rw [List.mapIdx_concat]
  have he : ∀ k, k < A.length → va_up ad A.length q k = ad k := fun k hk => va_up_ne ad q (Nat.ne_of_lt hk)
  congr 1
  · apply List.ext_getElem?
    intro k
    rw [List.getElem?_mapIdx, List.getElem?_mapIdx]
    cases hk : A[k]? with
    | none => rfl
    | some d =>
      have hlt : k < A.length := by
        rcases Nat.lt_or_ge k A.length with h | h
        · exact h
        · rw [List.getElem?_eq_none h] at hk; cases hk
      show some (ad k, mj_E ad (cy k) d) = some (va_up ad A.length q k, mj_E (va_up ad A.length q) (va_up cy A.length cA k) d)
      rw [he k hlt, va_up_ne cy cA (Nat.ne_of_lt hlt), mj_E_ext (hA k d hk) he]
  · rw [va_up_self, va_up_self, mj_E_ext hc he]
def mj_ty (t : Nat) : FieldType := match t with
  | 0 => .int
  | 1 => .long
  | 2 => .boolean
  | _ => .array .int
