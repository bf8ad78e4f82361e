theorem ov_val {s : State} {A : Array Value} {t : FieldType} : (Cond.arrayOver (.array t)).before A s = true ↔ ∃ comp c k, s.vm.findClass (FieldType.array t).toString = some comp ∧ (s.vm.classes.findIdx? fun (x : Class) => match x.kind with | .array component _ => component == comp | _ => false) = some c ∧ s.vm.classes[c]? = some k ∧ (∃ u, k.kind = .array u (.array t)) ∧ s.vm.findClass ("[" ++ (FieldType.array t).toString) = some c := by
  simp only [Cond.before, Cond.holds, Cond.value, beq_iff_eq]
  constructor
  · intro h
    cases hc : s.vm.findClass (FieldType.array t).toString with
    | none => rw [hc] at h; cases h
    | some comp =>
      rw [hc] at h
      simp only [Option.bind_some, Option.bind_eq_some_iff, Option.map_eq_some_iff] at h
      obtain ⟨c, hi, k, hk, hb⟩ := h
      cases hkk : k.kind with
      | array u ty =>
        rw [hkk] at hb
        simp only [Bool.and_eq_true, decide_eq_true_eq] at hb
        obtain ⟨h1, h2⟩ := hb
        subst h1
        exact ⟨comp, c, k, rfl, hi, hk, ⟨u, hkk⟩, h2⟩
      | _ => rw [hkk] at hb; cases hb
  · rintro ⟨comp, c, k, h1, h2, h3, ⟨u, h4⟩, h5⟩
    rw [h1]
    simp only [Option.bind_some, Option.bind_eq_some_iff, Option.map_eq_some_iff]
    refine ⟨c, h2, k, h3, ?_⟩
    rw [h4]
    simp only [Bool.and_eq_true, decide_eq_true_eq]
    exact ⟨trivial, h5⟩
theorem ov_moved {s U : State} {A A' : Array Value} {t : FieldType} (hW : s.WarmedH U.vm) (h : (Cond.arrayOver (.array t)).before A s = true) : (Cond.arrayOver (.array t)).before A' U = true := by
  obtain ⟨comp, c, k, h1, h2, h3, ⟨u, h4⟩, h5⟩ := ov_val.mp h
  have hal := hW.alike
  obtain ⟨k', hk', he⟩ := hal.2.2 _ _ h3
  exact ov_val.mpr ⟨comp, c, k', by rw [hal.findClass]; exact h1, by rw [hal.findIdx?_eqK _ (fun _ => rfl)]; exact h2, hk', ⟨u, by rw [he]; exact h4⟩, by rw [hal.findClass]; exact h5⟩
