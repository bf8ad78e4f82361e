/-! gather: the ints and cons of the patterns -/
def setG (M : MC) (I : Nat → Int32) (m : Nat) (S : Nat → Int32) : MC := (upd M.1 11 (nI m), va_up (va_up M.2 62 I) 59 S)
theorem setG_59 (M : MC) (I : Nat → Int32) (m : Nat) (S : Nat → Int32) (c : Nat) (v : Int32) : ma (setG M I m S) 59 c v = setG M I m (upd S c v) := by
  show ((upd M.1 11 (nI m), va_up (va_up (va_up M.2 62 I) 59 S) 59 (upd ((va_up (va_up M.2 62 I) 59 S) 59) c v)) : MC) = (upd M.1 11 (nI m), va_up (va_up M.2 62 I) 59 (upd S c v))
  rw [bx_uu, va_up_self]
theorem setG_62 (M : MC) (I : Nat → Int32) (m : Nat) (S : Nat → Int32) (j n : Nat) (v : Int32) : mi (ma (setG M I m S) 62 j v) 11 (nI n) = setG M (upd I j v) n S := by
  have e1 : upd (upd M.1 11 (nI m)) 11 (nI n) = upd M.1 11 (nI n) := funext fun z => by
    by_cases h : z = 11
    · rw [h, pk_us, pk_us]
    · rw [pk_un h, pk_un h, pk_un h]
  have e2 : va_up (va_up (va_up M.2 62 I) 59 S) 62 (upd ((va_up (va_up M.2 62 I) 59 S) 62) j v) = va_up (va_up M.2 62 (upd I j v)) 59 S := funext fun z => by
    have e3 : (va_up (va_up M.2 62 I) 59 S) 62 = I := rfl
    rw [e3]
    by_cases h : z = 62
    · subst h; rw [va_up_self, va_up_ne _ _ (by decide), va_up_self]
    · rw [va_up_ne _ _ h]
      by_cases h2 : z = 59
      · subst h2; rw [va_up_self, va_up_self]
      · rw [va_up_ne _ _ h2, va_up_ne _ _ h2, va_up_ne _ _ h, va_up_ne _ _ h]
  show ((upd (upd M.1 11 (nI m)) 11 (nI n), va_up (va_up (va_up M.2 62 I) 59 S) 62 (upd ((va_up (va_up M.2 62 I) 59 S) 62) j v)) : MC) = _
  rw [e1, e2]; rfl
def lab (c : Nat) : Int := 1099511627776 + c
def labL (M : MC) : Nat → Nat → List Int
  | 0, _ => []
  | f + 1, p => if pk M p = 0 then [] else if pk M p = 1 then [(M.2 45 p).toInt] else lab (pn M p) :: ((if 1 ≤ cP M (pn M p) then labL M f (pf M p) else []) ++ (if 2 ≤ cP M (pn M p) then labL M f (pg M p) else []))
def hasL (M : MC) (I : Nat → Int32) (m : Nat) (S : Nat → Int32) (x : Int) : Prop := (∃ i, i < m ∧ x = (I i).toInt) ∨ (∃ c, c < mC M ∧ x = lab c ∧ S c ≠ 0)
def gth (M : MC) (f p : Nat) (I : Nat → Int32) (m : Nat) (S I' : Nat → Int32) (m' : Nat) (S' : Nat → Int32) : Prop := m ≤ m' ∧ m' ≤ m + pd M p ∧ (∀ i, i < m → I' i = I i) ∧ (∀ c, S c ≠ 0 → S' c ≠ 0) ∧ ∀ x ∈ labL M f p, hasL M I' m' S' x
theorem hasL_mono {M : MC} {I : Nat → Int32} {m : Nat} {S I' : Nat → Int32} {m' : Nat} {S' : Nat → Int32} {x : Int} (h : hasL M I m S x) (h1 : m ≤ m') (h2 : ∀ i, i < m → I' i = I i) (h3 : ∀ c, S c ≠ 0 → S' c ≠ 0) : hasL M I' m' S' x := by
  rcases h with ⟨i, a, b⟩ | ⟨c, a, b, e⟩
  · exact Or.inl ⟨i, by omega, by rw [h2 i a]; exact b⟩
  · exact Or.inr ⟨c, a, b, h3 c e⟩
theorem upd_ne0 {S : Nat → Int32} {c : Nat} : ∀ a, S a ≠ 0 → upd S c 1 a ≠ 0 := fun a h => by
  by_cases e : a = c
  · rw [e, pk_us]; decide
  · rw [pk_un e]; exact h
theorem gth_any {M : MC} {f p : Nat} {I S : Nat → Int32} {m : Nat} (h : pk M p = 0) : gth M (f + 1) p I m S I m S :=
  ⟨Nat.le_refl _, Nat.le_add_right _ _, fun _ _ => rfl, fun _ h => h, fun x hx => by
    have e : labL M (f + 1) p = [] := if_pos h
    rw [e] at hx; cases hx⟩
theorem gth_num {M : MC} {f p : Nat} {I S : Nat → Int32} {m : Nat} (h : pk M p = 1) (i : Nat) (hi : i < m) (he : I i = M.2 45 p) : gth M (f + 1) p I m S I m S :=
  ⟨Nat.le_refl _, Nat.le_add_right _ _, fun _ _ => rfl, fun _ h => h, fun x hx => by
    have e : labL M (f + 1) p = [(M.2 45 p).toInt] := by show (if pk M p = 0 then _ else _) = _; rw [if_neg (by omega), if_pos h]
    rw [e] at hx
    rw [List.mem_singleton.mp hx]
    exact Or.inl ⟨i, hi, by rw [he]⟩⟩
theorem gth_new {M : MC} {f p : Nat} {I S : Nat → Int32} {m : Nat} (h : pk M p = 1) (hd : pd M p = 1) : gth M (f + 1) p I m S (upd I m (M.2 45 p)) (m + 1) S :=
  ⟨Nat.le_succ _, by omega, fun i hi => pk_un (by omega), fun _ h => h, fun x hx => by
    have e : labL M (f + 1) p = [(M.2 45 p).toInt] := by show (if pk M p = 0 then _ else _) = _; rw [if_neg (by omega), if_pos h]
    rw [e] at hx
    rw [List.mem_singleton.mp hx]
    exact Or.inl ⟨m, by omega, by rw [pk_us]⟩⟩
theorem labL_made {M : MC} {f p : Nat} (h : pk M p = 2) : labL M (f + 1) p = lab (pn M p) :: ((if 1 ≤ cP M (pn M p) then labL M f (pf M p) else []) ++ (if 2 ≤ cP M (pn M p) then labL M f (pg M p) else [])) := by
  show (if pk M p = 0 then _ else _) = _
  rw [if_neg (by omega), if_neg (by omega)]
theorem gth_0 {M : MC} {f p : Nat} {I S : Nat → Int32} {m : Nat} (h : pk M p = 2) (hc : pn M p < mC M) (h0 : ¬ 1 ≤ cP M (pn M p)) : gth M (f + 1) p I m S I m (upd S (pn M p) 1) :=
  ⟨Nat.le_refl _, Nat.le_add_right _ _, fun _ _ => rfl, upd_ne0, fun x hx => by
    rw [labL_made h, if_neg h0, if_neg (by omega)] at hx
    rw [List.mem_singleton.mp hx]
    exact Or.inr ⟨_, hc, rfl, by rw [pk_us]; decide⟩⟩
theorem gth_1 {M : MC} {f p : Nat} {I S I1 S1 : Nat → Int32} {m m1 : Nat} (h : pk M p = 2) (hc : pn M p < mC M) (h0 : 1 ≤ cP M (pn M p)) (h2 : ¬ 2 ≤ cP M (pn M p)) (hd : pd M p = 1 + pd M (pf M p)) (g : gth M f (pf M p) I m (upd S (pn M p) 1) I1 m1 S1) : gth M (f + 1) p I m S I1 m1 S1 := by
  obtain ⟨a1, a2, a3, a4, a5⟩ := g
  refine ⟨a1, by omega, a3, fun c hc => a4 c (upd_ne0 c hc), fun x hx => ?_⟩
  rw [labL_made h, if_pos h0, if_neg h2, List.append_nil] at hx
  rcases List.mem_cons.mp hx with rfl | hx
  · exact Or.inr ⟨_, hc, rfl, a4 _ (by rw [pk_us]; decide)⟩
  · exact a5 x hx
theorem gth_2 {M : MC} {f p : Nat} {I S I1 S1 I2 S2 : Nat → Int32} {m m1 m2 : Nat} (h : pk M p = 2) (hc : pn M p < mC M) (h2 : 2 ≤ cP M (pn M p)) (hd : pd M p = 1 + pd M (pf M p) + pd M (pg M p)) (g : gth M f (pf M p) I m (upd S (pn M p) 1) I1 m1 S1) (g2 : gth M f (pg M p) I1 m1 S1 I2 m2 S2) : gth M (f + 1) p I m S I2 m2 S2 := by
  obtain ⟨a1, a2, a3, a4, a5⟩ := g
  obtain ⟨b1, b2, b3, b4, b5⟩ := g2
  refine ⟨by omega, by omega, fun i hi => (b3 i (by omega)).trans (a3 i hi), fun c hc => b4 c (a4 c (upd_ne0 c hc)), fun x hx => ?_⟩
  rw [labL_made h, if_pos (by omega), if_pos h2] at hx
  rcases List.mem_cons.mp hx with rfl | hx
  · exact Or.inr ⟨_, hc, rfl, b4 _ (a4 _ (by rw [pk_us]; decide))⟩
  · rcases List.mem_append.mp hx with hx | hx
    · exact hasL_mono (a5 x hx) b1 b3 b4
    · exact b5 x hx
set_option maxHeartbeats 4000000 in
set_option maxRecDepth 100000 in
theorem l_M_gather {K : KC} {M : MC} {o : Nat → Int64} {nc ns : Nat} {d : Nat} (p : Nat) (I : Nat → Int32) (m : Nat) (S : Nat → Int32) (hpp : p < 200) (hm : m < 130) {post : mj_O → mj_H → Prop} (kf : ∀ i, i < m → I i = M.2 45 p → post (.inl none) (hp K (setG M I m S) o, nc, ns)) (kn : post (.inl none) (hp K (setG M (upd I m (M.2 45 p)) (m + 1) S) o, nc, ns)) : ∀ n i : Nat, i ≤ m → m < i + n → (∀ a, a < i → ¬ I a = M.2 45 p) → mj_G y_M_gather b_M_gather 3 none [] d none 12 [(2, .int (nI i)), (0, .ref 38), (1, .int (nI p))] [] (hp K (setG M I m S) o, nc, ns) post := by
  intro n
  induction n with
  | zero => intro i h1 h2; omega
  | succ n ih =>
    intro i h1 h2 h3
    refine G_iload_n 0 d_M_gather_12 rfl ?_
    refine G_aload_n 1 d_M_gather_13 rfl ?_
    refine G_gt d_M_gather_14 fr_M_119 (rd_M_intMany K (setG M I m S) o) ?_
    rw [show (setG M I m S).1 11 = nI m from rfl]
    refine G_icge 42 d_M_gather_17 (by decide) (fun h17 => ?_) (fun h17 => ?_)
    · have h17 := (nI_leI (by omega) (by omega)).mp h17
      have e9 : i = m := by omega
      refine G_aload_n 1 d_M_gather_42 rfl ?_
      refine G_gt d_M_gather_43 fr_M_84 (rd_M_ints K (setG M I m S) o) ?_
      refine G_aload_n 1 d_M_gather_46 rfl ?_
      refine G_gt d_M_gather_47 fr_M_119 (rd_M_intMany K (setG M I m S) o) ?_
      rw [show (setG M I m S).1 11 = nI m from rfl]
      refine G_aload_n 1 d_M_gather_50 rfl ?_
      refine G_gt d_M_gather_51 fr_M_32 (rd_M_what K (setG M I m S) o) ?_
      refine G_iload_n 2 d_M_gather_54 rfl ?_
      refine G_ialN d_M_gather_55 (ar_45 K (setG M I m S) o) (by decide) (by omega) ?_
      refine G_iasN d_M_gather_56 (ar_62 K (setG M I m S) o) (by decide) (by omega) (aw_62 K (setG M I m S) o m ((setG M I m S).2 45 p)) ?_
      refine G_aload_n 1 d_M_gather_57 rfl ?_
      refine G_dup d_M_gather_58 rfl ?_
      refine G_gt d_M_gather_59 fr_M_119 (rd_M_intMany K (ma (setG M I m S) 62 m ((setG M I m S).2 45 p)) o) ?_
      rw [show (ma (setG M I m S) 62 m ((setG M I m S).2 45 p)).1 11 = nI m from rfl]
      refine G_iconst (v := 1) d_M_gather_62 (by decide) ?_
      refine G_iadd d_M_gather_63 ?_
      rw [show nI m + 1 = nI (m + 1) from nI_1 m]
      refine G_pt d_M_gather_64 fp_M_119 (wr_M_intMany K (ma (setG M I m S) 62 m ((setG M I m S).2 45 p)) o (nI (m + 1))) ?_
      rw [setG_62]
      refine G_goto 141 d_M_gather_67 (by decide) ?_
      exact G_ret d_M_gather_141 rfl kn
    · have h17 : ¬ _ := fun z => h17 ((nI_leI (by omega) (by omega)).mpr z)
      refine G_aload_n 1 d_M_gather_20 rfl ?_
      refine G_gt d_M_gather_21 fr_M_84 (rd_M_ints K (setG M I m S) o) ?_
      refine G_iload_n 0 d_M_gather_24 rfl ?_
      refine G_ialN d_M_gather_25 (ar_62 K (setG M I m S) o) (by decide) (by omega) ?_
      refine G_aload_n 1 d_M_gather_26 rfl ?_
      refine G_gt d_M_gather_27 fr_M_32 (rd_M_what K (setG M I m S) o) ?_
      refine G_iload_n 2 d_M_gather_30 rfl ?_
      refine G_ialN d_M_gather_31 (ar_45 K (setG M I m S) o) (by decide) (by omega) ?_
      refine G_icne 36 d_M_gather_32 (by decide) (fun h32 => ?_) (fun h32 => ?_)
      · refine G_iinc 0 (v := nI (i + 1)) (ls' := [(2, .int (nI (i + 1))), (0, .ref 38), (1, .int (nI p))]) d_M_gather_36 rfl (nI_1 _) (by decide) rfl ?_
        refine G_goto 12 d_M_gather_39 (by decide) ?_
        exact ih (i + 1) (by omega) (by omega) (lt_s h3 h32)
      · exact G_ret d_M_gather_35 rfl (kf i (by omega) h32)
set_option maxHeartbeats 4000000 in
set_option maxRecDepth 100000 in
theorem c_M_gather {K : KC} {M : MC} {o : Nat → Int64} {nc ns : Nat} (hS : wfS M) (hC : wfC M) (hP : wfP M) : ∀ (f p d : Nat) (I : Nat → Int32) (m : Nat) (S : Nat → Int32) {post : mj_O → mj_H → Prop}, p < mP M → pd M p < f → pd M p ≤ d → m + pd M p ≤ 130 → (∀ (I2 : Nat → Int32) (m2 : Nat) (S2 : Nat → Int32), gth M f p I m S I2 m2 S2 → post (.inl none) (hp K (setG M I2 m2 S2) o, nc, ns)) → mj_G y_M_gather b_M_gather 3 none [] d none 0 [(0, .ref 38), (1, .int (nI p))] [] (hp K (setG M I m S) o, nc, ns) post := by
  have hS' := hS
  have hC' := hC
  have hP' := hP
  obtain ⟨e1S, q1, q2⟩ := hS'
  obtain ⟨e2C, q3, q4⟩ := hC'
  obtain ⟨-, p1, p2⟩ := hP'
  intro f
  induction f with
  | zero => intro p d I m S post h1 h2; omega
  | succ f ih =>
    intro p d I m S post hpp hf hd hm k
    obtain ⟨⟨e43, b43⟩, ⟨e44, b44⟩, ⟨e48, b48⟩, wP4, wP5, wP6⟩ := p2 p hpp
    refine G_aload_n 0 d_M_gather_0 rfl ?_
    refine G_gt d_M_gather_1 fr_M_26 (rd_M_kind K (setG M I m S) o) ?_
    refine G_iload_n 1 d_M_gather_4 rfl ?_
    refine G_ialN d_M_gather_5 (ar_43 K (setG M I m S) o) (by decide) (by omega) ?_
    rw [show (setG M I m S).2 43 p = nI (pk M p) from e43]
    refine G_iconst (v := nI 1) d_M_gather_6 (by decide) ?_
    refine G_icne 70 d_M_gather_7 (by decide) (fun h7 => ?_) (fun h7 => ?_)
    · have e1 : ¬ pk M p = 1 := fun z => h7 (by rw [z])
      refine G_aload_n 0 d_M_gather_70 rfl ?_
      refine G_gt d_M_gather_71 fr_M_26 (rd_M_kind K (setG M I m S) o) ?_
      refine G_iload_n 1 d_M_gather_74 rfl ?_
      refine G_ialN d_M_gather_75 (ar_43 K (setG M I m S) o) (by decide) (by omega) ?_
      rw [show (setG M I m S).2 43 p = nI (pk M p) from e43]
      refine G_iconst (v := nI 2) d_M_gather_76 (by decide) ?_
      refine G_icne 141 d_M_gather_77 (by decide) (fun h77 => ?_) (fun h77 => ?_)
      · exact G_ret d_M_gather_141 rfl (k _ _ _ (gth_any (by have : ¬ pk M p = 2 := fun z => h77 (by rw [z]); omega)))
      · have e2 : pk M p = 2 := (nI_eq (by omega) (by omega)).mp h77
        obtain ⟨⟨e45, b45, s45⟩, mF, mG, dd⟩ := wP6 e2
        obtain ⟨-, ⟨e40, b40⟩, -⟩ := q4 (pn M p) b45
        obtain ⟨d, rfl⟩ : ∃ d2, d = d2 + 1 := ⟨d - 1, by omega⟩
        refine G_aload_n 0 d_M_gather_80 rfl ?_
        refine G_gt d_M_gather_81 fr_M_75 (rd_M_stands K (setG M I m S) o) ?_
        refine G_aload_n 0 d_M_gather_84 rfl ?_
        refine G_gt d_M_gather_85 fr_M_32 (rd_M_what K (setG M I m S) o) ?_
        refine G_iload_n 1 d_M_gather_88 rfl ?_
        refine G_ialN d_M_gather_89 (ar_45 K (setG M I m S) o) (by decide) (by omega) ?_
        rw [show (setG M I m S).2 45 p = nI (pn M p) from e45]
        refine G_iconst (v := 1) d_M_gather_90 (by decide) ?_
        refine G_zasN d_M_gather_91 (ar_59 K (setG M I m S) o) (by decide) (by omega) rfl (aw_59 K (setG M I m S) o (pn M p) 1) ?_
        rw [setG_59]
        refine G_aload_n 0 d_M_gather_92 rfl ?_
        refine G_gt d_M_gather_93 fr_M_17 (rd_M_conParts K (setG M I m (upd S (pn M p) 1)) o) ?_
        refine G_aload_n 0 d_M_gather_96 rfl ?_
        refine G_gt d_M_gather_97 fr_M_32 (rd_M_what K (setG M I m (upd S (pn M p) 1)) o) ?_
        refine G_iload_n 1 d_M_gather_100 rfl ?_
        refine G_ialN d_M_gather_101 (ar_45 K (setG M I m (upd S (pn M p) 1)) o) (by decide) (by omega) ?_
        rw [show (setG M I m (upd S (pn M p) 1)).2 45 p = nI (pn M p) from e45]
        refine G_ialN d_M_gather_102 (ar_40 K (setG M I m (upd S (pn M p) 1)) o) (by decide) (by omega) ?_
        rw [show (setG M I m (upd S (pn M p) 1)).2 40 (pn M p) = nI (cP M (pn M p)) from e40]
        refine G_ifle 116 d_M_gather_103 (by decide) (fun h103 => ?_) (fun h103 => ?_)
        · have h103 := (nI_leI (b := 0) (by omega) (by omega)).mp (show nI _ ≤ nI 0 from h103)
          refine G_aload_n 0 d_M_gather_116 rfl ?_
          refine G_gt d_M_gather_117 fr_M_17 (rd_M_conParts K (setG M I m (upd S (pn M p) 1)) o) ?_
          refine G_aload_n 0 d_M_gather_120 rfl ?_
          refine G_gt d_M_gather_121 fr_M_32 (rd_M_what K (setG M I m (upd S (pn M p) 1)) o) ?_
          refine G_iload_n 1 d_M_gather_124 rfl ?_
          refine G_ialN d_M_gather_125 (ar_45 K (setG M I m (upd S (pn M p) 1)) o) (by decide) (by omega) ?_
          rw [show (setG M I m (upd S (pn M p) 1)).2 45 p = nI (pn M p) from e45]
          refine G_ialN d_M_gather_126 (ar_40 K (setG M I m (upd S (pn M p) 1)) o) (by decide) (by omega) ?_
          rw [show (setG M I m (upd S (pn M p) 1)).2 40 (pn M p) = nI (cP M (pn M p)) from e40]
          refine G_iconst (v := nI 1) d_M_gather_127 (by decide) ?_
          refine G_icle 141 d_M_gather_128 (by decide) (fun h128 => ?_) (fun h128 => ?_)
          · have h128 := (nI_leI (by omega) (by omega)).mp h128
            exact G_ret d_M_gather_141 rfl (k _ _ _ (gth_0 e2 b45 (by omega)))
          · have h128 : ¬ _ := fun z => h128 ((nI_leI (by omega) (by omega)).mpr z)
            omega
        · have h103 : ¬ cP M (pn M p) ≤ 0 := fun z => h103 (show nI _ ≤ nI 0 from (nI_leI (by omega) (by omega)).mpr z)
          obtain ⟨f1, f2, f3⟩ := mF (by omega)
          rw [if_pos (show 1 ≤ cP M (pn M p) by omega)] at dd
          refine G_aload_n 0 d_M_gather_106 rfl ?_
          refine G_aload_n 0 d_M_gather_107 rfl ?_
          refine G_gt d_M_gather_108 fr_M_35 (rd_M_first K (setG M I m (upd S (pn M p) 1)) o) ?_
          refine G_iload_n 1 d_M_gather_111 rfl ?_
          refine G_ialN d_M_gather_112 (ar_46 K (setG M I m (upd S (pn M p) 1)) o) (by decide) (by omega) ?_
          rw [show (setG M I m (upd S (pn M p) 1)).2 46 p = nI (pf M p) from f1]
          refine G_cvp (fun a9 A9 => a9 = none ∧ ∃ (I9 : Nat → Int32) (m9 : Nat) (S9 : Nat → Int32), gth M f (pf M p) I m (upd S (pn M p) 1) I9 m9 S9 ∧ A9 = (hp K (setG M I9 m9 S9) o, nc, ns)) (As := [.int (nI (pf M p))]) d_M_gather_113 cv_M_149 cw_M_gather (ob_M K (setG M I m (upd S (pn M p) 1)) o) np_M_gather (Nat.le_of_ble_eq_true rfl) (Nat.le_of_ble_eq_true rfl) (fun post2 kk => ih (pf M p) d I m (upd S (pn M p) 1) (by omega) (by omega) (by omega) (by omega) (fun I9 m9 S9 g => kk _ _ ⟨rfl, I9, m9, S9, g, rfl⟩)) (fun a9 A9 h9 => by obtain ⟨-, I9, m9, S9, -, rfl⟩ := h9; rfl) (fun a9 A9 h9 => ?_)
          obtain ⟨rfl, I1, m1, S1, ga, rfl⟩ := h9
          have ga1 := ga.1
          have ga2 := ga.2.1
          refine G_aload_n 0 d_M_gather_116 rfl ?_
          refine G_gt d_M_gather_117 fr_M_17 (rd_M_conParts K (setG M I1 m1 S1) o) ?_
          refine G_aload_n 0 d_M_gather_120 rfl ?_
          refine G_gt d_M_gather_121 fr_M_32 (rd_M_what K (setG M I1 m1 S1) o) ?_
          refine G_iload_n 1 d_M_gather_124 rfl ?_
          refine G_ialN d_M_gather_125 (ar_45 K (setG M I1 m1 S1) o) (by decide) (by omega) ?_
          rw [show (setG M I1 m1 S1).2 45 p = nI (pn M p) from e45]
          refine G_ialN d_M_gather_126 (ar_40 K (setG M I1 m1 S1) o) (by decide) (by omega) ?_
          rw [show (setG M I1 m1 S1).2 40 (pn M p) = nI (cP M (pn M p)) from e40]
          refine G_iconst (v := nI 1) d_M_gather_127 (by decide) ?_
          refine G_icle 141 d_M_gather_128 (by decide) (fun h128 => ?_) (fun h128 => ?_)
          · have h128 := (nI_leI (by omega) (by omega)).mp h128
            exact G_ret d_M_gather_141 rfl (k _ _ _ (gth_1 e2 b45 (by omega) (by omega) (by rw [if_neg (by omega)] at dd; omega) ga))
          · have h128 : ¬ _ := fun z => h128 ((nI_leI (by omega) (by omega)).mpr z)
            obtain ⟨g1, g2, g3⟩ := mG (by omega)
            rw [if_pos (show 2 ≤ cP M (pn M p) by omega)] at dd
            refine G_aload_n 0 d_M_gather_131 rfl ?_
            refine G_aload_n 0 d_M_gather_132 rfl ?_
            refine G_gt d_M_gather_133 fr_M_38 (rd_M_second K (setG M I1 m1 S1) o) ?_
            refine G_iload_n 1 d_M_gather_136 rfl ?_
            refine G_ialN d_M_gather_137 (ar_47 K (setG M I1 m1 S1) o) (by decide) (by omega) ?_
            rw [show (setG M I1 m1 S1).2 47 p = nI (pg M p) from g1]
            refine G_cvp (fun a9 A9 => a9 = none ∧ ∃ (I9 : Nat → Int32) (m9 : Nat) (S9 : Nat → Int32), gth M f (pg M p) I1 m1 S1 I9 m9 S9 ∧ A9 = (hp K (setG M I9 m9 S9) o, nc, ns)) (As := [.int (nI (pg M p))]) d_M_gather_138 cv_M_149 cw_M_gather (ob_M K (setG M I1 m1 S1) o) np_M_gather (Nat.le_of_ble_eq_true rfl) (Nat.le_of_ble_eq_true rfl) (fun post2 kk => ih (pg M p) d I1 m1 S1 (by omega) (by omega) (by omega) (by omega) (fun I9 m9 S9 g => kk _ _ ⟨rfl, I9, m9, S9, g, rfl⟩)) (fun a9 A9 h9 => by obtain ⟨-, I9, m9, S9, -, rfl⟩ := h9; rfl) (fun a9 A9 h9 => ?_)
            obtain ⟨rfl, I2, m2, S2, gb, rfl⟩ := h9
            have gb1 := gb.1
            have gb2 := gb.2.1
            exact G_ret d_M_gather_141 rfl (k _ _ _ (gth_2 e2 b45 (by omega) dd ga gb))
    · have e1 : pk M p = 1 := (nI_eq (by omega) (by omega)).mp h7
      refine G_iconst (v := nI 0) d_M_gather_10 (by decide) ?_
      refine G_istore_n (ls' := [(2, .int (nI 0)), (0, .ref 38), (1, .int (nI p))]) d_M_gather_11 (by decide) rfl ?_
      exact l_M_gather p I m S (by omega) (by have := wP5 e1; omega) (fun i a b => k _ _ _ (gth_num e1 i a b)) (k _ _ _ (gth_new e1 (wP5 e1).2)) (m + 1) 0 (by omega) (by omega) lt_0
