/-! which sorts have a value: the greatest set of sorts that is closed -/
def LV (M : MC) (s : Nat) : Prop := ∃ X : Nat → Prop, X s ∧ ∀ t, X t → t < mS M ∧ (t = 0 ∨ ∃ c, c < mC M ∧ cS M c = t ∧ (1 ≤ cP M c → X (cF M c)) ∧ (2 ≤ cP M c → X (cG M c)))
def setL (M : MC) (L : Nat → Int32) : MC := (M.1, va_up M.2 50 L)
theorem setL_ma (M : MC) (L : Nat → Int32) (i : Nat) (v : Int32) : ma (setL M L) 50 i v = setL M (upd L i v) := by
  show ((M.1, va_up (va_up M.2 50 L) 50 (upd ((va_up M.2 50 L) 50) i v)) : MC) = (M.1, va_up M.2 50 (upd L i v))
  rw [bx_uu, va_up_self]
def exL (M : MC) (L : Nat → Int32) (s : Nat) : Prop := ∃ c, c < mC M ∧ cS M c = s ∧ usdD (setL M L) c
def exN (M : MC) (L : Nat → Int32) (s n : Nat) : Prop := ∃ c, c < n ∧ cS M c = s ∧ usdD (setL M L) c
def okJ (M : MC) (L : Nat → Int32) : Prop := (∀ a, a < mS M → L a = 0 ∨ L a = 1) ∧ L 0 = 1 ∧ ∀ a, a < mS M → LV M a → L a = 1
def cntL (M : MC) (L : Nat → Int32) : Nat := ((List.range (mS M)).filter (fun a => decide (L a ≠ 0))).length
theorem flt_le {α : Type} (p q : α → Bool) (l : List α) (h : ∀ x ∈ l, q x = true → p x = true) : (l.filter q).length ≤ (l.filter p).length := by
  induction l with
  | nil => exact Nat.le_refl _
  | cons x l ih =>
    have ih := ih (fun z hz => h z (List.mem_cons_of_mem _ hz))
    have hx := h x List.mem_cons_self
    cases hq : q x with
    | false =>
      rw [List.filter_cons_of_neg (by rw [hq]; decide)]
      cases hp : p x with
      | false => rw [List.filter_cons_of_neg (by rw [hp]; decide)]; exact ih
      | true => rw [List.filter_cons_of_pos hp]; exact Nat.le_succ_of_le ih
    | true => rw [List.filter_cons_of_pos hq, List.filter_cons_of_pos (hx hq)]; exact Nat.succ_le_succ ih
theorem flt_lt {α : Type} (p q : α → Bool) (l : List α) (h : ∀ x ∈ l, q x = true → p x = true) (hx : ∃ x ∈ l, p x = true ∧ q x = false) : (l.filter q).length < (l.filter p).length := by
  induction l with
  | nil => obtain ⟨x, hx, -⟩ := hx; cases hx
  | cons x l ih =>
    have h1 : ∀ z ∈ l, q z = true → p z = true := fun z hz => h z (List.mem_cons_of_mem _ hz)
    have h0 := h x List.mem_cons_self
    obtain ⟨z, hz, hp, hq⟩ := hx
    rcases List.mem_cons.mp hz with rfl | hz
    · rw [List.filter_cons_of_neg (by rw [hq]; decide), List.filter_cons_of_pos hp]
      exact Nat.lt_succ_of_le (flt_le p q l h1)
    · have ih := ih h1 ⟨z, hz, hp, hq⟩
      cases hq : q x with
      | false =>
        rw [List.filter_cons_of_neg (by rw [hq]; decide)]
        cases hp : p x with
        | false => rw [List.filter_cons_of_neg (by rw [hp]; decide)]; exact ih
        | true => rw [List.filter_cons_of_pos hp]; exact Nat.lt_succ_of_lt ih
      | true => rw [List.filter_cons_of_pos hq, List.filter_cons_of_pos (h0 hq)]; exact Nat.succ_lt_succ ih
theorem cnt_strike {M : MC} {L : Nat → Int32} {s : Nat} (hs : s < mS M) (h : L s ≠ 0) : cntL M (upd L s 0) < cntL M L := by
  refine flt_lt _ _ _ (fun x _ hx => ?_) ⟨s, List.mem_range.mpr hs, decide_eq_true h, ?_⟩
  · have hx := of_decide_eq_true hx
    by_cases e : x = s
    · rw [e]; exact decide_eq_true h
    · rw [pk_un e] at hx; exact decide_eq_true hx
  · rw [pk_us]; decide
theorem LV_0 {M : MC} (h : 1 ≤ mS M) : LV M 0 := ⟨fun t => t = 0, rfl, fun t ht => ⟨by omega, Or.inl ht⟩⟩
theorem LV_step {M : MC} {s : Nat} (h : LV M s) : s < mS M ∧ (s = 0 ∨ ∃ c, c < mC M ∧ cS M c = s ∧ (1 ≤ cP M c → LV M (cF M c)) ∧ (2 ≤ cP M c → LV M (cG M c))) := by
  obtain ⟨X, h1, h2⟩ := h
  obtain ⟨h3, h4⟩ := h2 s h1
  refine ⟨h3, h4.imp id ?_⟩
  rintro ⟨c, a1, a2, a3, a4⟩
  exact ⟨c, a1, a2, fun z => ⟨X, a3 z, h2⟩, fun z => ⟨X, a4 z, h2⟩⟩
theorem J_strike {M : MC} {L : Nat → Int32} {s : Nat} (hJ : okJ M L) (hC : wfC M) (h1 : 1 ≤ s) (hn : ¬ exL M L s) : okJ M (upd L s 0) := by
  have hlv : ¬ LV M s := by
    intro h
    obtain ⟨h3, h4⟩ := LV_step h
    rcases h4 with h4 | ⟨c, a1, a2, a3, a4⟩
    · omega
    · have q := hC.2.2 c a1
      have one : ∀ t, LV M t → L t ≠ 0 := fun t ht => by rw [hJ.2.2 t (LV_step ht).1 ht]; decide
      exact hn ⟨c, a1, a2, fun z => one _ (a3 z), fun z => one _ (a4 z)⟩
  refine ⟨fun a ha => ?_, ?_, fun a ha hl => ?_⟩
  · by_cases e : a = s
    · rw [e, pk_us]; exact Or.inl rfl
    · rw [pk_un e]; exact hJ.1 a ha
  · rw [pk_un (by omega)]; exact hJ.2.1
  · by_cases e : a = s
    · rw [e] at hl; exact absurd hl hlv
    · rw [pk_un e]; exact hJ.2.2 a ha hl
theorem J_end {M : MC} {L : Nat → Int32} (hJ : okJ M L) (hC : wfC M) (hc : ∀ a, 1 ≤ a → a < mS M → L a ≠ 0 → exL M L a) : ∀ a, a < mS M → (L a = 1 ∧ LV M a) ∨ (L a = 0 ∧ ¬ LV M a) := by
  have key : ∀ a, a < mS M → L a ≠ 0 → LV M a := fun a ha h => ⟨fun t => t < mS M ∧ L t ≠ 0, ⟨ha, h⟩, fun t ht => by
    refine ⟨ht.1, ?_⟩
    by_cases e : t = 0
    · exact Or.inl e
    · obtain ⟨c, a1, a2, a3, a4⟩ := hc t (by omega) ht.1 ht.2
      have q := hC.2.2 c a1
      exact Or.inr ⟨c, a1, a2, fun z => ⟨(q.2.2.1 z).2, a3 z⟩, fun z => ⟨(q.2.2.2 z).2, a4 z⟩⟩⟩
  intro a ha
  rcases hJ.1 a ha with h | h
  · exact Or.inr ⟨h, fun z => by have := hJ.2.2 a ha z; rw [h] at this; exact absurd this (by decide)⟩
  · exact Or.inl ⟨h, key a ha (by rw [h]; decide)⟩
set_option maxHeartbeats 4000000 in
set_option maxRecDepth 100000 in
theorem l_M_liveD {d : Nat} {K : KC} {M : MC} {o : Nat → Int64} {nc ns : Nat} (L : Nat → Int32) (s : Nat) (mo : Int32) (hS : wfS M) (hC : wfC M) (hs1 : 1 ≤ s) (hs2 : s < mS M) {post : mj_O → mj_H → Prop} (kY : exN M L s (mC M) → mj_G y_M_live b_M_live 5 none [] (d + 1) none 119 [(4, .int (nI (mC M))), (3, .int 1), (2, .int (nI s)), (1, .int mo), (0, .ref 38)] [] (hp K (setL M L) o, nc, ns) post) (kN : ¬ exN M L s (mC M) → mj_G y_M_live b_M_live 5 none [] (d + 1) none 119 [(1, .int 1), (4, .int (nI (mC M))), (3, .int 0), (2, .int (nI s)), (0, .ref 38)] [] (hp K (setL M (upd L s 0)) o, nc, ns) post) : ∀ (n c : Nat) (e : Int32), c ≤ mC M → mC M < c + n → ((e = 1 ∧ exN M L s c) ∨ (e = 0 ∧ ¬ exN M L s c)) → mj_G y_M_live b_M_live 5 none [] (d + 1) none 58 [(4, .int (nI c)), (3, .int e), (2, .int (nI s)), (1, .int mo), (0, .ref 38)] [] (hp K (setL M L) o, nc, ns) post := by
  have hS' := hS
  have hC' := hC
  obtain ⟨-, q1, q2⟩ := hS'
  obtain ⟨e2, q3, q4⟩ := hC'
  intro n
  induction n with
  | zero => intro c e h1 h2; omega
  | succ n ih =>
    intro c e h1 h2 he
    rcases he with ⟨rfl, hx⟩ | ⟨rfl, hx⟩
    · refine G_iload 0 d_M_live_58 rfl ?_
      refine G_aload_n 4 d_M_live_60 rfl ?_
      refine G_gt d_M_live_61 fr_M_97 (rd_M_cons K (setL M L) o) ?_
      rw [show (setL M L).1 2 = nI (mC M) from e2]
      refine G_icge 103 d_M_live_64 (by decide) (fun h64 => ?_) (fun h64 => ?_)
      · have h64 := (nI_leI (by omega) (by omega)).mp h64
        have e9 : c = mC M := by omega
        subst e9
        refine G_iload_n 1 d_M_live_103 rfl ?_
        refine G_ifeq 110 d_M_live_104 (by decide) (fun h => absurd h (by decide)) (fun _ => ?_)
        refine G_goto 119 d_M_live_107 (by decide) ?_
        exact kY hx
      · have h64 : ¬ _ := fun z => h64 ((nI_leI (by omega) (by omega)).mpr z)
        obtain ⟨⟨ec, bc1, bc2⟩, -⟩ := q4 c (by omega)
        refine G_iload_n 1 d_M_live_67 rfl ?_
        refine G_ifne 91 d_M_live_68 (by decide) (fun _ => ?_) (fun h => absurd h (by decide))
        refine G_iconst (v := 1) d_M_live_91 (by decide) ?_
        refine G_goto 96 d_M_live_92 (by decide) ?_
        refine G_istore_n (ls' := [(3, .int 1), (4, .int (nI c)), (2, .int (nI s)), (1, .int mo), (0, .ref 38)]) d_M_live_96 (by decide) rfl ?_
        refine G_iinc 1 (v := nI (c + 1)) (ls' := [(4, .int (nI (c + 1))), (3, .int 1), (2, .int (nI s)), (1, .int mo), (0, .ref 38)]) d_M_live_97 rfl (nI_1 _) (by decide) rfl ?_
        refine G_goto 58 d_M_live_100 (by decide) ?_
        exact ih (c + 1) _ (by omega) (by omega) (Or.inl ⟨rfl, hx.imp (fun _ z => ⟨by omega, z.2⟩)⟩)
    · refine G_iload 0 d_M_live_58 rfl ?_
      refine G_aload_n 4 d_M_live_60 rfl ?_
      refine G_gt d_M_live_61 fr_M_97 (rd_M_cons K (setL M L) o) ?_
      rw [show (setL M L).1 2 = nI (mC M) from e2]
      refine G_icge 103 d_M_live_64 (by decide) (fun h64 => ?_) (fun h64 => ?_)
      · have h64 := (nI_leI (by omega) (by omega)).mp h64
        have e9 : c = mC M := by omega
        subst e9
        refine G_iload_n 1 d_M_live_103 rfl ?_
        refine G_ifeq 110 d_M_live_104 (by decide) (fun _ => ?_) (fun h => absurd h (by decide))
        refine G_aload_n 4 d_M_live_110 rfl ?_
        refine G_gt d_M_live_111 fr_M_47 (rd_M_lives K (setL M L) o) ?_
        refine G_iload_n 2 d_M_live_114 rfl ?_
        refine G_iconst (v := 0) d_M_live_115 (by decide) ?_
        refine G_zasN d_M_live_116 (ar_50 K (setL M L) o) (by decide) (by omega) rfl (aw_50 K (setL M L) o s 0) ?_
        refine G_iconst (v := 1) d_M_live_117 (by decide) ?_
        refine G_istore_n (ls' := [(1, .int 1), (4, .int (nI (mC M))), (3, .int 0), (2, .int (nI s)), (0, .ref 38)]) d_M_live_118 (by decide) rfl ?_
        rw [setL_ma]; exact kN hx
      · have h64 : ¬ _ := fun z => h64 ((nI_leI (by omega) (by omega)).mpr z)
        obtain ⟨⟨ec, bc1, bc2⟩, -⟩ := q4 c (by omega)
        refine G_iload_n 1 d_M_live_67 rfl ?_
        refine G_ifne 91 d_M_live_68 (by decide) (fun h => absurd h (by decide)) (fun _ => ?_)
        refine G_aload_n 4 d_M_live_71 rfl ?_
        refine G_gt d_M_live_72 fr_M_13 (rd_M_conSort K (setL M L) o) ?_
        refine G_iload 0 d_M_live_75 rfl ?_
        refine G_ialN d_M_live_77 (ar_39 K (setL M L) o) (by decide) (by omega) ?_
        rw [show (setL M L).2 39 c = nI (cS M c) from ec]
        refine G_iload_n 2 d_M_live_78 rfl ?_
        refine G_icne 95 d_M_live_79 (by decide) (fun h79 => ?_) (fun h79 => ?_)
        · refine G_iconst (v := 0) d_M_live_95 (by decide) ?_
          refine G_istore_n (ls' := [(3, .int 0), (4, .int (nI c)), (2, .int (nI s)), (1, .int mo), (0, .ref 38)]) d_M_live_96 (by decide) rfl ?_
          refine G_iinc 1 (v := nI (c + 1)) (ls' := [(4, .int (nI (c + 1))), (3, .int 0), (2, .int (nI s)), (1, .int mo), (0, .ref 38)]) d_M_live_97 rfl (nI_1 _) (by decide) rfl ?_
          refine G_goto 58 d_M_live_100 (by decide) ?_
          exact ih (c + 1) _ (by omega) (by omega) (Or.inr ⟨rfl, fun ⟨b, z1, z2⟩ => (Nat.lt_succ_iff_lt_or_eq.mp z1).elim (fun z => hx ⟨b, z, z2⟩) (fun z => by subst z; exact h79 (by rw [z2.1]))⟩)
        · have h79 := (nI_eq (by omega) (by omega)).mp h79
          refine G_aload_n 4 d_M_live_82 rfl ?_
          refine G_iload 0 d_M_live_83 rfl ?_
          refine G_cvB (usdD (setL M L) c) (As := [.int (nI c)]) d_M_live_85 cv_M_113 cw_M_isUsed (ob_M K (setL M L) o) np_M_isUsed (Nat.le_of_ble_eq_true rfl) (Nat.le_of_ble_eq_true rfl) (fun post2 k1 k0 => c_M_isUsed c (show wfS (setL M L) from hS) (show wfC (setL M L) from hC) (show c < mC M by omega) k1 k0) (fun u85 => ?_) (fun u85 => ?_)
          · refine G_ifeq 95 d_M_live_88 (by decide) (fun h => absurd h (by decide)) (fun _ => ?_)
            refine G_iconst (v := 1) d_M_live_91 (by decide) ?_
            refine G_goto 96 d_M_live_92 (by decide) ?_
            refine G_istore_n (ls' := [(3, .int 1), (4, .int (nI c)), (2, .int (nI s)), (1, .int mo), (0, .ref 38)]) d_M_live_96 (by decide) rfl ?_
            refine G_iinc 1 (v := nI (c + 1)) (ls' := [(4, .int (nI (c + 1))), (3, .int 1), (2, .int (nI s)), (1, .int mo), (0, .ref 38)]) d_M_live_97 rfl (nI_1 _) (by decide) rfl ?_
            refine G_goto 58 d_M_live_100 (by decide) ?_
            exact ih (c + 1) _ (by omega) (by omega) (Or.inl ⟨rfl, c, by omega, h79, u85⟩)
          · refine G_ifeq 95 d_M_live_88 (by decide) (fun _ => ?_) (fun h => absurd h (by decide))
            refine G_iconst (v := 0) d_M_live_95 (by decide) ?_
            refine G_istore_n (ls' := [(3, .int 0), (4, .int (nI c)), (2, .int (nI s)), (1, .int mo), (0, .ref 38)]) d_M_live_96 (by decide) rfl ?_
            refine G_iinc 1 (v := nI (c + 1)) (ls' := [(4, .int (nI (c + 1))), (3, .int 0), (2, .int (nI s)), (1, .int mo), (0, .ref 38)]) d_M_live_97 rfl (nI_1 _) (by decide) rfl ?_
            refine G_goto 58 d_M_live_100 (by decide) ?_
            exact ih (c + 1) _ (by omega) (by omega) (Or.inr ⟨rfl, fun ⟨b, z1, z2⟩ => (Nat.lt_succ_iff_lt_or_eq.mp z1).elim (fun z => hx ⟨b, z, z2⟩) (fun z => by subst z; exact u85 z2.2)⟩)
set_option maxHeartbeats 4000000 in
set_option maxRecDepth 100000 in
theorem l_M_liveC {d : Nat} {K : KC} {M : MC} {o : Nat → Int64} {nc ns : Nat} (n0 : Nat) (hS : wfS M) (hC : wfC M) {post : mj_O → mj_H → Prop} (k : ∀ (L : Nat → Int32) (mo : Int32), okJ M L → ((mo = 1 ∧ cntL M L < n0) ∨ (mo = 0 ∧ cntL M L ≤ n0 ∧ ∀ a, 1 ≤ a → a < mS M → L a ≠ 0 → exL M L a)) → mj_G y_M_live b_M_live 5 none [] (d + 1) none 25 [(2, .int (nI (mS M))), (1, .int mo), (0, .ref 38)] [] (hp K (setL M L) o, nc, ns) post) : ∀ (n s : Nat) (L : Nat → Int32) (mo : Int32), 1 ≤ s → s ≤ mS M → mS M < s + n → okJ M L → ((mo = 1 ∧ cntL M L < n0) ∨ (mo = 0 ∧ cntL M L ≤ n0 ∧ ∀ a, 1 ≤ a → a < s → L a ≠ 0 → exL M L a)) → mj_G y_M_live b_M_live 5 none [] (d + 1) none 33 [(2, .int (nI s)), (1, .int mo), (0, .ref 38)] [] (hp K (setL M L) o, nc, ns) post := by
  have hS' := hS
  have hC' := hC
  obtain ⟨e1, q1, q2⟩ := hS'
  obtain ⟨e2, q3, q4⟩ := hC'
  intro n
  induction n with
  | zero => intro s L mo h0 h1 h2; omega
  | succ n ih =>
    intro s L mo h0 h1 h2 hJ hmo
    refine G_iload_n 0 d_M_live_33 rfl ?_
    refine G_aload_n 2 d_M_live_34 rfl ?_
    refine G_gt d_M_live_35 fr_M_7 (rd_M_sorts K (setL M L) o) ?_
    rw [show (setL M L).1 1 = nI (mS M) from e1]
    refine G_icge 125 d_M_live_38 (by decide) (fun h38 => ?_) (fun h38 => ?_)
    · have h38 := (nI_leI (by omega) (by omega)).mp h38
      have e9 : s = mS M := by omega
      subst e9
      refine G_goto 25 d_M_live_125 (by decide) ?_
      exact k L mo hJ hmo
    · have h38 : ¬ _ := fun z => h38 ((nI_leI (by omega) (by omega)).mpr z)
      refine G_aload_n 2 d_M_live_41 rfl ?_
      refine G_gt d_M_live_42 fr_M_47 (rd_M_lives K (setL M L) o) ?_
      refine G_iload_n 0 d_M_live_45 rfl ?_
      refine G_zalN d_M_live_46 (ar_50 K (setL M L) o) (by decide) (by omega) ?_
      refine G_ifne 53 d_M_live_47 (by decide) (fun h47 => ?_) (fun h47 => ?_)
      · refine G_iconst (v := 0) d_M_live_53 (by decide) ?_
        refine G_istore_n (ls' := [(3, .int 0), (2, .int (nI s)), (1, .int mo), (0, .ref 38)]) d_M_live_54 (by decide) rfl ?_
        refine G_iconst (v := nI 0) d_M_live_55 (by decide) ?_
        refine G_istore (ls' := [(4, .int (nI 0)), (3, .int 0), (2, .int (nI s)), (1, .int mo), (0, .ref 38)]) d_M_live_56 (by decide) rfl ?_
        refine l_M_liveD L s mo hS hC h0 (by omega) (fun z => ?_) (fun z => ?_) (mC M + 1) 0 0 (by omega) (by omega) (Or.inr ⟨rfl, fun ⟨b, z1, _⟩ => absurd z1 (Nat.not_lt_zero b)⟩)
        · refine G_iinc 2 (v := nI (s + 1)) (ls' := [(2, .int (nI (s + 1))), (4, .int (nI (mC M))), (3, .int 1), (1, .int mo), (0, .ref 38)]) d_M_live_119 rfl (nI_1 _) (by decide) rfl ?_
          refine G_goto 33 d_M_live_122 (by decide) ?_
          exact G_sub [0, 3, 4] rfl (ih (s + 1) L mo (by omega) (by omega) (by omega) hJ (hmo.imp id (fun z2 => ⟨z2.1, z2.2.1, fun a a1 a2 a3 => (Nat.lt_succ_iff_lt_or_eq.mp a2).elim (fun q => z2.2.2 a a1 q a3) (fun q => by subst q; exact z)⟩)))
        · refine G_iinc 3 (v := nI (s + 1)) (ls' := [(2, .int (nI (s + 1))), (1, .int 1), (4, .int (nI (mC M))), (3, .int 0), (0, .ref 38)]) d_M_live_119 rfl (nI_1 _) (by decide) rfl ?_
          refine G_goto 33 d_M_live_122 (by decide) ?_
          exact G_sub [0, 1, 4] rfl (ih (s + 1) (upd L s 0) 1 (by omega) (by omega) (by omega) (J_strike hJ hC h0 z) (Or.inl ⟨rfl, by have := cnt_strike (M := M) (L := L) (s := s) (by omega) h47; rcases hmo with q | q <;> omega⟩))
      · refine G_goto 119 d_M_live_50 (by decide) ?_
        refine G_iinc 0 (v := nI (s + 1)) (ls' := [(2, .int (nI (s + 1))), (1, .int mo), (0, .ref 38)]) d_M_live_119 rfl (nI_1 _) (by decide) rfl ?_
        refine G_goto 33 d_M_live_122 (by decide) ?_
        exact ih (s + 1) L mo (by omega) (by omega) (by omega) hJ (hmo.imp id (fun z => ⟨z.1, z.2.1, fun a a1 a2 a3 => (Nat.lt_succ_iff_lt_or_eq.mp a2).elim (fun q => z.2.2 a a1 q a3) (fun q => by subst q; exact absurd h47 a3)⟩))
set_option maxHeartbeats 4000000 in
set_option maxRecDepth 100000 in
theorem l_M_live0 {d : Nat} {K : KC} {M : MC} {o : Nat → Int64} {nc ns : Nat} (L : Nat → Int32) {post : mj_O → mj_H → Prop} (k : post (.inl none) (hp K (setL M L) o, nc, ns)) : mj_G y_M_live b_M_live 5 none [] (d + 1) none 25 [(2, .int (nI (mS M))), (1, .int 0), (0, .ref 38)] [] (hp K (setL M L) o, nc, ns) post := by
  refine G_iload_n 1 d_M_live_25 rfl ?_
  refine G_ifeq 128 d_M_live_26 (by decide) (fun _ => ?_) (fun h => absurd h (by decide))
  exact G_ret d_M_live_128 rfl k
set_option maxHeartbeats 4000000 in
set_option maxRecDepth 100000 in
theorem l_M_liveB {d : Nat} {K : KC} {M : MC} {o : Nat → Int64} {nc ns : Nat} (hS : wfS M) (hC : wfC M) {post : mj_O → mj_H → Prop} (k : ∀ L : Nat → Int32, (∀ a, a < mS M → (L a = 1 ∧ LV M a) ∨ (L a = 0 ∧ ¬ LV M a)) → post (.inl none) (hp K (setL M L) o, nc, ns)) : ∀ (n : Nat) (L : Nat → Int32), cntL M L < n → okJ M L → mj_G y_M_live b_M_live 5 none [] (d + 1) none 25 [(1, .int 1), (0, .ref 38)] [] (hp K (setL M L) o, nc, ns) post := by
  have hS' := hS
  obtain ⟨e1, q1, q2⟩ := hS'
  intro n
  induction n with
  | zero => intro L h; omega
  | succ n ih =>
    intro L hn hJ
    refine G_iload_n 0 d_M_live_25 rfl ?_
    refine G_ifeq 128 d_M_live_26 (by decide) (fun h => absurd h (by decide)) (fun _ => ?_)
    refine G_iconst (v := 0) d_M_live_29 (by decide) ?_
    refine G_istore_n (ls' := [(1, .int 0), (0, .ref 38)]) d_M_live_30 (by decide) rfl ?_
    refine G_iconst (v := nI 1) d_M_live_31 (by decide) ?_
    refine G_istore_n (ls' := [(2, .int (nI 1)), (1, .int 0), (0, .ref 38)]) d_M_live_32 (by decide) rfl ?_
    refine l_M_liveC (cntL M L) hS hC (fun L2 mo2 hJ2 hm2 => ?_) (mS M + 1) 1 L 0 (by omega) (by omega) (by omega) hJ (Or.inr ⟨rfl, Nat.le_refl _, fun a a1 a2 => by omega⟩)
    rcases hm2 with ⟨rfl, hm⟩ | ⟨rfl, -, hm⟩
    · exact G_sub [1, 2] rfl (ih L2 (by omega) hJ2)
    · exact l_M_live0 L2 (k L2 (J_end hJ2 hC hm))
set_option maxHeartbeats 4000000 in
set_option maxRecDepth 100000 in
theorem l_M_liveA {d : Nat} {K : KC} {M : MC} {o : Nat → Int64} {nc ns : Nat} (hS : wfS M) {post : mj_O → mj_H → Prop} (k : ∀ L : Nat → Int32, (∀ a, a < mS M → L a = 1) → mj_G y_M_live b_M_live 5 none [] (d + 1) none 25 [(1, .int 1), (0, .ref 38)] [] (hp K (setL M L) o, nc, ns) post) : ∀ (n i : Nat) (L : Nat → Int32), i ≤ mS M → mS M < i + n → (∀ a, a < i → L a = 1) → mj_G y_M_live b_M_live 5 none [] (d + 1) none 2 [(1, .int (nI i)), (0, .ref 38)] [] (hp K (setL M L) o, nc, ns) post := by
  have hS' := hS
  obtain ⟨e1, q1, q2⟩ := hS'
  intro n
  induction n with
  | zero => intro i L h1 h2; omega
  | succ n ih =>
    intro i L h1 h2 h3
    refine G_iload_n 0 d_M_live_2 rfl ?_
    refine G_aload_n 1 d_M_live_3 rfl ?_
    refine G_gt d_M_live_4 fr_M_7 (rd_M_sorts K (setL M L) o) ?_
    rw [show (setL M L).1 1 = nI (mS M) from e1]
    refine G_icge 23 d_M_live_7 (by decide) (fun h7 => ?_) (fun h7 => ?_)
    · have h7 := (nI_leI (by omega) (by omega)).mp h7
      refine G_iconst (v := 1) d_M_live_23 (by decide) ?_
      refine G_istore_n (ls' := [(1, .int 1), (0, .ref 38)]) d_M_live_24 (by decide) rfl ?_
      exact k L (fun a ha => h3 a (by omega))
    · have h7 : ¬ _ := fun z => h7 ((nI_leI (by omega) (by omega)).mpr z)
      refine G_aload_n 1 d_M_live_10 rfl ?_
      refine G_gt d_M_live_11 fr_M_47 (rd_M_lives K (setL M L) o) ?_
      refine G_iload_n 0 d_M_live_14 rfl ?_
      refine G_iconst (v := 1) d_M_live_15 (by decide) ?_
      refine G_zasN d_M_live_16 (ar_50 K (setL M L) o) (by decide) (by omega) rfl (aw_50 K (setL M L) o i 1) ?_
      rw [setL_ma]
      refine G_iinc 0 (v := nI (i + 1)) (ls' := [(1, .int (nI (i + 1))), (0, .ref 38)]) d_M_live_17 rfl (nI_1 _) (by decide) rfl ?_
      refine G_goto 2 d_M_live_20 (by decide) ?_
      exact ih (i + 1) (upd L i 1) (by omega) (by omega) (fun a ha => if e : a = i then by rw [e, pk_us] else by rw [pk_un e]; exact h3 a (by omega))
theorem setL_self (M : MC) : setL M (M.2 50) = M := by
  have e : va_up M.2 50 (M.2 50) = M.2 := funext fun z => by
    by_cases h : z = 50
    · rw [h, va_up_self]
    · rw [va_up_ne _ _ h]
  show ((M.1, va_up M.2 50 (M.2 50)) : MC) = M
  rw [e]
theorem setL_id {K : KC} {o : Nat → Int64} (M : MC) : hp K M o = hp K (setL M (M.2 50)) o := by rw [setL_self]
set_option maxHeartbeats 4000000 in
set_option maxRecDepth 100000 in
theorem c_M_live {d : Nat} {K : KC} {M : MC} {o : Nat → Int64} {nc ns : Nat} (hS : wfS M) (hC : wfC M) {post : mj_O → mj_H → Prop} (k : ∀ L : Nat → Int32, (∀ a, a < mS M → (L a = 1 ∧ LV M a) ∨ (L a = 0 ∧ ¬ LV M a)) → post (.inl none) (hp K (setL M L) o, nc, ns)) : mj_G y_M_live b_M_live 5 none [] (d + 1) none 0 [(0, .ref 38)] [] (hp K M o, nc, ns) post := by
  refine G_iconst (v := nI 0) d_M_live_0 (by decide) ?_
  refine G_istore_n (ls' := [(1, .int (nI 0)), (0, .ref 38)]) d_M_live_1 (by decide) rfl ?_
  rw [setL_id M]
  refine l_M_liveA (M := M) hS (fun L hL => ?_) (mS M + 1) 0 (M.2 50) (by omega) (by omega) lt_0
  exact l_M_liveB hS hC k (cntL M L + 1) L (by omega) ⟨fun a ha => Or.inr (hL a ha), hL 0 (by have := hS.2.1; omega), fun a ha _ => hL a ha⟩
