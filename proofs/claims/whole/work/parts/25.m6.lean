/-! fill: a hole gets an option -/
theorem optL_sub {M : MC} {s : Nat} : ∀ {n m : Nat}, n ≤ m → ∃ l, optL M s m = optL M s n ++ l := by
  intro n m
  induction m with
  | zero => intro h; exact ⟨[], by rw [show n = 0 by omega]; rfl⟩
  | succ m ih =>
    intro h
    by_cases e : n = m + 1
    · exact ⟨[], by rw [e, List.append_nil]⟩
    · obtain ⟨l, hl⟩ := ih (by omega)
      by_cases hm : cS M m = s ∧ tri M m
      · exact ⟨l ++ [m], by rw [optL_yes hm, hl, List.append_assoc]⟩
      · exact ⟨l, by rw [optL_no hm, hl]⟩
theorem optL_at {M : MC} {s e m : Nat} (h : e + 1 ≤ m) (he : cS M e = s ∧ tri M e) : (optL M s m)[(optL M s e).length]? = some e := by
  obtain ⟨l, hl⟩ := optL_sub (M := M) (s := s) h
  rw [hl, optL_yes he, List.append_assoc, List.getElem?_append_right (Nat.le_refl _), Nat.sub_self]
  rfl
theorem optL_mem {M : MC} {s n c : Nat} (h : c ∈ optL M s n) : c < n ∧ cS M c = s ∧ tri M c := by
  unfold optL at h
  obtain ⟨h1, h2⟩ := List.mem_filter.mp h
  exact ⟨List.mem_range.mp h1, of_decide_eq_true h2⟩
theorem mem_optL {M : MC} {s n c : Nat} (h : c < n) (h2 : cS M c = s ∧ tri M c) : c ∈ optL M s n := by
  unfold optL
  exact List.mem_filter.mpr ⟨List.mem_range.mpr h, decide_eq_true h2⟩
def fillI (M : MC) (v j m : Nat) : MC := ma (ma M 51 v (if j < m then 1 else 3)) 53 v (if j < m then M.2 62 j else 0)
def fillC (M : MC) (v c n : Nat) : MC := if 2 ≤ cP M c then ma (nodeM (ma (nodeM (ma (ma M 51 v 2) 53 v (nI c)) n (M.2 41 c)) 54 v (nI n)) (n + 1) (M.2 42 c)) 55 v (nI (n + 1)) else if 1 ≤ cP M c then ma (nodeM (ma (ma M 51 v 2) 53 v (nI c)) n (M.2 41 c)) 54 v (nI n) else ma (ma M 51 v 2) 53 v (nI c)
theorem fill_m1 (r : Nat) : nI (r + 1) - 1 + (-1) = nI r - 1 := by rw [nI_pred]; exact (Int32.sub_eq_add_neg (nI r) 1).symm
set_option maxHeartbeats 4000000 in
set_option maxRecDepth 100000 in
theorem c_M_fillI {K : KC} {M : MC} {o : Nat → Int64} {nc ns : Nat} {d : Nat} (v j m : Nat) (hv : v < 270) (hj : j < 131) (hmm : m ≤ 130) (hm : M.1 11 = nI m) (h52 : M.2 52 v = 0) {post : mj_O → mj_H → Prop} (k : post (.inl none) (hp K (fillI M v j m) o, nc, ns)) : mj_G y_M_fill b_M_fill 5 none [] d none 0 [(0, .ref 38), (1, .int (nI v)), (2, .int (nI j))] [] (hp K M o, nc, ns) post := by
  by_cases hjm : j < m
  · have e1 : fillI M v j m = ma (ma M 51 v (1 : Int32)) 53 v (M.2 62 j) := by unfold fillI; rw [if_pos hjm, if_pos hjm]
    rw [e1] at k
    refine G_aload_n 0 d_M_fill_0 rfl ?_
    refine G_gt d_M_fill_1 fr_M_54 (rd_M_nodeSort K M o) ?_
    refine G_iload_n 1 d_M_fill_4 rfl ?_
    refine G_ialN d_M_fill_5 (ar_52 K M o) (by decide) (by omega) ?_
    refine G_ifne 53 d_M_fill_6 (by decide) (fun h6 => False.elim (h6 (by rw [h52]))) (fun h6 => ?_)
    refine G_aload_n 0 d_M_fill_9 rfl ?_
    refine G_gt d_M_fill_10 fr_M_51 (rd_M_nodeKind K M o) ?_
    refine G_iload_n 1 d_M_fill_13 rfl ?_
    refine G_iload_n 2 d_M_fill_14 rfl ?_
    refine G_aload_n 0 d_M_fill_15 rfl ?_
    refine G_gt d_M_fill_16 fr_M_119 (rd_M_intMany K M o) ?_
    rw [show M.1 11 = nI m from hm]
    refine G_icge 26 d_M_fill_19 (by decide) (fun h19 => False.elim (absurd ((nI_leI (by omega) (by omega)).mp h19) (by omega))) (fun h19 => ?_)
    refine G_iconst (v := (1 : Int32)) d_M_fill_22 (by decide) ?_
    refine G_goto 27 d_M_fill_23 (by decide) ?_
    refine G_iasN d_M_fill_27 (ar_51 K M o) (by decide) (by omega) (aw_51 K M o v (1 : Int32)) ?_
    refine G_aload_n 0 d_M_fill_28 rfl ?_
    refine G_gt d_M_fill_29 fr_M_57 (rd_M_nodeWhat K (ma M 51 v (1 : Int32)) o) ?_
    refine G_iload_n 1 d_M_fill_32 rfl ?_
    refine G_iload_n 2 d_M_fill_33 rfl ?_
    refine G_aload_n 0 d_M_fill_34 rfl ?_
    refine G_gt d_M_fill_35 fr_M_119 (rd_M_intMany K (ma M 51 v (1 : Int32)) o) ?_
    rw [show (ma M 51 v (1 : Int32)).1 11 = nI m from hm]
    refine G_icge 50 d_M_fill_38 (by decide) (fun h38 => False.elim (absurd ((nI_leI (by omega) (by omega)).mp h38) (by omega))) (fun h38 => ?_)
    refine G_aload_n 0 d_M_fill_41 rfl ?_
    refine G_gt d_M_fill_42 fr_M_84 (rd_M_ints K (ma M 51 v (1 : Int32)) o) ?_
    refine G_iload_n 2 d_M_fill_45 rfl ?_
    refine G_ialN d_M_fill_46 (ar_62 K (ma M 51 v (1 : Int32)) o) (by decide) (by omega) ?_
    refine G_goto 51 d_M_fill_47 (by decide) ?_
    refine G_iasN d_M_fill_51 (ar_53 K (ma M 51 v (1 : Int32)) o) (by decide) (by omega) (aw_53 K (ma M 51 v (1 : Int32)) o v ((ma M 51 v (1 : Int32)).2 62 j)) ?_
    exact G_ret d_M_fill_52 rfl k
  · have e1 : fillI M v j m = ma (ma M 51 v (3 : Int32)) 53 v (0 : Int32) := by unfold fillI; rw [if_neg hjm, if_neg hjm]
    rw [e1] at k
    refine G_aload_n 0 d_M_fill_0 rfl ?_
    refine G_gt d_M_fill_1 fr_M_54 (rd_M_nodeSort K M o) ?_
    refine G_iload_n 1 d_M_fill_4 rfl ?_
    refine G_ialN d_M_fill_5 (ar_52 K M o) (by decide) (by omega) ?_
    refine G_ifne 53 d_M_fill_6 (by decide) (fun h6 => False.elim (h6 (by rw [h52]))) (fun h6 => ?_)
    refine G_aload_n 0 d_M_fill_9 rfl ?_
    refine G_gt d_M_fill_10 fr_M_51 (rd_M_nodeKind K M o) ?_
    refine G_iload_n 1 d_M_fill_13 rfl ?_
    refine G_iload_n 2 d_M_fill_14 rfl ?_
    refine G_aload_n 0 d_M_fill_15 rfl ?_
    refine G_gt d_M_fill_16 fr_M_119 (rd_M_intMany K M o) ?_
    rw [show M.1 11 = nI m from hm]
    refine G_icge 26 d_M_fill_19 (by decide) (fun h19 => ?_) (fun h19 => False.elim (h19 ((nI_leI (by omega) (by omega)).mpr (by omega))))
    refine G_iconst (v := (3 : Int32)) d_M_fill_26 (by decide) ?_
    refine G_iasN d_M_fill_27 (ar_51 K M o) (by decide) (by omega) (aw_51 K M o v (3 : Int32)) ?_
    refine G_aload_n 0 d_M_fill_28 rfl ?_
    refine G_gt d_M_fill_29 fr_M_57 (rd_M_nodeWhat K (ma M 51 v (3 : Int32)) o) ?_
    refine G_iload_n 1 d_M_fill_32 rfl ?_
    refine G_iload_n 2 d_M_fill_33 rfl ?_
    refine G_aload_n 0 d_M_fill_34 rfl ?_
    refine G_gt d_M_fill_35 fr_M_119 (rd_M_intMany K (ma M 51 v (3 : Int32)) o) ?_
    rw [show (ma M 51 v (3 : Int32)).1 11 = nI m from hm]
    refine G_icge 50 d_M_fill_38 (by decide) (fun h38 => ?_) (fun h38 => False.elim (h38 ((nI_leI (by omega) (by omega)).mpr (by omega))))
    refine G_iconst (v := (0 : Int32)) d_M_fill_50 (by decide) ?_
    refine G_iasN d_M_fill_51 (ar_53 K (ma M 51 v (3 : Int32)) o) (by decide) (by omega) (aw_53 K (ma M 51 v (3 : Int32)) o v (0 : Int32)) ?_
    exact G_ret d_M_fill_52 rfl k
set_option maxHeartbeats 4000000 in
set_option maxRecDepth 100000 in
theorem l_M_fillE {K : KC} {M : MC} {o : Nat → Int64} {nc ns : Nat} {d : Nat} (v c n : Nat) (x4 x2 : Int32) (hC : wfC M) (hc : c < mC M) (hv : v < 270) (hn : M.1 6 = nI n) (hb : n + 2 ≤ 270) {post : mj_O → mj_H → Prop} (k : post (.inl none) (hp K (fillC M v c n) o, nc, ns)) : mj_G y_M_fill b_M_fill 5 none [] (d + 1) none 101 [(4, .int x4), (3, .int (nI c)), (0, .ref 38), (1, .int (nI v)), (2, .int x2)] [] (hp K M o, nc, ns) post := by
  obtain ⟨-, q3, q4⟩ := hC
  obtain ⟨-, ⟨e40, b40⟩, -⟩ := q4 c hc
  refine G_aload_n 2 d_M_fill_101 rfl ?_
  refine G_gt d_M_fill_102 fr_M_51 (rd_M_nodeKind K M o) ?_
  refine G_iload_n 3 d_M_fill_105 rfl ?_
  refine G_iconst (v := (2 : Int32)) d_M_fill_106 (by decide) ?_
  refine G_iasN d_M_fill_107 (ar_51 K M o) (by decide) (by omega) (aw_51 K M o v (2 : Int32)) ?_
  refine G_aload_n 2 d_M_fill_108 rfl ?_
  refine G_gt d_M_fill_109 fr_M_57 (rd_M_nodeWhat K (ma M 51 v (2 : Int32)) o) ?_
  refine G_iload_n 3 d_M_fill_112 rfl ?_
  refine G_iload_n 1 d_M_fill_113 rfl ?_
  refine G_iasN d_M_fill_114 (ar_53 K (ma M 51 v (2 : Int32)) o) (by decide) (by omega) (aw_53 K (ma M 51 v (2 : Int32)) o v (nI c)) ?_
  refine G_aload_n 2 d_M_fill_115 rfl ?_
  refine G_gt d_M_fill_116 fr_M_17 (rd_M_conParts K (ma (ma M 51 v (2 : Int32)) 53 v (nI c)) o) ?_
  refine G_iload_n 1 d_M_fill_119 rfl ?_
  refine G_ialN d_M_fill_120 (ar_40 K (ma (ma M 51 v (2 : Int32)) 53 v (nI c)) o) (by decide) (by omega) ?_
  rw [show (ma (ma M 51 v (2 : Int32)) 53 v (nI c)).2 40 c = nI (cP M c) from e40]
  refine G_ifle 140 d_M_fill_121 (by decide) (fun h121 => ?_) (fun h121 => ?_)
  · have h121 := (nI_leI (b := 0) (by omega) (by omega)).mp (show nI _ ≤ nI 0 from h121)
    refine G_aload_n 2 d_M_fill_140 rfl ?_
    refine G_gt d_M_fill_141 fr_M_17 (rd_M_conParts K (ma (ma M 51 v (2 : Int32)) 53 v (nI c)) o) ?_
    refine G_iload_n 1 d_M_fill_144 rfl ?_
    refine G_ialN d_M_fill_145 (ar_40 K (ma (ma M 51 v (2 : Int32)) 53 v (nI c)) o) (by decide) (by omega) ?_
    rw [show (ma (ma M 51 v (2 : Int32)) 53 v (nI c)).2 40 c = nI (cP M c) from e40]
    refine G_iconst (v := nI 1) d_M_fill_146 (by decide) ?_
    refine G_icle 166 d_M_fill_147 (by decide) (fun h147 => ?_) (fun h147 => ?_)
    · have h147 := (nI_leI (by omega) (by omega)).mp h147
      have e : fillC M v c n = ma (ma M 51 v (2 : Int32)) 53 v (nI c) := by unfold fillC; rw [if_neg (by omega), if_neg (by omega)]
      rw [e] at k
      exact G_ret d_M_fill_166 rfl k
    · have h147 : ¬ _ := fun z => h147 ((nI_leI (by omega) (by omega)).mpr z)
      omega
  · have h121 : ¬ cP M c ≤ 0 := fun z => h121 (show nI _ ≤ nI 0 from (nI_leI (by omega) (by omega)).mpr z)
    refine G_aload_n 2 d_M_fill_124 rfl ?_
    refine G_gt d_M_fill_125 fr_M_60 (rd_M_nodeFirst K (ma (ma M 51 v (2 : Int32)) 53 v (nI c)) o) ?_
    refine G_iload_n 3 d_M_fill_128 rfl ?_
    refine G_aload_n 2 d_M_fill_129 rfl ?_
    refine G_aload_n 2 d_M_fill_130 rfl ?_
    refine G_gt d_M_fill_131 fr_M_20 (rd_M_conFirst K (ma (ma M 51 v (2 : Int32)) 53 v (nI c)) o) ?_
    refine G_iload_n 1 d_M_fill_134 rfl ?_
    refine G_ialN d_M_fill_135 (ar_41 K (ma (ma M 51 v (2 : Int32)) 53 v (nI c)) o) (by decide) (by omega) ?_
    rw [show (ma (ma M 51 v (2 : Int32)) 53 v (nI c)).2 41 c = M.2 41 c from rfl]
    refine G_cv1 (some (.int (nI n))) (hp K (nodeM (ma (ma M 51 v (2 : Int32)) 53 v (nI c)) n (M.2 41 c)) o, nc, ns) (As := [.int (M.2 41 c)]) d_M_fill_136 cv_M_125 cw_M_node (ob_M K (ma (ma M 51 v (2 : Int32)) 53 v (nI c)) o) np_M_node (Nat.le_of_ble_eq_true rfl) (Nat.le_of_ble_eq_true rfl) (fun post2 k2 => c_M_node (M.2 41 c) n (show (ma (ma M 51 v (2 : Int32)) 53 v (nI c)).1 6 = nI n from hn) (by omega) k2) rfl ?_
    refine G_iasN d_M_fill_139 (ar_54 K (nodeM (ma (ma M 51 v (2 : Int32)) 53 v (nI c)) n (M.2 41 c)) o) (by decide) (by omega) (aw_54 K (nodeM (ma (ma M 51 v (2 : Int32)) 53 v (nI c)) n (M.2 41 c)) o v (nI n)) ?_
    refine G_aload_n 2 d_M_fill_140 rfl ?_
    refine G_gt d_M_fill_141 fr_M_17 (rd_M_conParts K (ma (nodeM (ma (ma M 51 v (2 : Int32)) 53 v (nI c)) n (M.2 41 c)) 54 v (nI n)) o) ?_
    refine G_iload_n 1 d_M_fill_144 rfl ?_
    refine G_ialN d_M_fill_145 (ar_40 K (ma (nodeM (ma (ma M 51 v (2 : Int32)) 53 v (nI c)) n (M.2 41 c)) 54 v (nI n)) o) (by decide) (by omega) ?_
    rw [show (ma (nodeM (ma (ma M 51 v (2 : Int32)) 53 v (nI c)) n (M.2 41 c)) 54 v (nI n)).2 40 c = nI (cP M c) from e40]
    refine G_iconst (v := nI 1) d_M_fill_146 (by decide) ?_
    refine G_icle 166 d_M_fill_147 (by decide) (fun h147 => ?_) (fun h147 => ?_)
    · have h147 := (nI_leI (by omega) (by omega)).mp h147
      have e : fillC M v c n = ma (nodeM (ma (ma M 51 v 2) 53 v (nI c)) n (M.2 41 c)) 54 v (nI n) := by unfold fillC; rw [if_neg (by omega), if_pos (by omega)]
      rw [e] at k
      exact G_ret d_M_fill_166 rfl k
    · have h147 : ¬ _ := fun z => h147 ((nI_leI (by omega) (by omega)).mpr z)
      have e : fillC M v c n = ma (nodeM (ma (nodeM (ma (ma M 51 v 2) 53 v (nI c)) n (M.2 41 c)) 54 v (nI n)) (n + 1) (M.2 42 c)) 55 v (nI (n + 1)) := by unfold fillC; rw [if_pos (by omega)]
      rw [e] at k
      refine G_aload_n 2 d_M_fill_150 rfl ?_
      refine G_gt d_M_fill_151 fr_M_63 (rd_M_nodeSecond K (ma (nodeM (ma (ma M 51 v (2 : Int32)) 53 v (nI c)) n (M.2 41 c)) 54 v (nI n)) o) ?_
      refine G_iload_n 3 d_M_fill_154 rfl ?_
      refine G_aload_n 2 d_M_fill_155 rfl ?_
      refine G_aload_n 2 d_M_fill_156 rfl ?_
      refine G_gt d_M_fill_157 fr_M_23 (rd_M_conSecond K (ma (nodeM (ma (ma M 51 v (2 : Int32)) 53 v (nI c)) n (M.2 41 c)) 54 v (nI n)) o) ?_
      refine G_iload_n 1 d_M_fill_160 rfl ?_
      refine G_ialN d_M_fill_161 (ar_42 K (ma (nodeM (ma (ma M 51 v (2 : Int32)) 53 v (nI c)) n (M.2 41 c)) 54 v (nI n)) o) (by decide) (by omega) ?_
      rw [show (ma (nodeM (ma (ma M 51 v (2 : Int32)) 53 v (nI c)) n (M.2 41 c)) 54 v (nI n)).2 42 c = M.2 42 c from rfl]
      refine G_cv1 (some (.int (nI (n + 1)))) (hp K (nodeM (ma (nodeM (ma (ma M 51 v (2 : Int32)) 53 v (nI c)) n (M.2 41 c)) 54 v (nI n)) (n + 1) (M.2 42 c)) o, nc, ns) (As := [.int (M.2 42 c)]) d_M_fill_162 cv_M_125 cw_M_node (ob_M K (ma (nodeM (ma (ma M 51 v (2 : Int32)) 53 v (nI c)) n (M.2 41 c)) 54 v (nI n)) o) np_M_node (Nat.le_of_ble_eq_true rfl) (Nat.le_of_ble_eq_true rfl) (fun post2 k2 => c_M_node (M.2 42 c) (n + 1) (show (ma (nodeM (ma (ma M 51 v (2 : Int32)) 53 v (nI c)) n (M.2 41 c)) 54 v (nI n)).1 6 = nI (n + 1) from rfl) (by omega) k2) rfl ?_
      refine G_iasN d_M_fill_165 (ar_55 K (nodeM (ma (nodeM (ma (ma M 51 v (2 : Int32)) 53 v (nI c)) n (M.2 41 c)) 54 v (nI n)) (n + 1) (M.2 42 c)) o) (by decide) (by omega) (aw_55 K (nodeM (ma (nodeM (ma (ma M 51 v (2 : Int32)) 53 v (nI c)) n (M.2 41 c)) 54 v (nI n)) (n + 1) (M.2 42 c)) o v (nI (n + 1))) ?_
      exact G_ret d_M_fill_166 rfl k
set_option maxHeartbeats 4000000 in
set_option maxRecDepth 100000 in
theorem l_M_fillI {K : KC} {M : MC} {o : Nat → Int64} {nc ns : Nat} {d : Nat} (v t q : Nat) (x4 x2 : Int32) (hS : wfS M) (hC : wfC M) (hv : v < 270) (h52 : M.2 52 v = nI t) (ht : t < 12) (hq : q < (optL M t (mC M)).length) {post : mj_O → mj_H → Prop} (k : ∀ e, e < mC M → (optL M t e).length = q → (cS M e = t ∧ tri M e) → mj_G y_M_fill b_M_fill 5 none [] (d + 2) none 95 [(3, .int (nI e)), (4, .int x4), (0, .ref 38), (1, .int (nI v)), (2, .int x2)] [] (hp K M o, nc, ns) post) : ∀ n e : Nat, e ≤ mC M → mC M < e + n → (optL M t e).length = q → mj_G y_M_fill b_M_fill 5 none [] (d + 2) none 66 [(3, .int (nI e)), (4, .int x4), (0, .ref 38), (1, .int (nI v)), (2, .int x2)] [] (hp K M o, nc, ns) post := by
  have hS' := hS
  have hC' := hC
  obtain ⟨-, q1, q2⟩ := hS'
  obtain ⟨-, q3, q4⟩ := hC'
  intro n
  induction n with
  | zero => intro e h0 h1; omega
  | succ n ih =>
    intro e h0 h1 h2
    have he : e < mC M := by
      rcases Nat.lt_or_ge e (mC M) with z | z
      · exact z
      · rw [show e = mC M by omega] at h2; omega
    obtain ⟨⟨ec, bc1, bc2⟩, -⟩ := q4 e he
    refine G_aload_n 2 d_M_fill_66 rfl ?_
    refine G_gt d_M_fill_67 fr_M_13 (rd_M_conSort K M o) ?_
    refine G_iload_n 0 d_M_fill_70 rfl ?_
    refine G_ialN d_M_fill_71 (ar_39 K M o) (by decide) (by omega) ?_
    rw [show M.2 39 e = nI (cS M e) from ec]
    refine G_aload_n 2 d_M_fill_72 rfl ?_
    refine G_gt d_M_fill_73 fr_M_54 (rd_M_nodeSort K M o) ?_
    refine G_iload_n 3 d_M_fill_76 rfl ?_
    refine G_ialN d_M_fill_77 (ar_52 K M o) (by decide) (by omega) ?_
    rw [h52]
    refine G_icne 89 d_M_fill_78 (by decide) (fun h78 => ?_) (fun h78 => ?_)
    · refine G_iinc 0 (v := nI (e + 1)) (ls' := [(3, .int (nI (e + 1))), (4, .int x4), (0, .ref 38), (1, .int (nI v)), (2, .int x2)]) d_M_fill_89 rfl (nI_1 _) (by decide) rfl ?_
      refine G_goto 66 d_M_fill_92 (by decide) ?_
      exact ih (e + 1) (by omega) (by omega) (by rw [optL_no (fun z => h78 (by rw [z.1]))]; exact h2)
    · have h78 := (nI_eq (by omega) (by omega)).mp h78
      refine G_aload_n 2 d_M_fill_81 rfl ?_
      refine G_iload_n 0 d_M_fill_82 rfl ?_
      refine G_cvB (tri M e) (As := [.int (nI e)]) d_M_fill_83 cv_M_122 cw_M_isTried (ob_M K M o) np_M_isTried (Nat.le_of_ble_eq_true rfl) (Nat.le_of_ble_eq_true rfl) (fun post2 k1 k0 => c_M_isTried e hS hC (by omega) k1 k0) (fun u83 => ?_) (fun u83 => ?_)
      · refine G_ifne 95 d_M_fill_86 (by decide) (fun _ => ?_) (fun h => absurd h (by decide))
        exact k e (by omega) h2 ⟨h78, u83⟩
      · refine G_ifne 95 d_M_fill_86 (by decide) (fun h => absurd h (by decide)) (fun _ => ?_)
        refine G_iinc 0 (v := nI (e + 1)) (ls' := [(3, .int (nI (e + 1))), (4, .int x4), (0, .ref 38), (1, .int (nI v)), (2, .int x2)]) d_M_fill_89 rfl (nI_1 _) (by decide) rfl ?_
        refine G_goto 66 d_M_fill_92 (by decide) ?_
        exact ih (e + 1) (by omega) (by omega) (by rw [optL_no (fun z => u83 z.2)]; exact h2)
set_option maxHeartbeats 4000000 in
set_option maxRecDepth 100000 in
theorem l_M_fillO {K : KC} {M : MC} {o : Nat → Int64} {nc ns : Nat} {d : Nat} (v t j : Nat) (x2 : Int32) (hS : wfS M) (hC : wfC M) (hv : v < 270) (h52 : M.2 52 v = nI t) (ht : t < 12) (hj : j < (optL M t (mC M)).length) {post : mj_O → mj_H → Prop} (k : ∀ c x4, c < mC M → (optL M t (mC M))[j]? = some c → mj_G y_M_fill b_M_fill 5 none [] (d + 2) none 101 [(4, .int x4), (3, .int (nI c)), (0, .ref 38), (1, .int (nI v)), (2, .int x2)] [] (hp K M o, nc, ns) post) : ∀ r e : Nat, e ≤ mC M → (optL M t e).length + r = j + 1 → (r ≤ j → 1 ≤ e ∧ cS M (e - 1) = t ∧ tri M (e - 1)) → mj_G y_M_fill b_M_fill 5 none [] (d + 2) none 58 [(4, .int (nI r - 1)), (3, .int (nI e - 1)), (0, .ref 38), (1, .int (nI v)), (2, .int x2)] [] (hp K M o, nc, ns) post := by
  have hlen := optL_len M t (mC M)
  have hC3 := hC.2.1
  intro r
  induction r with
  | zero =>
    intro e h0 h1 h2
    obtain ⟨g1, g2⟩ := h2 (by omega)
    obtain ⟨c, rfl⟩ : ∃ c, e = c + 1 := ⟨e - 1, by omega⟩
    rw [Nat.add_sub_cancel] at g2
    have g3 := optL_at (m := mC M) h0 g2
    have g4 : (optL M t c).length = j := by
      rw [optL_yes g2, List.length_append] at h1
      have : (optL M t c).length + 1 + 0 = j + 1 := h1
      omega
    rw [g4] at g3
    rw [nI_pred]
    have k := k c (nI 0 - 1) (by omega) g3
    refine G_iload 0 d_M_fill_58 rfl ?_
    refine G_iflt 101 d_M_fill_60 (by decide) (fun h60 => ?_) (fun h60 => False.elim (h60 (by decide)))
    exact k
  | succ r ih =>
    intro e h0 h1 h2
    refine G_iload 0 d_M_fill_58 rfl ?_
    refine G_iflt 101 d_M_fill_60 (by decide) (fun h60 => False.elim (nI_pos (n := r) (by omega) (by rw [nI_pred] at h60; exact h60))) (fun h60 => ?_)
    refine G_iinc 1 (v := nI e) (ls' := [(3, .int (nI e)), (4, .int (nI (r + 1) - 1)), (0, .ref 38), (1, .int (nI v)), (2, .int x2)]) d_M_fill_63 rfl (by have z : nI e - 1 + 1 = nI e := Int32.sub_add_cancel _ _; exact z) (by decide) rfl ?_
    refine G_sub [0, 1, 2, 3, 4] rfl (l_M_fillI v t (optL M t e).length _ x2 hS hC hv h52 ht (by omega) (fun e2 g1 g2 g3 => ?_) (mC M + 1) e (by omega) (by omega) rfl)
    refine G_iinc 1 (v := nI r - 1) (ls' := [(4, .int (nI r - 1)), (3, .int (nI e2)), (0, .ref 38), (1, .int (nI v)), (2, .int x2)]) d_M_fill_95 rfl (fill_m1 r) (by decide) rfl ?_
    refine G_goto 58 d_M_fill_98 (by decide) ?_
    rw [← nI_pred e2]; exact ih (e2 + 1) (by omega) (by rw [optL_yes g3, List.length_append, g2]; show _ + 1 + _ = _; omega) (fun _ => ⟨by omega, by rw [Nat.add_sub_cancel]; exact g3⟩)
set_option maxHeartbeats 4000000 in
set_option maxRecDepth 100000 in
theorem c_M_fillC {K : KC} {M : MC} {o : Nat → Int64} {nc ns : Nat} {d : Nat} (v j n t : Nat) (hS : wfS M) (hC : wfC M) (hv : v < 270) (h52 : M.2 52 v = nI t) (ht : t < 12) (ht0 : t ≠ 0) (hj : j < (optL M t (mC M)).length) (hn : M.1 6 = nI n) (hb : n + 2 ≤ 270) {post : mj_O → mj_H → Prop} (k : ∀ c, c < mC M → (optL M t (mC M))[j]? = some c → post (.inl none) (hp K (fillC M v c n) o, nc, ns)) : mj_G y_M_fill b_M_fill 5 none [] (d + 2) none 0 [(0, .ref 38), (1, .int (nI v)), (2, .int (nI j))] [] (hp K M o, nc, ns) post := by
  have hlen := optL_len M t (mC M)
  have hC3 := hC.2.1
  refine G_aload_n 0 d_M_fill_0 rfl ?_
  refine G_gt d_M_fill_1 fr_M_54 (rd_M_nodeSort K M o) ?_
  refine G_iload_n 1 d_M_fill_4 rfl ?_
  refine G_ialN d_M_fill_5 (ar_52 K M o) (by decide) (by omega) ?_
  rw [h52]
  refine G_ifne 53 d_M_fill_6 (by decide) (fun h6 => ?_) (fun h6 => False.elim (ht0 ((nI_eq (by omega) (by omega)).mp (show nI t = nI 0 from h6))))
  refine G_iconst (v := (nI 0 - 1)) d_M_fill_53 (by decide) ?_
  refine G_istore_n (ls' := [(3, .int (nI 0 - 1)), (0, .ref 38), (1, .int (nI v)), (2, .int (nI j))]) d_M_fill_54 (by decide) rfl ?_
  refine G_iload_n 3 d_M_fill_55 rfl ?_
  refine G_istore (ls' := [(4, .int (nI j)), (3, .int (nI 0 - 1)), (0, .ref 38), (1, .int (nI v)), (2, .int (nI j))]) d_M_fill_56 (by decide) rfl ?_
  rw [← nI_pred j]; exact l_M_fillO v t j _ hS hC hv h52 ht hj (fun c x4 g1 g2 => l_M_fillE v c n x4 _ hC g1 hv hn hb (k c g1 g2)) (j + 1) 0 (by omega) (by show 0 + _ = _; omega) (fun z => absurd z (by omega))
