abbrev pk (M : MC) (p : Nat) : Nat := (M.2 43 p).toNatClampNeg
abbrev ps (M : MC) (p : Nat) : Nat := (M.2 44 p).toNatClampNeg
abbrev pn (M : MC) (p : Nat) : Nat := (M.2 45 p).toNatClampNeg
abbrev pf (M : MC) (p : Nat) : Nat := (M.2 46 p).toNatClampNeg
abbrev pg (M : MC) (p : Nat) : Nat := (M.2 47 p).toNatClampNeg
abbrev pd (M : MC) (p : Nat) : Nat := (M.2 48 p).toNatClampNeg
def okP (M : MC) (p : Nat) : Prop := (M.2 43 p = nI (pk M p) ∧ pk M p ≤ 2) ∧ (M.2 44 p = nI (ps M p) ∧ ps M p < mS M) ∧ (M.2 48 p = nI (pd M p) ∧ pd M p ≤ 12) ∧ (pk M p = 0 → pd M p = 0) ∧ (pk M p = 1 → ps M p = 0 ∧ pd M p = 1) ∧
  (pk M p = 2 → (M.2 45 p = nI (pn M p) ∧ pn M p < mC M ∧ ps M p = cS M (pn M p)) ∧ (1 ≤ cP M (pn M p) → M.2 46 p = nI (pf M p) ∧ pf M p < p ∧ ps M (pf M p) = cF M (pn M p)) ∧ (2 ≤ cP M (pn M p) → M.2 47 p = nI (pg M p) ∧ pg M p < p ∧ ps M (pg M p) = cG M (pn M p)) ∧
    pd M p = 1 + (if 1 ≤ cP M (pn M p) then pd M (pf M p) else 0) + (if 2 ≤ cP M (pn M p) then pd M (pg M p) else 0))
def wfP (M : MC) : Prop := M.1 3 = nI (mP M) ∧ mP M ≤ 200 ∧ ∀ p, p < mP M → okP M p
abbrev nK (M : MC) (v : Nat) : Nat := (M.2 51 v).toNatClampNeg
abbrev nS (M : MC) (v : Nat) : Nat := (M.2 52 v).toNatClampNeg
abbrev nW (M : MC) (v : Nat) : Nat := (M.2 53 v).toNatClampNeg
abbrev nF (M : MC) (v : Nat) : Nat := (M.2 54 v).toNatClampNeg
abbrev nG (M : MC) (v : Nat) : Nat := (M.2 55 v).toNatClampNeg
abbrev nN (M : MC) : Nat := (M.1 6).toNatClampNeg
def okN (M : MC) (v : Nat) : Prop := (M.2 51 v = nI (nK M v) ∧ nK M v ≤ 3) ∧ (M.2 52 v = nI (nS M v) ∧ nS M v < mS M) ∧ (nK M v = 1 → nS M v = 0) ∧ (nK M v = 3 → nS M v = 0) ∧
  (nK M v = 2 → (M.2 53 v = nI (nW M v) ∧ nW M v < mC M ∧ nS M v = cS M (nW M v)) ∧ (1 ≤ cP M (nW M v) → M.2 54 v = nI (nF M v) ∧ nF M v < nN M ∧ nS M (nF M v) = cF M (nW M v)) ∧ (2 ≤ cP M (nW M v) → M.2 55 v = nI (nG M v) ∧ nG M v < nN M ∧ nS M (nG M v) = cG M (nW M v)))
def wfN (M : MC) : Prop := M.1 6 = nI (nN M) ∧ nN M ≤ 270 ∧ ∀ v, v < nN M → okN M v
/-- what the reference's fit answers: 0 no, 1 yes, 2 a hole (and which) -/
def fitR (M : MC) : Nat → Nat → Nat → Nat × Nat
  | 0, _, _ => (0, 0)
  | f + 1, p, v => if pk M p = 0 then (1, 0) else if nK M v = 0 then (2, v) else if pk M p = 1 then (if nK M v = 1 ∧ M.2 53 v = M.2 45 p then (1, 0) else (0, 0)) else if ¬ M.2 53 v = M.2 45 p then (0, 0) else
      if cP M (pn M p) < 1 then (1, 0) else if (fitR M f (pf M p) (nF M v)).1 ≠ 1 ∨ cP M (pn M p) < 2 then fitR M f (pf M p) (nF M v) else fitR M f (pg M p) (nG M v)
theorem fitR_s (M : MC) (f p v : Nat) : fitR M (f + 1) p v = if pk M p = 0 then (1, 0) else if nK M v = 0 then (2, v) else if pk M p = 1 then (if nK M v = 1 ∧ M.2 53 v = M.2 45 p then (1, 0) else (0, 0)) else if ¬ M.2 53 v = M.2 45 p then (0, 0) else
      if cP M (pn M p) < 1 then (1, 0) else if (fitR M f (pf M p) (nF M v)).1 ≠ 1 ∨ cP M (pn M p) < 2 then fitR M f (pf M p) (nF M v) else fitR M f (pg M p) (nG M v) := rfl
theorem fitR_le (M : MC) : ∀ f p v, (fitR M f p v).1 ≤ 2 := by
  intro f
  induction f with
  | zero => intro p v; exact Nat.zero_le _
  | succ f ih =>
    intro p v
    rw [fitR_s]
    repeat' split
    all_goals first | exact ih _ _ | exact Nat.le_refl _ | exact Nat.zero_le _ | exact (by decide : 1 ≤ 2)
set_option maxHeartbeats 4000000 in
set_option maxRecDepth 100000 in
theorem c_M_fit {K : KC} {M : MC} {o : Nat → Int64} {nc ns : Nat} (hS : wfS M) (hC : wfC M) (hP : wfP M) (hN : wfN M) : ∀ (f p v d : Nat) {post : mj_O → mj_H → Prop}, p < mP M → v < nN M → nS M v = ps M p → pd M p < f → pd M p ≤ d → ((fitR M f p v).1 ≠ 2 → post (.inl (some (.int (nI (fitR M f p v).1)))) (hp K M o, nc, ns)) → ((fitR M f p v).1 = 2 → post (.inl (some (.int (nI 2)))) (hp K (mi M 8 (nI (fitR M f p v).2)) o, nc, ns)) → mj_G y_M_fit b_M_fit 5 (some .int) [] d none 0 [(0, .ref 38), (1, .int (nI p)), (2, .int (nI v))] [] (hp K M o, nc, ns) post := by
  have hS' := hS
  have hC' := hC
  have hP' := hP
  have hN' := hN
  obtain ⟨e1S, q1, q2⟩ := hS'
  obtain ⟨e2, q3, q4⟩ := hC'
  obtain ⟨-, p1, p2⟩ := hP'
  obtain ⟨-, n1, n2⟩ := hN'
  intro f
  induction f with
  | zero => intro p v d post h1 h2 h3 h4; omega
  | succ f ih =>
    intro p v d post hpp hv hsv hf hd k1 k2
    obtain ⟨⟨e43, b43⟩, ⟨e44, b44⟩, ⟨e48, b48⟩, wP4, wP5, wP6⟩ := p2 p hpp
    obtain ⟨⟨e51, b51⟩, ⟨e52, b52⟩, wN3, wN4, wN5⟩ := n2 v hv
    refine G_aload_n 0 d_M_fit_0 rfl ?_
    refine G_gt d_M_fit_1 fr_M_26 (rd_M_kind K M o) ?_
    refine G_iload_n 1 d_M_fit_4 rfl ?_
    refine G_ialN d_M_fit_5 (ar_43 K M o) (by decide) (by omega) ?_
    rw [e43]
    refine G_ifne 11 d_M_fit_6 (by decide) (fun h6 => ?_) (fun h6 => ?_)
    · have e0 : ¬ pk M p = 0 := fun z => h6 (by rw [z]; rfl)
      refine G_aload_n 0 d_M_fit_11 rfl ?_
      refine G_gt d_M_fit_12 fr_M_51 (rd_M_nodeKind K M o) ?_
      refine G_iload_n 2 d_M_fit_15 rfl ?_
      refine G_ialN d_M_fit_16 (ar_51 K M o) (by decide) (by omega) ?_
      rw [e51]
      refine G_ifne 27 d_M_fit_17 (by decide) (fun h17 => ?_) (fun h17 => ?_)
      · have e1 : ¬ nK M v = 0 := fun z => h17 (by rw [z]; rfl)
        refine G_aload_n 0 d_M_fit_27 rfl ?_
        refine G_gt d_M_fit_28 fr_M_26 (rd_M_kind K M o) ?_
        refine G_iload_n 1 d_M_fit_31 rfl ?_
        refine G_ialN d_M_fit_32 (ar_43 K M o) (by decide) (by omega) ?_
        rw [e43]
        refine G_iconst (v := nI 1) d_M_fit_33 (by decide) ?_
        refine G_icne 68 d_M_fit_34 (by decide) (fun h34 => ?_) (fun h34 => ?_)
        · have e2 : ¬ pk M p = 1 := fun z => h34 (by rw [z])
          have hk2 : pk M p = 2 := by omega
          obtain ⟨⟨e45, b45, s45⟩, mF, mG, dd⟩ := wP6 hk2
          obtain ⟨-, ⟨e40, b40⟩, -⟩ := q4 (pn M p) b45
          have hcs := (q4 (pn M p) b45).1.2.1
          have hn2 : nK M v = 2 := by
            rcases (show nK M v = 1 ∨ nK M v = 2 ∨ nK M v = 3 by omega) with z | z | z
            · have := wN3 z; omega
            · exact z
            · have := wN4 z; omega
          obtain ⟨⟨e53, b53, s53⟩, wF, wG⟩ := wN5 hn2
          obtain ⟨d, rfl⟩ : ∃ d2, d = d2 + 1 := ⟨d - 1, by omega⟩
          refine G_aload_n 0 d_M_fit_68 rfl ?_
          refine G_gt d_M_fit_69 fr_M_57 (rd_M_nodeWhat K M o) ?_
          refine G_iload_n 2 d_M_fit_72 rfl ?_
          refine G_ialN d_M_fit_73 (ar_53 K M o) (by decide) (by omega) ?_
          refine G_aload_n 0 d_M_fit_74 rfl ?_
          refine G_gt d_M_fit_75 fr_M_32 (rd_M_what K M o) ?_
          refine G_iload_n 1 d_M_fit_78 rfl ?_
          refine G_ialN d_M_fit_79 (ar_45 K M o) (by decide) (by omega) ?_
          refine G_iceq 85 d_M_fit_80 (by decide) (fun h80 => ?_) (fun h80 => ?_)
          · have e3 : M.2 53 v = M.2 45 p := h80
            have e33 : pn M p = nW M v := by show (M.2 45 p).toNatClampNeg = (M.2 53 v).toNatClampNeg; rw [e3]
            refine G_aload_n 0 d_M_fit_85 rfl ?_
            refine G_gt d_M_fit_86 fr_M_17 (rd_M_conParts K M o) ?_
            refine G_aload_n 0 d_M_fit_89 rfl ?_
            refine G_gt d_M_fit_90 fr_M_32 (rd_M_what K M o) ?_
            refine G_iload_n 1 d_M_fit_93 rfl ?_
            refine G_ialN d_M_fit_94 (ar_45 K M o) (by decide) (by omega) ?_
            rw [e45]
            refine G_ialN d_M_fit_95 (ar_40 K M o) (by decide) (by omega) ?_
            rw [e40]
            refine G_istore_n (ls' := [(3, .int (nI (cP M (pn M p)))), (0, .ref 38), (1, .int (nI p)), (2, .int (nI v))]) d_M_fit_96 (by decide) rfl ?_
            refine G_iload_n 0 d_M_fit_97 rfl ?_
            refine G_iconst (v := nI 1) d_M_fit_98 (by decide) ?_
            refine G_icge 106 d_M_fit_99 (by decide) (fun h99 => ?_) (fun h99 => ?_)
            · have h99 := (nI_leI (by omega) (by omega)).mp h99
              have e4 : ¬ cP M (pn M p) < 1 := by omega
              obtain ⟨f1, f2, f3⟩ := mF (by omega)
              obtain ⟨f4, f5, f6⟩ := wF (by rw [← e33]; omega)
              rw [if_pos (show 1 ≤ cP M (pn M p) by omega)] at dd
              rw [← e33] at f6
              refine G_aload_n 1 d_M_fit_106 rfl ?_
              refine G_aload_n 1 d_M_fit_107 rfl ?_
              refine G_gt d_M_fit_108 fr_M_35 (rd_M_first K M o) ?_
              refine G_iload_n 2 d_M_fit_111 rfl ?_
              refine G_ialN d_M_fit_112 (ar_46 K M o) (by decide) (by omega) ?_
              rw [f1]
              refine G_aload_n 1 d_M_fit_113 rfl ?_
              refine G_gt d_M_fit_114 fr_M_60 (rd_M_nodeFirst K M o) ?_
              refine G_iload_n 3 d_M_fit_117 rfl ?_
              refine G_ialN d_M_fit_118 (ar_54 K M o) (by decide) (by omega) ?_
              rw [f4]
              refine G_cvp (fun a9 A9 => ((fitR M f (pf M p) (nF M v)).1 ≠ 2 ∧ a9 = some (.int (nI (fitR M f (pf M p) (nF M v)).1)) ∧ A9 = (hp K M o, nc, ns)) ∨ ((fitR M f (pf M p) (nF M v)).1 = 2 ∧ a9 = some (.int (nI 2)) ∧ A9 = (hp K (mi M 8 (nI (fitR M f (pf M p) (nF M v)).2)) o, nc, ns))) (As := [.int (nI (pf M p)), .int (nI (nF M v))]) d_M_fit_119 cv_M_132 cw_M_fit (ob_M K M o) np_M_fit (Nat.le_of_ble_eq_true rfl) (Nat.le_of_ble_eq_true rfl) (fun post2 kk => ih (pf M p) (nF M v) d (by omega) (by omega) (by omega) (by omega) (by omega) (fun z => kk _ _ (Or.inl ⟨z, rfl, rfl⟩)) (fun z => kk _ _ (Or.inr ⟨z, rfl, rfl⟩))) (fun a9 A9 h9 => by rcases h9 with ⟨-, -, rfl⟩ | ⟨-, -, rfl⟩ <;> rfl) (fun a9 A9 h9 => ?_)
              have hle119 := fitR_le M f (pf M p) (nF M v)
              rcases h9 with ⟨z119, rfl, rfl⟩ | ⟨z119, rfl, rfl⟩
              · refine G_istore (ls' := [(4, .int (nI (fitR M f (pf M p) (nF M v)).1)), (3, .int (nI (cP M (pn M p)))), (0, .ref 38), (1, .int (nI p)), (2, .int (nI v))]) d_M_fit_122 (by decide) rfl ?_
                refine G_iload 0 d_M_fit_124 rfl ?_
                refine G_iconst (v := nI 1) d_M_fit_126 (by decide) ?_
                refine G_icne 135 d_M_fit_127 (by decide) (fun h127 => ?_) (fun h127 => ?_)
                · have h127 : (fitR M f (pf M p) (nF M v)).1 ≠ 1 := fun z => h127 (by rw [z])
                  have er : fitR M (f + 1) p v = (fitR M f (pf M p) (nF M v)) := by rw [fitR_s, if_neg e0, if_neg e1, if_neg e2, if_neg (fun z => z e3), if_neg e4, if_pos (Or.inl h127)]
                  rw [er] at k1
                  refine G_iload 0 d_M_fit_135 rfl ?_
                  refine G_goto 156 d_M_fit_137 (by decide) ?_
                  exact G_iret d_M_fit_156 rfl (k1 z119)
                · have h127 : (fitR M f (pf M p) (nF M v)).1 = 1 := (nI_eq (by omega) (by omega)).mp h127
                  refine G_iload_n 1 d_M_fit_130 rfl ?_
                  refine G_iconst (v := nI 2) d_M_fit_131 (by decide) ?_
                  refine G_icge 140 d_M_fit_132 (by decide) (fun h132 => ?_) (fun h132 => ?_)
                  · have h132 := (nI_leI (by omega) (by omega)).mp h132
                    obtain ⟨g1, g2, g3⟩ := mG (by omega)
                    obtain ⟨g4, g5, g6⟩ := wG (by rw [← e33]; omega)
                    rw [if_pos (show 2 ≤ cP M (pn M p) by omega)] at dd
                    rw [← e33] at g6
                    refine G_aload_n 2 d_M_fit_140 rfl ?_
                    refine G_aload_n 2 d_M_fit_141 rfl ?_
                    refine G_gt d_M_fit_142 fr_M_38 (rd_M_second K M o) ?_
                    refine G_iload_n 3 d_M_fit_145 rfl ?_
                    refine G_ialN d_M_fit_146 (ar_47 K M o) (by decide) (by omega) ?_
                    rw [g1]
                    refine G_aload_n 2 d_M_fit_147 rfl ?_
                    refine G_gt d_M_fit_148 fr_M_63 (rd_M_nodeSecond K M o) ?_
                    refine G_iload_n 4 d_M_fit_151 rfl ?_
                    refine G_ialN d_M_fit_152 (ar_55 K M o) (by decide) (by omega) ?_
                    rw [g4]
                    refine G_cvp (fun a9 A9 => ((fitR M f (pg M p) (nG M v)).1 ≠ 2 ∧ a9 = some (.int (nI (fitR M f (pg M p) (nG M v)).1)) ∧ A9 = (hp K M o, nc, ns)) ∨ ((fitR M f (pg M p) (nG M v)).1 = 2 ∧ a9 = some (.int (nI 2)) ∧ A9 = (hp K (mi M 8 (nI (fitR M f (pg M p) (nG M v)).2)) o, nc, ns))) (As := [.int (nI (pg M p)), .int (nI (nG M v))]) d_M_fit_153 cv_M_132 cw_M_fit (ob_M K M o) np_M_fit (Nat.le_of_ble_eq_true rfl) (Nat.le_of_ble_eq_true rfl) (fun post2 kk => ih (pg M p) (nG M v) d (by omega) (by omega) (by omega) (by omega) (by omega) (fun z => kk _ _ (Or.inl ⟨z, rfl, rfl⟩)) (fun z => kk _ _ (Or.inr ⟨z, rfl, rfl⟩))) (fun a9 A9 h9 => by rcases h9 with ⟨-, -, rfl⟩ | ⟨-, -, rfl⟩ <;> rfl) (fun a9 A9 h9 => ?_)
                    have hle153 := fitR_le M f (pg M p) (nG M v)
                    rcases h9 with ⟨z153, rfl, rfl⟩ | ⟨z153, rfl, rfl⟩
                    · exact G_iret d_M_fit_156 rfl (by rw [show fitR M (f + 1) p v = (fitR M f (pg M p) (nG M v)) from by rw [fitR_s, if_neg e0, if_neg e1, if_neg e2, if_neg (fun z => z e3), if_neg e4, if_neg (fun z => z.elim (fun z => z h127) (fun z => by omega))]] at k1; exact k1 z153)
                    · exact G_iret d_M_fit_156 rfl (by rw [show fitR M (f + 1) p v = (fitR M f (pg M p) (nG M v)) from by rw [fitR_s, if_neg e0, if_neg e1, if_neg e2, if_neg (fun z => z e3), if_neg e4, if_neg (fun z => z.elim (fun z => z h127) (fun z => by omega))]] at k2; exact k2 z153)
                  · have h132 : ¬ _ := fun z => h132 ((nI_leI (by omega) (by omega)).mpr z)
                    have er : fitR M (f + 1) p v = (fitR M f (pf M p) (nF M v)) := by rw [fitR_s, if_neg e0, if_neg e1, if_neg e2, if_neg (fun z => z e3), if_neg e4, if_pos (Or.inr (by omega))]
                    rw [er] at k1
                    refine G_iload 0 d_M_fit_135 rfl ?_
                    refine G_goto 156 d_M_fit_137 (by decide) ?_
                    exact G_iret d_M_fit_156 rfl (k1 z119)
              · refine G_istore (ls' := [(4, .int (nI 2)), (3, .int (nI (cP M (pn M p)))), (0, .ref 38), (1, .int (nI p)), (2, .int (nI v))]) d_M_fit_122 (by decide) rfl ?_
                refine G_iload 0 d_M_fit_124 rfl ?_
                refine G_iconst (v := nI 1) d_M_fit_126 (by decide) ?_
                refine G_icne 135 d_M_fit_127 (by decide) (fun h127 => ?_) (fun h127 => ?_)
                · have er : fitR M (f + 1) p v = (fitR M f (pf M p) (nF M v)) := by rw [fitR_s, if_neg e0, if_neg e1, if_neg e2, if_neg (fun z => z e3), if_neg e4, if_pos (Or.inl (by rw [z119]; decide))]
                  rw [er] at k2
                  refine G_iload 0 d_M_fit_135 rfl ?_
                  refine G_goto 156 d_M_fit_137 (by decide) ?_
                  exact G_iret d_M_fit_156 rfl (k2 z119)
                · exact absurd h127 (by decide)
            · have h99 : ¬ _ := fun z => h99 ((nI_leI (by omega) (by omega)).mpr z)
              have e4 : cP M (pn M p) < 1 := by omega
              have er : fitR M (f + 1) p v = (1, 0) := by rw [fitR_s, if_neg e0, if_neg e1, if_neg e2, if_neg (fun z => z e3), if_pos e4]
              rw [er] at k1
              refine G_iconst (v := nI 1) d_M_fit_102 (by decide) ?_
              refine G_goto 122 d_M_fit_103 (by decide) ?_
              refine G_istore (ls' := [(4, .int (nI 1)), (3, .int (nI (cP M (pn M p)))), (0, .ref 38), (1, .int (nI p)), (2, .int (nI v))]) d_M_fit_122 (by decide) rfl ?_
              refine G_iload 0 d_M_fit_124 rfl ?_
              refine G_iconst (v := nI 1) d_M_fit_126 (by decide) ?_
              refine G_icne 135 d_M_fit_127 (by decide) (fun h127 => ?_) (fun h127 => ?_)
              · exact absurd rfl h127
              · refine G_iload_n 1 d_M_fit_130 rfl ?_
                refine G_iconst (v := nI 2) d_M_fit_131 (by decide) ?_
                refine G_icge 140 d_M_fit_132 (by decide) (fun h132 => ?_) (fun h132 => ?_)
                · have h132 := (nI_leI (by omega) (by omega)).mp h132
                  exact absurd h132 (by omega)
                · refine G_iload 0 d_M_fit_135 rfl ?_
                  refine G_goto 156 d_M_fit_137 (by decide) ?_
                  exact G_iret d_M_fit_156 rfl (k1 (by decide))
          · have er : fitR M (f + 1) p v = (0, 0) := by rw [fitR_s, if_neg e0, if_neg e1, if_neg e2, if_pos h80]
            rw [er] at k1
            refine G_iconst (v := nI 0) d_M_fit_83 (by decide) ?_
            exact G_iret d_M_fit_84 rfl (k1 (by decide))
        · have e2 : pk M p = 1 := (nI_eq (by omega) (by omega)).mp h34
          refine G_aload_n 0 d_M_fit_37 rfl ?_
          refine G_gt d_M_fit_38 fr_M_51 (rd_M_nodeKind K M o) ?_
          refine G_iload_n 2 d_M_fit_41 rfl ?_
          refine G_ialN d_M_fit_42 (ar_51 K M o) (by decide) (by omega) ?_
          rw [e51]
          refine G_iconst (v := nI 1) d_M_fit_43 (by decide) ?_
          refine G_icne 66 d_M_fit_44 (by decide) (fun h44 => ?_) (fun h44 => ?_)
          · have er : fitR M (f + 1) p v = (0, 0) := by rw [fitR_s, if_neg e0, if_neg e1, if_pos e2, if_neg (fun z => h44 (by rw [z.1]))]
            rw [er] at k1
            refine G_iconst (v := nI 0) d_M_fit_66 (by decide) ?_
            exact G_iret d_M_fit_67 rfl (k1 (by decide))
          · have h44 : nK M v = 1 := (nI_eq (by omega) (by omega)).mp h44
            refine G_aload_n 0 d_M_fit_47 rfl ?_
            refine G_gt d_M_fit_48 fr_M_57 (rd_M_nodeWhat K M o) ?_
            refine G_iload_n 2 d_M_fit_51 rfl ?_
            refine G_ialN d_M_fit_52 (ar_53 K M o) (by decide) (by omega) ?_
            refine G_aload_n 0 d_M_fit_53 rfl ?_
            refine G_gt d_M_fit_54 fr_M_32 (rd_M_what K M o) ?_
            refine G_iload_n 1 d_M_fit_57 rfl ?_
            refine G_ialN d_M_fit_58 (ar_45 K M o) (by decide) (by omega) ?_
            refine G_icne 66 d_M_fit_59 (by decide) (fun h59 => ?_) (fun h59 => ?_)
            · have er : fitR M (f + 1) p v = (0, 0) := by rw [fitR_s, if_neg e0, if_neg e1, if_pos e2, if_neg (fun z => h59 z.2)]
              rw [er] at k1
              refine G_iconst (v := nI 0) d_M_fit_66 (by decide) ?_
              exact G_iret d_M_fit_67 rfl (k1 (by decide))
            · have er : fitR M (f + 1) p v = (1, 0) := by rw [fitR_s, if_neg e0, if_neg e1, if_pos e2, if_pos ⟨h44, h59⟩]
              rw [er] at k1
              refine G_iconst (v := nI 1) d_M_fit_62 (by decide) ?_
              refine G_goto 67 d_M_fit_63 (by decide) ?_
              exact G_iret d_M_fit_67 rfl (k1 (by decide))
      · have er : fitR M (f + 1) p v = (2, v) := by rw [fitR_s, if_neg e0, if_pos (show nK M v = 0 from (nI_eq (by omega) (by omega)).mp (show nI (nK M v) = nI 0 from h17))]
        rw [er] at k2
        refine G_aload_n 0 d_M_fit_20 rfl ?_
        refine G_iload_n 2 d_M_fit_21 rfl ?_
        refine G_pt d_M_fit_22 fp_M_129 (wr_M_hole K M o (nI v)) ?_
        refine G_iconst (v := nI 2) d_M_fit_25 (by decide) ?_
        exact G_iret d_M_fit_26 rfl (k2 rfl)
    · have er : fitR M (f + 1) p v = (1, 0) := by rw [fitR_s, if_pos (show pk M p = 0 from (nI_eq (by omega) (by omega)).mp (show nI (pk M p) = nI 0 from h6))]
      rw [er] at k1
      refine G_iconst (v := nI 1) d_M_fit_9 (by decide) ?_
      exact G_iret d_M_fit_10 rfl (k1 (by decide))
