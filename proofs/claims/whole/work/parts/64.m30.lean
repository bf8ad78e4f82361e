/-! the law's cases that answer yes or no, and count -/
theorem sP_cs {M : MC} {cs kk p : Nat} {x : Int32} (hI : IM M cs kk) (hp1 : p < mP M) (hx : x = nI p) (hps : ps M p = cs) : sP M x (M.1 5) := by
  subst hx
  have q200 := hI.2.2.1.2.1
  refine ⟨iP_nI hI.2.2.1 hp1, ?_⟩
  rw [nI_clamp (by omega), hI.2.2.2.2.2.1, ← hps]
  exact (hI.2.2.1.2.2 p hp1).2.1.1
theorem aL_pq {M : MC} {cs kk p q : Nat} {x1 x2 : Int32} (hI : IM M cs kk) (hp1 : p < mP M) (hq1 : q < mP M) (h1 : x1 = nI p) (h2 : x2 = nI q) (h : ps M p = ps M q) : aL M x1 x2 := by
  subst h1 h2
  have q200 := hI.2.2.1.2.1
  refine ⟨iP_nI hI.2.2.1 hp1, iP_nI hI.2.2.1 hq1, ?_⟩
  rw [nI_clamp (by omega), nI_clamp (by omega), (hI.2.2.1.2.2 p hp1).2.1.1, (hI.2.2.1.2.2 q hq1).2.1.1, h]
theorem m0_IM {M : MC} {cs kk : Nat} {v : Int32} (hI : IM M cs kk) : IM (mi M 0 v) cs kk := cz_IM (cz_m0 M v) hI
theorem m0_RK {K : KC} {M : MC} {cs kk : Nat} {v : Int32} (hI : IM M cs kk) (hK : RK K M cs kk) : RK K (mi M 0 v) cs kk := cz_RK (cz_m0 M v) hI hK
theorem N_IM {N M : MC} {cs kk : Nat} (hN : coR N = coR (mi M 0 0)) (hI : IM M cs kk) : IM N cs kk := cz_IM ((cz_coR hN).trans (cz_m0 M 0)) hI
theorem N_RK {K : KC} {N M : MC} {cs kk : Nat} (hN : coR N = coR (mi M 0 0)) (hI : IM M cs kk) (hK : RK K M cs kk) : RK K N cs kk := cz_RK ((cz_coR hN).trans (cz_m0 M 0)) hI hK
theorem RK_m0 {K : KC} {M : MC} {cs kk : Nat} {v : Int32} (hI : IM M cs kk) (hK : RK K (mi M 0 v) cs kk) : RK K M cs kk := cz_RK (cz_m0 M v).symm (m0_IM hI) hK
set_option maxHeartbeats 1000000 in
set_option maxRecDepth 100000 in
theorem w_clause {K : KC} {M : MC} {o : Nat → Int64} {nc ns : Nat} {d L i cs kk : Nat} {xs : Nat → Int32} {post : mj_O → mj_H → Prop} (hI : IM M cs kk) (hK : RK K M cs kk) (hr1 : nc + 1 ≤ 601024) (hr2 : ns + 6 ≤ 7293034) (hi : i + 5 ≤ L) (hL : L ≤ 2560) (k : ∀ (K' : KC) (M' : MC) (o' : Nat → Int64) (nc' ns' cs' kk' : Nat), nc' ≤ nc + 1 → ns' ≤ ns + 6 → IM M' cs' kk' → RK K' M' cs' kk' → mj_G y_L_law b_L_law 7 (some .boolean) [] (d + 100) (some (L, xs)) 845 [(4, .int (nI i)), (0, .ref 1000000), (1, .ref 0), (2, .ref 38), (3, .ref 63)] [] (hp K' M' o', nc', ns') post) : mj_G y_L_law b_L_law 7 (some .boolean) [] (d + 100) (some (L, xs)) 468 [(4, .int (nI i)), (0, .ref 1000000), (1, .ref 0), (2, .ref 38), (3, .ref 63)] [] (hp K M o, nc, ns) post := by
  obtain ⟨x1, e1⟩ : ∃ z, xs (i + 1) = z := ⟨_, rfl⟩
  have q200 := hI.2.2.1.2.1
  refine G_aload_n 2 d_L_law_468 rfl ?_
  refine G_aload_n 1 d_L_law_469 rfl ?_
  refine G_iload 0 d_L_law_470 rfl ?_
  refine G_iconst (v := nI 1) d_L_law_472 (by decide) ?_
  refine G_iadd d_L_law_473 ?_
  rw [nI_add]
  refine G_sldN d_L_law_474 (by omega) (by omega) ?_
  rw [e1]
  refine G_aload_n 4 d_L_law_475 rfl ?_
  refine G_csp (fun a9 A9 => (∃ (v : Int32) (KK : KC), a9 = some (.int 0) ∧ A9 = (hp KK M (vp_updL o 0 v.toInt64), nc, ns) ∧ (∃ p, p < mP M ∧ x1 = nI p ∧ ps M p = cs ∧ kk < 8 ∧ sWP M (cl M) kk + pd M p ≤ 40 ∧ RK KK (clM M kk p) cs (kk + 1) ∧ ((v = 1 ∧ REACH (clM M kk p) cs kk) ∨ (v = 0 ∧ ¬ REACH (clM M kk p) cs kk)))) ∨ (a9 = some (.int 1) ∧ A9 = (hp K M o, nc + 1, ns + 6) ∧ (¬ sP M x1 (nI cs))) ∨ (a9 = some (.int 2) ∧ A9 = (hp K M o, nc + 1, ns + 6) ∧ (∃ p, p < mP M ∧ x1 = nI p ∧ ps M p = cs ∧ (kk = 8 ∨ ¬ sWP M (cl M) kk + pd M p ≤ 40)))) (As := [.ref 0, .int x1, .ref 63]) d_L_law_476 cs_L_85 cw_L_clause np_L_clause (Nat.le_of_ble_eq_true rfl) (Nat.le_of_ble_eq_true rfl) (fun post2 kq => c_L_clause (d := d + 98) x1 (fun v KK => ∃ p, p < mP M ∧ x1 = nI p ∧ ps M p = cs ∧ kk < 8 ∧ sWP M (cl M) kk + pd M p ≤ 40 ∧ RK KK (clM M kk p) cs (kk + 1) ∧ ((v = 1 ∧ REACH (clM M kk p) cs kk) ∨ (v = 0 ∧ ¬ REACH (clM M kk p) cs kk))) (fun C => (C = 0 ∧ (¬ sP M x1 (nI cs))) ∨ (C = 1 ∧ (∃ p, p < mP M ∧ x1 = nI p ∧ ps M p = cs ∧ (kk = 8 ∨ ¬ sWP M (cl M) kk + pd M p ≤ 40)))) (fun post3 k1 k2 => c_C_clause (d := d + 52) x1 hI hK hr1 hr2 (fun q => k2 0 (Or.inl ⟨rfl, q⟩)) (fun p a1 a2 a3 a4 => k2 1 (Or.inr ⟨rfl, p, a1, a2, a3, a4⟩)) (fun p a1 a2 a3 a4 a5 KK a6 a7 => k1 1 KK ⟨p, a1, a2, a3, a4, a5, a6, Or.inl ⟨rfl, a7⟩⟩) (fun p a1 a2 a3 a4 a5 KK a6 a7 => k1 0 KK ⟨p, a1, a2, a3, a4, a5, a6, Or.inr ⟨rfl, a7⟩⟩)) (fun C h => h.imp (fun z => z.1) (fun z => z.1)) (fun v KK h => by obtain ⟨p, -, -, -, -, -, -, h⟩ := h; exact h.elim (fun z => Or.inl z.1) (fun z => Or.inr z.1)) (fun v KK h => kq _ _ (Or.inl ⟨v, KK, rfl, rfl, h⟩)) (fun h => kq _ _ (Or.inr (Or.inl ⟨rfl, rfl, (h.elim (fun z => z.2) (fun z => absurd z.1 (by decide)))⟩))) (fun h => kq _ _ (Or.inr (Or.inr (⟨rfl, rfl, (h.elim (fun z => absurd z.1 (by decide)) (fun z => z.2))⟩))))) (fun a9 A9 h9 => by rcases h9 with ⟨v, KK, -, rfl, -⟩ | ⟨-, rfl, -⟩ | ⟨-, rfl, -⟩ <;> rfl) (fun a9 A9 h9 => ?_)
  rcases h9 with ⟨v, KK, rfl, rfl, h9⟩ | ⟨rfl, rfl, h9⟩ | ⟨rfl, rfl, h9⟩
  · obtain ⟨p, hp1, hx, hps, h8, hw, hRK, ⟨rfl, hq⟩ | ⟨rfl, hq⟩⟩ := h9
    · refine G_istore (ls' := [(5, .int 0), (4, .int (nI i)), (0, .ref 1000000), (1, .ref 0), (2, .ref 38), (3, .ref 63)]) d_L_law_479 (by decide) rfl ?_
      refine G_aload_n 4 d_L_law_481 rfl ?_
      refine G_aload_n 2 d_L_law_482 rfl ?_
      refine G_iload 1 d_L_law_483 rfl ?_
      refine G_iconst (v := nI 1) d_L_law_485 (by decide) ?_
      refine G_iadd d_L_law_486 ?_
      rw [nI_add]
      refine G_sldN d_L_law_487 (by omega) (by omega) ?_
      rw [e1]
      refine G_cvp (fun a9 A9 => ∃ N' : MC, a9 = some (.int (1)) ∧ A9 = (hp KK N' (vp_updL o 0 (1 : Int32).toInt64), nc, ns) ∧ (coR N' = coR (clM M kk p))) (As := [.int x1]) d_L_law_488 cv_L_87 cw_M_clause (ob_M KK M (vp_updL o 0 (1 : Int32).toInt64)) np_M_clause (Nat.le_of_ble_eq_true rfl) (Nat.le_of_ble_eq_true rfl) (fun post2 kq => c_M_clause (d := d + 83) x1 hI.1 hI.2.1 hI.2.2.1 hI.2.2.2 (fun q => absurd (sP_cs hI hp1 hx hps) q) (fun p2 a1 a2 a3 q => by obtain rfl : p2 = p := (nI_eq (by omega) (by omega)).mp (a2.symm.trans hx); exact absurd q (fun z => z.elim (fun z => by omega) (fun z => z (by rw [sW_eq]; omega)))) (fun p2 a1 a2 a3 a4 a5 N' hc hR => by obtain rfl : p2 = p := (nI_eq (by omega) (by omega)).mp (a2.symm.trans hx); exact kq _ _ ⟨N', rfl, rfl, hc⟩) (fun p2 a1 a2 a3 a4 a5 N' hc hR => by obtain rfl : p2 = p := (nI_eq (by omega) (by omega)).mp (a2.symm.trans hx); exact absurd hq hR)) (fun a9 A9 h9 => by obtain ⟨N9, -, rfl, -⟩ := h9; rfl) (fun a9 A9 h9 => ?_)
      obtain ⟨N', rfl, rfl, hN⟩ := h9
      refine G_istore (ls' := [(6, .int 1), (5, .int 0), (4, .int (nI i)), (0, .ref 1000000), (1, .ref 0), (2, .ref 38), (3, .ref 63)]) d_L_law_491 (by decide) rfl ?_
      refine G_aload_n 5 d_L_law_493 rfl ?_
      refine G_cv1 (some (.int 0)) (hp KK (N') (vp_updL o 0 (1 : Int32).toInt64), nc, ns) (As := []) d_L_law_494 cv_L_63 cw_M_thrown (ob_M KK (N') (vp_updL o 0 (1 : Int32).toInt64)) np_M_thrown (Nat.le_of_ble_eq_true rfl) (Nat.le_of_ble_eq_true rfl) (fun post2 kq => c_M_thrown (by rw [show N'.1 0 = 0 from cR_of (fun Q => Q.1 0) (fun _ => rfl) hN]; exact kq)) rfl ?_
      refine G_iload 1 d_L_law_497 rfl ?_
      refine G_iceq 504 d_L_law_499 (by decide) (fun _ => ?_) (fun h => absurd h (by decide))
      refine G_iload 1 d_L_law_504 rfl ?_
      refine G_ifne 528 d_L_law_506 (by decide) (fun h => absurd h (by decide)) (fun _ => ?_)
      refine G_aload_n 6 d_L_law_509 rfl ?_
      refine G_iconst (v := nI 0) d_L_law_510 (by decide) ?_
      refine G_lalN d_L_law_511 (ar_63 KK (N') (vp_updL o 0 (1 : Int32).toInt64)) (by decide) (by omega) ?_
      rw [pk_uLs]
      refine G_iload 0 d_L_law_512 rfl ?_
      refine G_ifeq 521 d_L_law_514 (by decide) (fun h => absurd h (by decide)) (fun _ => ?_)
      refine G_lconst (v := 1) d_L_law_517 (by decide) ?_
      refine G_goto 522 d_L_law_518 (by decide) ?_
      refine G_lcmp d_L_law_522 ?_
      refine G_ifeq 528 d_L_law_523 (by decide) (fun h523 => ?_) (fun h523 => False.elim (h523 (by decide)))
      refine G_goto 845 d_L_law_528 (by decide) ?_
      exact G_sub [2, 3, 4, 5, 6] rfl (k _ _ _ _ _ _ _ (by omega) (by omega) (cz_IM (cz_coR hN) (cl_IM hI h8 hp1 hps)) (cz_RK (cz_coR hN) (cl_IM hI h8 hp1 hps) hRK))
    · refine G_istore (ls' := [(5, .int 0), (4, .int (nI i)), (0, .ref 1000000), (1, .ref 0), (2, .ref 38), (3, .ref 63)]) d_L_law_479 (by decide) rfl ?_
      refine G_aload_n 4 d_L_law_481 rfl ?_
      refine G_aload_n 2 d_L_law_482 rfl ?_
      refine G_iload 1 d_L_law_483 rfl ?_
      refine G_iconst (v := nI 1) d_L_law_485 (by decide) ?_
      refine G_iadd d_L_law_486 ?_
      rw [nI_add]
      refine G_sldN d_L_law_487 (by omega) (by omega) ?_
      rw [e1]
      refine G_cvp (fun a9 A9 => ∃ N' : MC, a9 = some (.int (0)) ∧ A9 = (hp KK N' (vp_updL o 0 (0 : Int32).toInt64), nc, ns) ∧ (coR N' = coR (clM M kk p))) (As := [.int x1]) d_L_law_488 cv_L_87 cw_M_clause (ob_M KK M (vp_updL o 0 (0 : Int32).toInt64)) np_M_clause (Nat.le_of_ble_eq_true rfl) (Nat.le_of_ble_eq_true rfl) (fun post2 kq => c_M_clause (d := d + 83) x1 hI.1 hI.2.1 hI.2.2.1 hI.2.2.2 (fun q => absurd (sP_cs hI hp1 hx hps) q) (fun p2 a1 a2 a3 q => by obtain rfl : p2 = p := (nI_eq (by omega) (by omega)).mp (a2.symm.trans hx); exact absurd q (fun z => z.elim (fun z => by omega) (fun z => z (by rw [sW_eq]; omega)))) (fun p2 a1 a2 a3 a4 a5 N' hc hR => by obtain rfl : p2 = p := (nI_eq (by omega) (by omega)).mp (a2.symm.trans hx); exact absurd hR hq) (fun p2 a1 a2 a3 a4 a5 N' hc hR => by obtain rfl : p2 = p := (nI_eq (by omega) (by omega)).mp (a2.symm.trans hx); exact kq _ _ ⟨N', rfl, rfl, hc⟩)) (fun a9 A9 h9 => by obtain ⟨N9, -, rfl, -⟩ := h9; rfl) (fun a9 A9 h9 => ?_)
      obtain ⟨N', rfl, rfl, hN⟩ := h9
      refine G_istore (ls' := [(6, .int 0), (5, .int 0), (4, .int (nI i)), (0, .ref 1000000), (1, .ref 0), (2, .ref 38), (3, .ref 63)]) d_L_law_491 (by decide) rfl ?_
      refine G_aload_n 5 d_L_law_493 rfl ?_
      refine G_cv1 (some (.int 0)) (hp KK (N') (vp_updL o 0 (0 : Int32).toInt64), nc, ns) (As := []) d_L_law_494 cv_L_63 cw_M_thrown (ob_M KK (N') (vp_updL o 0 (0 : Int32).toInt64)) np_M_thrown (Nat.le_of_ble_eq_true rfl) (Nat.le_of_ble_eq_true rfl) (fun post2 kq => c_M_thrown (by rw [show N'.1 0 = 0 from cR_of (fun Q => Q.1 0) (fun _ => rfl) hN]; exact kq)) rfl ?_
      refine G_iload 1 d_L_law_497 rfl ?_
      refine G_iceq 504 d_L_law_499 (by decide) (fun _ => ?_) (fun h => absurd h (by decide))
      refine G_iload 1 d_L_law_504 rfl ?_
      refine G_ifne 528 d_L_law_506 (by decide) (fun h => absurd h (by decide)) (fun _ => ?_)
      refine G_aload_n 6 d_L_law_509 rfl ?_
      refine G_iconst (v := nI 0) d_L_law_510 (by decide) ?_
      refine G_lalN d_L_law_511 (ar_63 KK (N') (vp_updL o 0 (0 : Int32).toInt64)) (by decide) (by omega) ?_
      rw [pk_uLs]
      refine G_iload 0 d_L_law_512 rfl ?_
      refine G_ifeq 521 d_L_law_514 (by decide) (fun _ => ?_) (fun h => absurd h (by decide))
      refine G_lconst (v := 0) d_L_law_521 (by decide) ?_
      refine G_lcmp d_L_law_522 ?_
      refine G_ifeq 528 d_L_law_523 (by decide) (fun h523 => ?_) (fun h523 => False.elim (h523 (by decide)))
      refine G_goto 845 d_L_law_528 (by decide) ?_
      exact G_sub [2, 3, 4, 5, 6] rfl (k _ _ _ _ _ _ _ (by omega) (by omega) (cz_IM (cz_coR hN) (cl_IM hI h8 hp1 hps)) (cz_RK (cz_coR hN) (cl_IM hI h8 hp1 hps) hRK))
  · refine G_istore (ls' := [(5, .int 1), (4, .int (nI i)), (0, .ref 1000000), (1, .ref 0), (2, .ref 38), (3, .ref 63)]) d_L_law_479 (by decide) rfl ?_
    refine G_aload_n 4 d_L_law_481 rfl ?_
    refine G_aload_n 2 d_L_law_482 rfl ?_
    refine G_iload 1 d_L_law_483 rfl ?_
    refine G_iconst (v := nI 1) d_L_law_485 (by decide) ?_
    refine G_iadd d_L_law_486 ?_
    rw [nI_add]
    refine G_sldN d_L_law_487 (by omega) (by omega) ?_
    rw [e1]
    refine G_cv1 (some (.int (0))) (hp K (mi M 0 1) o, nc + 1, ns + 6) (As := [.int x1]) d_L_law_488 cv_L_87 cw_M_clause (ob_M K M o) np_M_clause (Nat.le_of_ble_eq_true rfl) (Nat.le_of_ble_eq_true rfl) (fun post2 kq => c_M_clause (d := d + 83) x1 hI.1 hI.2.1 hI.2.2.1 hI.2.2.2 (fun _ => kq) (fun p2 a1 a2 a3 q => absurd (hI.2.2.2.2.2.1 ▸ sP_cs hI a1 a2 a3) h9) (fun p2 a1 a2 a3 a4 a5 N' hc hR => absurd (hI.2.2.2.2.2.1 ▸ sP_cs hI a1 a2 a3) h9) (fun p2 a1 a2 a3 a4 a5 N' hc hR => absurd (hI.2.2.2.2.2.1 ▸ sP_cs hI a1 a2 a3) h9)) rfl ?_
    refine G_istore (ls' := [(6, .int 0), (5, .int 1), (4, .int (nI i)), (0, .ref 1000000), (1, .ref 0), (2, .ref 38), (3, .ref 63)]) d_L_law_491 (by decide) rfl ?_
    refine G_aload_n 5 d_L_law_493 rfl ?_
    refine G_cv1 (some (.int 1)) (hp K (mi M 0 1) o, nc + 1, ns + 6) (As := []) d_L_law_494 cv_L_63 cw_M_thrown (ob_M K (mi M 0 1) o) np_M_thrown (Nat.le_of_ble_eq_true rfl) (Nat.le_of_ble_eq_true rfl) (fun post2 kq => c_M_thrown kq) rfl ?_
    refine G_iload 1 d_L_law_497 rfl ?_
    refine G_iceq 504 d_L_law_499 (by decide) (fun _ => ?_) (fun h => absurd h (by decide))
    refine G_iload 1 d_L_law_504 rfl ?_
    refine G_ifne 528 d_L_law_506 (by decide) (fun _ => ?_) (fun h => absurd h (by decide))
    refine G_goto 845 d_L_law_528 (by decide) ?_
    exact G_sub [2, 3, 4, 5, 6] rfl (k _ _ _ _ _ _ _ (by omega) (by omega) (cz_IM (cz_m0 M 1) hI) (cz_RK (cz_m0 M 1) hI hK))
  · obtain ⟨p, hp1, hx, hps, hq⟩ := h9
    refine G_istore (ls' := [(5, .int 2), (4, .int (nI i)), (0, .ref 1000000), (1, .ref 0), (2, .ref 38), (3, .ref 63)]) d_L_law_479 (by decide) rfl ?_
    refine G_aload_n 4 d_L_law_481 rfl ?_
    refine G_aload_n 2 d_L_law_482 rfl ?_
    refine G_iload 1 d_L_law_483 rfl ?_
    refine G_iconst (v := nI 1) d_L_law_485 (by decide) ?_
    refine G_iadd d_L_law_486 ?_
    rw [nI_add]
    refine G_sldN d_L_law_487 (by omega) (by omega) ?_
    rw [e1]
    refine G_cv1 (some (.int (0))) (hp K (mi M 0 2) o, nc + 1, ns + 6) (As := [.int x1]) d_L_law_488 cv_L_87 cw_M_clause (ob_M K M o) np_M_clause (Nat.le_of_ble_eq_true rfl) (Nat.le_of_ble_eq_true rfl) (fun post2 kq => c_M_clause (d := d + 83) x1 hI.1 hI.2.1 hI.2.2.1 hI.2.2.2 (fun q => absurd (sP_cs hI hp1 hx hps) q) (fun p2 a1 a2 a3 q => kq) (fun p2 a1 a2 a3 a4 a5 N' hc hR => by obtain rfl : p2 = p := (nI_eq (by omega) (by omega)).mp (a2.symm.trans hx); rw [sW_eq] at a5; exact absurd hq (fun z => z.elim (fun z => by omega) (fun z => z (by omega)))) (fun p2 a1 a2 a3 a4 a5 N' hc hR => by obtain rfl : p2 = p := (nI_eq (by omega) (by omega)).mp (a2.symm.trans hx); rw [sW_eq] at a5; exact absurd hq (fun z => z.elim (fun z => by omega) (fun z => z (by omega))))) rfl ?_
    refine G_istore (ls' := [(6, .int 0), (5, .int 2), (4, .int (nI i)), (0, .ref 1000000), (1, .ref 0), (2, .ref 38), (3, .ref 63)]) d_L_law_491 (by decide) rfl ?_
    refine G_aload_n 5 d_L_law_493 rfl ?_
    refine G_cv1 (some (.int 2)) (hp K (mi M 0 2) o, nc + 1, ns + 6) (As := []) d_L_law_494 cv_L_63 cw_M_thrown (ob_M K (mi M 0 2) o) np_M_thrown (Nat.le_of_ble_eq_true rfl) (Nat.le_of_ble_eq_true rfl) (fun post2 kq => c_M_thrown kq) rfl ?_
    refine G_iload 1 d_L_law_497 rfl ?_
    refine G_iceq 504 d_L_law_499 (by decide) (fun _ => ?_) (fun h => absurd h (by decide))
    refine G_iload 1 d_L_law_504 rfl ?_
    refine G_ifne 528 d_L_law_506 (by decide) (fun _ => ?_) (fun h => absurd h (by decide))
    refine G_goto 845 d_L_law_528 (by decide) ?_
    exact G_sub [2, 3, 4, 5, 6] rfl (k _ _ _ _ _ _ _ (by omega) (by omega) (cz_IM (cz_m0 M 2) hI) (cz_RK (cz_m0 M 2) hI hK))
theorem kk_no {kk k2 : Nat} {x : Int32} (h8 : kk ≤ 8) (hk : k2 < kk) (hx : x = nI k2) : ¬ (x < 0 ∨ nI kk ≤ x) := by
  subst hx
  rintro (h | h)
  · exact absurd ((nI_ltI (b := 0) (by omega) (by omega)).mp h) (by omega)
  · exact absurd ((nI_leI (by omega) (by omega)).mp h) (by omega)
set_option maxHeartbeats 1000000 in
set_option maxRecDepth 100000 in
theorem w_takes {K : KC} {M : MC} {o : Nat → Int64} {nc ns : Nat} {d L i cs kk : Nat} {xs : Nat → Int32} {post : mj_O → mj_H → Prop} (hI : IM M cs kk) (hK : RK K M cs kk) (hr1 : nc + 1 ≤ 601024) (hr2 : ns + 6 ≤ 7293034) (hi : i + 5 ≤ L) (hL : L ≤ 2560) (k : ∀ (K' : KC) (M' : MC) (o' : Nat → Int64) (nc' ns' cs' kk' : Nat), nc' ≤ nc + 1 → ns' ≤ ns + 6 → IM M' cs' kk' → RK K' M' cs' kk' → mj_G y_L_law b_L_law 7 (some .boolean) [] (d + 100) (some (L, xs)) 845 [(4, .int (nI i)), (0, .ref 1000000), (1, .ref 0), (2, .ref 38), (3, .ref 63)] [] (hp K' M' o', nc', ns') post) : mj_G y_L_law b_L_law 7 (some .boolean) [] (d + 100) (some (L, xs)) 531 [(4, .int (nI i)), (0, .ref 1000000), (1, .ref 0), (2, .ref 38), (3, .ref 63)] [] (hp K M o, nc, ns) post := by
  obtain ⟨x1, e1⟩ : ∃ z, xs (i + 1) = z := ⟨_, rfl⟩
  have hk8 := hI.2.2.2.2.1
  refine G_aload_n 2 d_L_law_531 rfl ?_
  refine G_aload_n 1 d_L_law_532 rfl ?_
  refine G_iload 0 d_L_law_533 rfl ?_
  refine G_iconst (v := nI 1) d_L_law_535 (by decide) ?_
  refine G_iadd d_L_law_536 ?_
  rw [nI_add]
  refine G_sldN d_L_law_537 (by omega) (by omega) ?_
  rw [e1]
  refine G_aload_n 4 d_L_law_538 rfl ?_
  refine G_csp (fun a9 A9 => (∃ (v : Int32) (KK : KC), a9 = some (.int 0) ∧ A9 = (hp KK M (vp_updL o 0 v.toInt64), nc, ns) ∧ (RK KK M cs kk ∧ ∃ k2, k2 < kk ∧ x1 = nI k2 ∧ ((v = 1 ∧ (REACH (mi M 0 0) cs k2)) ∨ (v = 0 ∧ ¬ (REACH (mi M 0 0) cs k2))))) ∨ (a9 = some (.int 1) ∧ A9 = (hp K M o, nc + 1, ns + 6) ∧ (x1 < 0 ∨ nI kk ≤ x1))) (As := [.ref 0, .int x1, .ref 63]) d_L_law_539 cs_L_88 cw_L_takes np_L_takes (Nat.le_of_ble_eq_true rfl) (Nat.le_of_ble_eq_true rfl) (fun post2 kq => c_L_takes (d := d + 98) x1 (fun v KK => RK KK M cs kk ∧ ∃ k2, k2 < kk ∧ x1 = nI k2 ∧ ((v = 1 ∧ (REACH (mi M 0 0) cs k2)) ∨ (v = 0 ∧ ¬ (REACH (mi M 0 0) cs k2)))) (fun C => (C = 0 ∧ (x1 < 0 ∨ nI kk ≤ x1))) (fun post3 k1 k2 => c_C_takes (R := mi M 0 0) (d := d + 53) x1 (m0_IM hI) (m0_RK hI hK) hr1 hr2 (fun q => k2 0 ⟨rfl, q⟩) (fun p a1 a2 a3 => k1 1 K ⟨hK, p, a1, a2, Or.inl ⟨rfl, a3⟩⟩) (fun p a1 a2 a3 => k1 0 K ⟨hK, p, a1, a2, Or.inr ⟨rfl, a3⟩⟩)) (fun C h => h.1) (fun v KK h => by obtain ⟨-, p, -, -, h⟩ := h; exact h.elim (fun z => Or.inl z.1) (fun z => Or.inr z.1)) (fun v KK h => kq _ _ (Or.inl ⟨v, KK, rfl, rfl, h⟩)) (fun h => kq _ _ (Or.inr (⟨rfl, rfl, h.2⟩)))) (fun a9 A9 h9 => by rcases h9 with ⟨v, KK, -, rfl, -⟩ | ⟨-, rfl, -⟩ <;> rfl) (fun a9 A9 h9 => ?_)
  rcases h9 with ⟨v, KK, rfl, rfl, h9⟩ | ⟨rfl, rfl, h9⟩
  · obtain ⟨hRK, k2, hk2, hx, ⟨rfl, hq⟩ | ⟨rfl, hq⟩⟩ := h9
    · refine G_istore (ls' := [(5, .int 0), (4, .int (nI i)), (0, .ref 1000000), (1, .ref 0), (2, .ref 38), (3, .ref 63)]) d_L_law_542 (by decide) rfl ?_
      refine G_aload_n 4 d_L_law_544 rfl ?_
      refine G_aload_n 2 d_L_law_545 rfl ?_
      refine G_iload 1 d_L_law_546 rfl ?_
      refine G_iconst (v := nI 1) d_L_law_548 (by decide) ?_
      refine G_iadd d_L_law_549 ?_
      rw [nI_add]
      refine G_sldN d_L_law_550 (by omega) (by omega) ?_
      rw [e1]
      refine G_cvp (fun a9 A9 => ∃ N' : MC, a9 = some (.int (1)) ∧ A9 = (hp KK N' (vp_updL o 0 (1 : Int32).toInt64), nc, ns) ∧ (coR N' = coR (mi M 0 0))) (As := [.int x1]) d_L_law_551 cv_L_90 cw_M_takes (ob_M KK M (vp_updL o 0 (1 : Int32).toInt64)) np_M_takes (Nat.le_of_ble_eq_true rfl) (Nat.le_of_ble_eq_true rfl) (fun post2 kq => c_M_takes (d := d + 83) x1 hI.1 hI.2.1 hI.2.2.1 hI.2.2.2 (fun q => absurd q (kk_no hk8 hk2 hx)) (fun p2 a1 a2 N' hc hR => by obtain rfl : p2 = k2 := (nI_eq (by omega) (by omega)).mp (a2.symm.trans hx); exact kq _ _ ⟨N', rfl, rfl, hc⟩) (fun p2 a1 a2 N' hc hR => by obtain rfl : p2 = k2 := (nI_eq (by omega) (by omega)).mp (a2.symm.trans hx); exact absurd hq hR)) (fun a9 A9 h9 => by obtain ⟨N9, -, rfl, -⟩ := h9; rfl) (fun a9 A9 h9 => ?_)
      obtain ⟨N', rfl, rfl, hN⟩ := h9
      refine G_istore (ls' := [(6, .int 1), (5, .int 0), (4, .int (nI i)), (0, .ref 1000000), (1, .ref 0), (2, .ref 38), (3, .ref 63)]) d_L_law_554 (by decide) rfl ?_
      refine G_aload_n 5 d_L_law_556 rfl ?_
      refine G_cv1 (some (.int 0)) (hp KK (N') (vp_updL o 0 (1 : Int32).toInt64), nc, ns) (As := []) d_L_law_557 cv_L_63 cw_M_thrown (ob_M KK (N') (vp_updL o 0 (1 : Int32).toInt64)) np_M_thrown (Nat.le_of_ble_eq_true rfl) (Nat.le_of_ble_eq_true rfl) (fun post2 kq => c_M_thrown (by rw [show N'.1 0 = 0 from cR_of (fun Q => Q.1 0) (fun _ => rfl) hN]; exact kq)) rfl ?_
      refine G_iload 1 d_L_law_560 rfl ?_
      refine G_iceq 567 d_L_law_562 (by decide) (fun _ => ?_) (fun h => absurd h (by decide))
      refine G_iload 1 d_L_law_567 rfl ?_
      refine G_ifne 591 d_L_law_569 (by decide) (fun h => absurd h (by decide)) (fun _ => ?_)
      refine G_aload_n 6 d_L_law_572 rfl ?_
      refine G_iconst (v := nI 0) d_L_law_573 (by decide) ?_
      refine G_lalN d_L_law_574 (ar_63 KK (N') (vp_updL o 0 (1 : Int32).toInt64)) (by decide) (by omega) ?_
      rw [pk_uLs]
      refine G_iload 0 d_L_law_575 rfl ?_
      refine G_ifeq 584 d_L_law_577 (by decide) (fun h => absurd h (by decide)) (fun _ => ?_)
      refine G_lconst (v := 1) d_L_law_580 (by decide) ?_
      refine G_goto 585 d_L_law_581 (by decide) ?_
      refine G_lcmp d_L_law_585 ?_
      refine G_ifeq 591 d_L_law_586 (by decide) (fun h586 => ?_) (fun h586 => False.elim (h586 (by decide)))
      refine G_goto 845 d_L_law_591 (by decide) ?_
      exact G_sub [2, 3, 4, 5, 6] rfl (k _ _ _ _ _ _ _ (by omega) (by omega) (N_IM hN hI) (N_RK hN hI hRK))
    · refine G_istore (ls' := [(5, .int 0), (4, .int (nI i)), (0, .ref 1000000), (1, .ref 0), (2, .ref 38), (3, .ref 63)]) d_L_law_542 (by decide) rfl ?_
      refine G_aload_n 4 d_L_law_544 rfl ?_
      refine G_aload_n 2 d_L_law_545 rfl ?_
      refine G_iload 1 d_L_law_546 rfl ?_
      refine G_iconst (v := nI 1) d_L_law_548 (by decide) ?_
      refine G_iadd d_L_law_549 ?_
      rw [nI_add]
      refine G_sldN d_L_law_550 (by omega) (by omega) ?_
      rw [e1]
      refine G_cvp (fun a9 A9 => ∃ N' : MC, a9 = some (.int (0)) ∧ A9 = (hp KK N' (vp_updL o 0 (0 : Int32).toInt64), nc, ns) ∧ (coR N' = coR (mi M 0 0))) (As := [.int x1]) d_L_law_551 cv_L_90 cw_M_takes (ob_M KK M (vp_updL o 0 (0 : Int32).toInt64)) np_M_takes (Nat.le_of_ble_eq_true rfl) (Nat.le_of_ble_eq_true rfl) (fun post2 kq => c_M_takes (d := d + 83) x1 hI.1 hI.2.1 hI.2.2.1 hI.2.2.2 (fun q => absurd q (kk_no hk8 hk2 hx)) (fun p2 a1 a2 N' hc hR => by obtain rfl : p2 = k2 := (nI_eq (by omega) (by omega)).mp (a2.symm.trans hx); exact absurd hR hq) (fun p2 a1 a2 N' hc hR => by obtain rfl : p2 = k2 := (nI_eq (by omega) (by omega)).mp (a2.symm.trans hx); exact kq _ _ ⟨N', rfl, rfl, hc⟩)) (fun a9 A9 h9 => by obtain ⟨N9, -, rfl, -⟩ := h9; rfl) (fun a9 A9 h9 => ?_)
      obtain ⟨N', rfl, rfl, hN⟩ := h9
      refine G_istore (ls' := [(6, .int 0), (5, .int 0), (4, .int (nI i)), (0, .ref 1000000), (1, .ref 0), (2, .ref 38), (3, .ref 63)]) d_L_law_554 (by decide) rfl ?_
      refine G_aload_n 5 d_L_law_556 rfl ?_
      refine G_cv1 (some (.int 0)) (hp KK (N') (vp_updL o 0 (0 : Int32).toInt64), nc, ns) (As := []) d_L_law_557 cv_L_63 cw_M_thrown (ob_M KK (N') (vp_updL o 0 (0 : Int32).toInt64)) np_M_thrown (Nat.le_of_ble_eq_true rfl) (Nat.le_of_ble_eq_true rfl) (fun post2 kq => c_M_thrown (by rw [show N'.1 0 = 0 from cR_of (fun Q => Q.1 0) (fun _ => rfl) hN]; exact kq)) rfl ?_
      refine G_iload 1 d_L_law_560 rfl ?_
      refine G_iceq 567 d_L_law_562 (by decide) (fun _ => ?_) (fun h => absurd h (by decide))
      refine G_iload 1 d_L_law_567 rfl ?_
      refine G_ifne 591 d_L_law_569 (by decide) (fun h => absurd h (by decide)) (fun _ => ?_)
      refine G_aload_n 6 d_L_law_572 rfl ?_
      refine G_iconst (v := nI 0) d_L_law_573 (by decide) ?_
      refine G_lalN d_L_law_574 (ar_63 KK (N') (vp_updL o 0 (0 : Int32).toInt64)) (by decide) (by omega) ?_
      rw [pk_uLs]
      refine G_iload 0 d_L_law_575 rfl ?_
      refine G_ifeq 584 d_L_law_577 (by decide) (fun _ => ?_) (fun h => absurd h (by decide))
      refine G_lconst (v := 0) d_L_law_584 (by decide) ?_
      refine G_lcmp d_L_law_585 ?_
      refine G_ifeq 591 d_L_law_586 (by decide) (fun h586 => ?_) (fun h586 => False.elim (h586 (by decide)))
      refine G_goto 845 d_L_law_591 (by decide) ?_
      exact G_sub [2, 3, 4, 5, 6] rfl (k _ _ _ _ _ _ _ (by omega) (by omega) (N_IM hN hI) (N_RK hN hI hRK))
  · refine G_istore (ls' := [(5, .int 1), (4, .int (nI i)), (0, .ref 1000000), (1, .ref 0), (2, .ref 38), (3, .ref 63)]) d_L_law_542 (by decide) rfl ?_
    refine G_aload_n 4 d_L_law_544 rfl ?_
    refine G_aload_n 2 d_L_law_545 rfl ?_
    refine G_iload 1 d_L_law_546 rfl ?_
    refine G_iconst (v := nI 1) d_L_law_548 (by decide) ?_
    refine G_iadd d_L_law_549 ?_
    rw [nI_add]
    refine G_sldN d_L_law_550 (by omega) (by omega) ?_
    rw [e1]
    refine G_cv1 (some (.int (0))) (hp K (mi M 0 1) o, nc + 1, ns + 6) (As := [.int x1]) d_L_law_551 cv_L_90 cw_M_takes (ob_M K M o) np_M_takes (Nat.le_of_ble_eq_true rfl) (Nat.le_of_ble_eq_true rfl) (fun post2 kq => c_M_takes (d := d + 83) x1 hI.1 hI.2.1 hI.2.2.1 hI.2.2.2 (fun _ => kq) (fun p2 a1 a2 N' hc hR => absurd h9 (kk_no hk8 a1 a2)) (fun p2 a1 a2 N' hc hR => absurd h9 (kk_no hk8 a1 a2))) rfl ?_
    refine G_istore (ls' := [(6, .int 0), (5, .int 1), (4, .int (nI i)), (0, .ref 1000000), (1, .ref 0), (2, .ref 38), (3, .ref 63)]) d_L_law_554 (by decide) rfl ?_
    refine G_aload_n 5 d_L_law_556 rfl ?_
    refine G_cv1 (some (.int 1)) (hp K (mi M 0 1) o, nc + 1, ns + 6) (As := []) d_L_law_557 cv_L_63 cw_M_thrown (ob_M K (mi M 0 1) o) np_M_thrown (Nat.le_of_ble_eq_true rfl) (Nat.le_of_ble_eq_true rfl) (fun post2 kq => c_M_thrown kq) rfl ?_
    refine G_iload 1 d_L_law_560 rfl ?_
    refine G_iceq 567 d_L_law_562 (by decide) (fun _ => ?_) (fun h => absurd h (by decide))
    refine G_iload 1 d_L_law_567 rfl ?_
    refine G_ifne 591 d_L_law_569 (by decide) (fun _ => ?_) (fun h => absurd h (by decide))
    refine G_goto 845 d_L_law_591 (by decide) ?_
    exact G_sub [2, 3, 4, 5, 6] rfl (k _ _ _ _ _ _ _ (by omega) (by omega) (cz_IM (cz_m0 M 1) hI) (cz_RK (cz_m0 M 1) hI hK))
set_option maxHeartbeats 1000000 in
set_option maxRecDepth 100000 in
theorem w_lives {K : KC} {M : MC} {o : Nat → Int64} {nc ns : Nat} {d L i cs kk : Nat} {xs : Nat → Int32} {post : mj_O → mj_H → Prop} (hI : IM M cs kk) (hK : RK K M cs kk) (hr1 : nc + 1 ≤ 601024) (hr2 : ns + 6 ≤ 7293034) (hi : i + 5 ≤ L) (hL : L ≤ 2560) (k : ∀ (K' : KC) (M' : MC) (o' : Nat → Int64) (nc' ns' cs' kk' : Nat), nc' ≤ nc + 1 → ns' ≤ ns + 6 → IM M' cs' kk' → RK K' M' cs' kk' → mj_G y_L_law b_L_law 7 (some .boolean) [] (d + 100) (some (L, xs)) 845 [(4, .int (nI i)), (0, .ref 1000000), (1, .ref 0), (2, .ref 38), (3, .ref 63)] [] (hp K' M' o', nc', ns') post) : mj_G y_L_law b_L_law 7 (some .boolean) [] (d + 100) (some (L, xs)) 757 [(4, .int (nI i)), (0, .ref 1000000), (1, .ref 0), (2, .ref 38), (3, .ref 63)] [] (hp K M o, nc, ns) post := by
  obtain ⟨x1, e1⟩ : ∃ z, xs (i + 1) = z := ⟨_, rfl⟩
  have q12 := hI.1.2.2
  refine G_aload_n 2 d_L_law_757 rfl ?_
  refine G_aload_n 1 d_L_law_758 rfl ?_
  refine G_iload 0 d_L_law_759 rfl ?_
  refine G_iconst (v := nI 1) d_L_law_761 (by decide) ?_
  refine G_iadd d_L_law_762 ?_
  rw [nI_add]
  refine G_sldN d_L_law_763 (by omega) (by omega) ?_
  rw [e1]
  refine G_aload_n 4 d_L_law_764 rfl ?_
  refine G_csp (fun a9 A9 => (∃ (v : Int32) (KK : KC), a9 = some (.int 0) ∧ A9 = (hp KK M (vp_updL o 0 v.toInt64), nc, ns) ∧ (RK KK M cs kk ∧ ∃ k2, k2 < mS M ∧ x1 = nI k2 ∧ ((v = 1 ∧ LV M k2) ∨ (v = 0 ∧ ¬ LV M k2)))) ∨ (a9 = some (.int 1) ∧ A9 = (hp K M o, nc + 1, ns + 6) ∧ (¬ iS M x1))) (As := [.ref 0, .int x1, .ref 63]) d_L_law_765 cs_L_103 cw_L_lives np_L_lives (Nat.le_of_ble_eq_true rfl) (Nat.le_of_ble_eq_true rfl) (fun post2 kq => c_L_lives (d := d + 98) x1 (fun v KK => RK KK M cs kk ∧ ∃ k2, k2 < mS M ∧ x1 = nI k2 ∧ ((v = 1 ∧ LV M k2) ∨ (v = 0 ∧ ¬ LV M k2))) (fun C => (C = 0 ∧ (¬ iS M x1))) (fun post3 k1 k2 => c_C_lives (d := d + 91) x1 hI hK hr1 hr2 (fun q => k2 0 ⟨rfl, q⟩) (fun p a1 a2 a3 => k1 1 K ⟨hK, p, a1, a2, Or.inl ⟨rfl, a3⟩⟩) (fun p a1 a2 a3 => k1 0 K ⟨hK, p, a1, a2, Or.inr ⟨rfl, a3⟩⟩)) (fun C h => h.1) (fun v KK h => by obtain ⟨-, p, -, -, h⟩ := h; exact h.elim (fun z => Or.inl z.1) (fun z => Or.inr z.1)) (fun v KK h => kq _ _ (Or.inl ⟨v, KK, rfl, rfl, h⟩)) (fun h => kq _ _ (Or.inr (⟨rfl, rfl, h.2⟩)))) (fun a9 A9 h9 => by rcases h9 with ⟨v, KK, -, rfl, -⟩ | ⟨-, rfl, -⟩ <;> rfl) (fun a9 A9 h9 => ?_)
  rcases h9 with ⟨v, KK, rfl, rfl, h9⟩ | ⟨rfl, rfl, h9⟩
  · obtain ⟨hRK, k2, hk2, hx, ⟨rfl, hq⟩ | ⟨rfl, hq⟩⟩ := h9
    · refine G_istore (ls' := [(5, .int 0), (4, .int (nI i)), (0, .ref 1000000), (1, .ref 0), (2, .ref 38), (3, .ref 63)]) d_L_law_768 (by decide) rfl ?_
      refine G_aload_n 4 d_L_law_770 rfl ?_
      refine G_aload_n 2 d_L_law_771 rfl ?_
      refine G_iload 1 d_L_law_772 rfl ?_
      refine G_iconst (v := nI 1) d_L_law_774 (by decide) ?_
      refine G_iadd d_L_law_775 ?_
      rw [nI_add]
      refine G_sldN d_L_law_776 (by omega) (by omega) ?_
      rw [e1]
      refine G_cvp (fun a9 A9 => ∃ N' : MC, a9 = some (.int (1)) ∧ A9 = (hp KK N' (vp_updL o 0 (1 : Int32).toInt64), nc, ns) ∧ (coR N' = coR (mi M 0 0))) (As := [.int x1]) d_L_law_777 cv_L_105 cw_M_lives (ob_M KK M (vp_updL o 0 (1 : Int32).toInt64)) np_M_lives (Nat.le_of_ble_eq_true rfl) (Nat.le_of_ble_eq_true rfl) (fun post2 kq => c_M_lives (d := d + 97) x1 hI.1 hI.2.1 (fun q => absurd (by rw [hx]; exact iS_nI hI.1 hk2) q) (fun p2 a1 a2 N' hc hR => by obtain rfl : p2 = k2 := (nI_eq (by omega) (by omega)).mp (a2.symm.trans hx); exact kq _ _ ⟨N', rfl, rfl, hc⟩) (fun p2 a1 a2 N' hc hR => by obtain rfl : p2 = k2 := (nI_eq (by omega) (by omega)).mp (a2.symm.trans hx); exact absurd hq hR)) (fun a9 A9 h9 => by obtain ⟨N9, -, rfl, -⟩ := h9; rfl) (fun a9 A9 h9 => ?_)
      obtain ⟨N', rfl, rfl, hN⟩ := h9
      refine G_istore (ls' := [(6, .int 1), (5, .int 0), (4, .int (nI i)), (0, .ref 1000000), (1, .ref 0), (2, .ref 38), (3, .ref 63)]) d_L_law_780 (by decide) rfl ?_
      refine G_aload_n 5 d_L_law_782 rfl ?_
      refine G_cv1 (some (.int 0)) (hp KK (N') (vp_updL o 0 (1 : Int32).toInt64), nc, ns) (As := []) d_L_law_783 cv_L_63 cw_M_thrown (ob_M KK (N') (vp_updL o 0 (1 : Int32).toInt64)) np_M_thrown (Nat.le_of_ble_eq_true rfl) (Nat.le_of_ble_eq_true rfl) (fun post2 kq => c_M_thrown (by rw [show N'.1 0 = 0 from cR_of (fun Q => Q.1 0) (fun _ => rfl) hN]; exact kq)) rfl ?_
      refine G_iload 1 d_L_law_786 rfl ?_
      refine G_iceq 793 d_L_law_788 (by decide) (fun _ => ?_) (fun h => absurd h (by decide))
      refine G_iload 1 d_L_law_793 rfl ?_
      refine G_ifne 817 d_L_law_795 (by decide) (fun h => absurd h (by decide)) (fun _ => ?_)
      refine G_aload_n 6 d_L_law_798 rfl ?_
      refine G_iconst (v := nI 0) d_L_law_799 (by decide) ?_
      refine G_lalN d_L_law_800 (ar_63 KK (N') (vp_updL o 0 (1 : Int32).toInt64)) (by decide) (by omega) ?_
      rw [pk_uLs]
      refine G_iload 0 d_L_law_801 rfl ?_
      refine G_ifeq 810 d_L_law_803 (by decide) (fun h => absurd h (by decide)) (fun _ => ?_)
      refine G_lconst (v := 1) d_L_law_806 (by decide) ?_
      refine G_goto 811 d_L_law_807 (by decide) ?_
      refine G_lcmp d_L_law_811 ?_
      refine G_ifeq 817 d_L_law_812 (by decide) (fun h812 => ?_) (fun h812 => False.elim (h812 (by decide)))
      refine G_goto 845 d_L_law_817 (by decide) ?_
      exact G_sub [2, 3, 4, 5, 6] rfl (k _ _ _ _ _ _ _ (by omega) (by omega) (N_IM hN hI) (N_RK hN hI hRK))
    · refine G_istore (ls' := [(5, .int 0), (4, .int (nI i)), (0, .ref 1000000), (1, .ref 0), (2, .ref 38), (3, .ref 63)]) d_L_law_768 (by decide) rfl ?_
      refine G_aload_n 4 d_L_law_770 rfl ?_
      refine G_aload_n 2 d_L_law_771 rfl ?_
      refine G_iload 1 d_L_law_772 rfl ?_
      refine G_iconst (v := nI 1) d_L_law_774 (by decide) ?_
      refine G_iadd d_L_law_775 ?_
      rw [nI_add]
      refine G_sldN d_L_law_776 (by omega) (by omega) ?_
      rw [e1]
      refine G_cvp (fun a9 A9 => ∃ N' : MC, a9 = some (.int (0)) ∧ A9 = (hp KK N' (vp_updL o 0 (0 : Int32).toInt64), nc, ns) ∧ (coR N' = coR (mi M 0 0))) (As := [.int x1]) d_L_law_777 cv_L_105 cw_M_lives (ob_M KK M (vp_updL o 0 (0 : Int32).toInt64)) np_M_lives (Nat.le_of_ble_eq_true rfl) (Nat.le_of_ble_eq_true rfl) (fun post2 kq => c_M_lives (d := d + 97) x1 hI.1 hI.2.1 (fun q => absurd (by rw [hx]; exact iS_nI hI.1 hk2) q) (fun p2 a1 a2 N' hc hR => by obtain rfl : p2 = k2 := (nI_eq (by omega) (by omega)).mp (a2.symm.trans hx); exact absurd hR hq) (fun p2 a1 a2 N' hc hR => by obtain rfl : p2 = k2 := (nI_eq (by omega) (by omega)).mp (a2.symm.trans hx); exact kq _ _ ⟨N', rfl, rfl, hc⟩)) (fun a9 A9 h9 => by obtain ⟨N9, -, rfl, -⟩ := h9; rfl) (fun a9 A9 h9 => ?_)
      obtain ⟨N', rfl, rfl, hN⟩ := h9
      refine G_istore (ls' := [(6, .int 0), (5, .int 0), (4, .int (nI i)), (0, .ref 1000000), (1, .ref 0), (2, .ref 38), (3, .ref 63)]) d_L_law_780 (by decide) rfl ?_
      refine G_aload_n 5 d_L_law_782 rfl ?_
      refine G_cv1 (some (.int 0)) (hp KK (N') (vp_updL o 0 (0 : Int32).toInt64), nc, ns) (As := []) d_L_law_783 cv_L_63 cw_M_thrown (ob_M KK (N') (vp_updL o 0 (0 : Int32).toInt64)) np_M_thrown (Nat.le_of_ble_eq_true rfl) (Nat.le_of_ble_eq_true rfl) (fun post2 kq => c_M_thrown (by rw [show N'.1 0 = 0 from cR_of (fun Q => Q.1 0) (fun _ => rfl) hN]; exact kq)) rfl ?_
      refine G_iload 1 d_L_law_786 rfl ?_
      refine G_iceq 793 d_L_law_788 (by decide) (fun _ => ?_) (fun h => absurd h (by decide))
      refine G_iload 1 d_L_law_793 rfl ?_
      refine G_ifne 817 d_L_law_795 (by decide) (fun h => absurd h (by decide)) (fun _ => ?_)
      refine G_aload_n 6 d_L_law_798 rfl ?_
      refine G_iconst (v := nI 0) d_L_law_799 (by decide) ?_
      refine G_lalN d_L_law_800 (ar_63 KK (N') (vp_updL o 0 (0 : Int32).toInt64)) (by decide) (by omega) ?_
      rw [pk_uLs]
      refine G_iload 0 d_L_law_801 rfl ?_
      refine G_ifeq 810 d_L_law_803 (by decide) (fun _ => ?_) (fun h => absurd h (by decide))
      refine G_lconst (v := 0) d_L_law_810 (by decide) ?_
      refine G_lcmp d_L_law_811 ?_
      refine G_ifeq 817 d_L_law_812 (by decide) (fun h812 => ?_) (fun h812 => False.elim (h812 (by decide)))
      refine G_goto 845 d_L_law_817 (by decide) ?_
      exact G_sub [2, 3, 4, 5, 6] rfl (k _ _ _ _ _ _ _ (by omega) (by omega) (N_IM hN hI) (N_RK hN hI hRK))
  · refine G_istore (ls' := [(5, .int 1), (4, .int (nI i)), (0, .ref 1000000), (1, .ref 0), (2, .ref 38), (3, .ref 63)]) d_L_law_768 (by decide) rfl ?_
    refine G_aload_n 4 d_L_law_770 rfl ?_
    refine G_aload_n 2 d_L_law_771 rfl ?_
    refine G_iload 1 d_L_law_772 rfl ?_
    refine G_iconst (v := nI 1) d_L_law_774 (by decide) ?_
    refine G_iadd d_L_law_775 ?_
    rw [nI_add]
    refine G_sldN d_L_law_776 (by omega) (by omega) ?_
    rw [e1]
    refine G_cv1 (some (.int (0))) (hp K (mi M 0 1) o, nc + 1, ns + 6) (As := [.int x1]) d_L_law_777 cv_L_105 cw_M_lives (ob_M K M o) np_M_lives (Nat.le_of_ble_eq_true rfl) (Nat.le_of_ble_eq_true rfl) (fun post2 kq => c_M_lives (d := d + 97) x1 hI.1 hI.2.1 (fun _ => kq) (fun p2 a1 a2 N' hc hR => absurd (by rw [a2]; exact iS_nI hI.1 a1) h9) (fun p2 a1 a2 N' hc hR => absurd (by rw [a2]; exact iS_nI hI.1 a1) h9)) rfl ?_
    refine G_istore (ls' := [(6, .int 0), (5, .int 1), (4, .int (nI i)), (0, .ref 1000000), (1, .ref 0), (2, .ref 38), (3, .ref 63)]) d_L_law_780 (by decide) rfl ?_
    refine G_aload_n 5 d_L_law_782 rfl ?_
    refine G_cv1 (some (.int 1)) (hp K (mi M 0 1) o, nc + 1, ns + 6) (As := []) d_L_law_783 cv_L_63 cw_M_thrown (ob_M K (mi M 0 1) o) np_M_thrown (Nat.le_of_ble_eq_true rfl) (Nat.le_of_ble_eq_true rfl) (fun post2 kq => c_M_thrown kq) rfl ?_
    refine G_iload 1 d_L_law_786 rfl ?_
    refine G_iceq 793 d_L_law_788 (by decide) (fun _ => ?_) (fun h => absurd h (by decide))
    refine G_iload 1 d_L_law_793 rfl ?_
    refine G_ifne 817 d_L_law_795 (by decide) (fun _ => ?_) (fun h => absurd h (by decide))
    refine G_goto 845 d_L_law_817 (by decide) ?_
    exact G_sub [2, 3, 4, 5, 6] rfl (k _ _ _ _ _ _ _ (by omega) (by omega) (cz_IM (cz_m0 M 1) hI) (cz_RK (cz_m0 M 1) hI hK))
set_option maxHeartbeats 1000000 in
set_option maxRecDepth 100000 in
theorem w_covers {K : KC} {M : MC} {o : Nat → Int64} {nc ns : Nat} {d L i cs kk : Nat} {xs : Nat → Int32} {post : mj_O → mj_H → Prop} (hI : IM M cs kk) (hK : RK K M cs kk) (hr1 : nc + 1 ≤ 601024) (hr2 : ns + 6 ≤ 7293034) (hi : i + 5 ≤ L) (hL : L ≤ 2560) (k : ∀ (K' : KC) (M' : MC) (o' : Nat → Int64) (nc' ns' cs' kk' : Nat), nc' ≤ nc + 1 → ns' ≤ ns + 6 → IM M' cs' kk' → RK K' M' cs' kk' → mj_G y_L_law b_L_law 7 (some .boolean) [] (d + 100) (some (L, xs)) 845 [(4, .int (nI i)), (0, .ref 1000000), (1, .ref 0), (2, .ref 38), (3, .ref 63)] [] (hp K' M' o', nc', ns') post) : mj_G y_L_law b_L_law 7 (some .boolean) [] (d + 100) (some (L, xs)) 607 [(4, .int (nI i)), (0, .ref 1000000), (1, .ref 0), (2, .ref 38), (3, .ref 63)] [] (hp K M o, nc, ns) post := by
  obtain ⟨x1, e1⟩ : ∃ z, xs (i + 1) = z := ⟨_, rfl⟩
  obtain ⟨x2, e2⟩ : ∃ z, xs (i + 2) = z := ⟨_, rfl⟩
  have q200 := hI.2.2.1.2.1
  refine G_aload_n 2 d_L_law_607 rfl ?_
  refine G_aload_n 1 d_L_law_608 rfl ?_
  refine G_iload 0 d_L_law_609 rfl ?_
  refine G_iconst (v := nI 1) d_L_law_611 (by decide) ?_
  refine G_iadd d_L_law_612 ?_
  rw [nI_add]
  refine G_sldN d_L_law_613 (by omega) (by omega) ?_
  rw [e1]
  refine G_aload_n 1 d_L_law_614 rfl ?_
  refine G_iload 0 d_L_law_615 rfl ?_
  refine G_iconst (v := nI 2) d_L_law_617 (by decide) ?_
  refine G_iadd d_L_law_618 ?_
  rw [nI_add]
  refine G_sldN d_L_law_619 (by omega) (by omega) ?_
  rw [e2]
  refine G_aload_n 4 d_L_law_620 rfl ?_
  refine G_csp (fun a9 A9 => (∃ (v : Int32) (KK : KC), a9 = some (.int 0) ∧ A9 = (hp KK M (vp_updL o 0 v.toInt64), nc, ns) ∧ (RK KK M cs kk ∧ ∃ p q, p < mP M ∧ q < mP M ∧ x1 = nI p ∧ x2 = nI q ∧ ps M p = ps M q ∧ ((v = 0 ∧ (COVQ (mi M 0 0) p q)) ∨ (v = 1 ∧ ¬ (COVQ (mi M 0 0) p q))))) ∨ (a9 = some (.int 1) ∧ A9 = (hp K M o, nc + 1, ns + 6) ∧ (¬ aL M x1 x2))) (As := [.ref 0, .int x1, .int x2, .ref 63]) d_L_law_621 cs_L_96 cw_L_covers np_L_covers (Nat.le_of_ble_eq_true rfl) (Nat.le_of_ble_eq_true rfl) (fun post2 kq => c_L_covers (d := d + 98) x1 x2 (fun v KK => RK KK M cs kk ∧ ∃ p q, p < mP M ∧ q < mP M ∧ x1 = nI p ∧ x2 = nI q ∧ ps M p = ps M q ∧ ((v = 0 ∧ (COVQ (mi M 0 0) p q)) ∨ (v = 1 ∧ ¬ (COVQ (mi M 0 0) p q)))) (fun C => (C = 0 ∧ (¬ aL M x1 x2))) (fun post3 k1 k2 => c_C_covers (R := mi M 0 0) (d := d + 52) x1 x2 (m0_IM hI) (m0_RK hI hK) hr1 hr2 (fun z => k2 0 ⟨rfl, z⟩) (fun p q a1 a2 a3 a4 a5 KB a6 a7 => k1 0 KB ⟨RK_m0 hI a6, p, q, a1, a2, a3, a4, a5, Or.inl ⟨rfl, a7⟩⟩) (fun p q a1 a2 a3 a4 a5 KB a6 a7 => k1 1 KB ⟨RK_m0 hI a6, p, q, a1, a2, a3, a4, a5, Or.inr ⟨rfl, a7⟩⟩)) (fun C h => h.1) (fun v KK h => by obtain ⟨-, p, q, -, -, -, -, -, h⟩ := h; exact h.elim (fun z => Or.inr z.1) (fun z => Or.inl z.1)) (fun v KK h => kq _ _ (Or.inl ⟨v, KK, rfl, rfl, h⟩)) (fun h => kq _ _ (Or.inr (⟨rfl, rfl, h.2⟩)))) (fun a9 A9 h9 => by rcases h9 with ⟨v, KK, -, rfl, -⟩ | ⟨-, rfl, -⟩ <;> rfl) (fun a9 A9 h9 => ?_)
  rcases h9 with ⟨v, KK, rfl, rfl, h9⟩ | ⟨rfl, rfl, h9⟩
  · obtain ⟨hRK, p, q, a1, a2, a3, a4, a5, ⟨rfl, hq⟩ | ⟨rfl, hq⟩⟩ := h9
    · refine G_istore (ls' := [(5, .int 0), (4, .int (nI i)), (0, .ref 1000000), (1, .ref 0), (2, .ref 38), (3, .ref 63)]) d_L_law_624 (by decide) rfl ?_
      refine G_aload_n 4 d_L_law_626 rfl ?_
      refine G_aload_n 2 d_L_law_627 rfl ?_
      refine G_iload 1 d_L_law_628 rfl ?_
      refine G_iconst (v := nI 1) d_L_law_630 (by decide) ?_
      refine G_iadd d_L_law_631 ?_
      rw [nI_add]
      refine G_sldN d_L_law_632 (by omega) (by omega) ?_
      rw [e1]
      refine G_aload_n 2 d_L_law_633 rfl ?_
      refine G_iload 1 d_L_law_634 rfl ?_
      refine G_iconst (v := nI 2) d_L_law_636 (by decide) ?_
      refine G_iadd d_L_law_637 ?_
      rw [nI_add]
      refine G_sldN d_L_law_638 (by omega) (by omega) ?_
      rw [e2]
      refine G_cvp (fun a9 A9 => ∃ N' : MC, a9 = some (.int (0)) ∧ A9 = (hp KK N' (vp_updL o 0 (0 : Int32).toInt64), nc, ns) ∧ (coR N' = coR (mi M 0 0))) (As := [.int x1, .int x2]) d_L_law_639 cv_L_99 cw_M_covers (ob_M KK M (vp_updL o 0 (0 : Int32).toInt64)) np_M_covers (Nat.le_of_ble_eq_true rfl) (Nat.le_of_ble_eq_true rfl) (fun post2 kq => c_M_covers (d := d + 84) x1 x2 hI.1 hI.2.1 hI.2.2.1 (fun z => absurd (aL_pq hI a1 a2 a3 a4 a5) z) (fun p2 q2 b1 b2 b3 b4 b5 N' hc hR => by obtain rfl : p2 = p := (nI_eq (by omega) (by omega)).mp (b3.symm.trans a3); obtain rfl : q2 = q := (nI_eq (by omega) (by omega)).mp (b4.symm.trans a4); exact kq _ _ ⟨N', rfl, rfl, hc⟩) (fun p2 q2 b1 b2 b3 b4 b5 N' hc hR => by obtain rfl : p2 = p := (nI_eq (by omega) (by omega)).mp (b3.symm.trans a3); obtain rfl : q2 = q := (nI_eq (by omega) (by omega)).mp (b4.symm.trans a4); exact absurd hq hR)) (fun a9 A9 h9 => by obtain ⟨N9, -, rfl, -⟩ := h9; rfl) (fun a9 A9 h9 => ?_)
      obtain ⟨N', rfl, rfl, hN⟩ := h9
      refine G_istore (ls' := [(6, .int 0), (5, .int 0), (4, .int (nI i)), (0, .ref 1000000), (1, .ref 0), (2, .ref 38), (3, .ref 63)]) d_L_law_642 (by decide) rfl ?_
      refine G_aload_n 5 d_L_law_644 rfl ?_
      refine G_cv1 (some (.int 0)) (hp KK (N') (vp_updL o 0 (0 : Int32).toInt64), nc, ns) (As := []) d_L_law_645 cv_L_63 cw_M_thrown (ob_M KK (N') (vp_updL o 0 (0 : Int32).toInt64)) np_M_thrown (Nat.le_of_ble_eq_true rfl) (Nat.le_of_ble_eq_true rfl) (fun post2 kq => c_M_thrown (by rw [show N'.1 0 = 0 from cR_of (fun Q => Q.1 0) (fun _ => rfl) hN]; exact kq)) rfl ?_
      refine G_iload 1 d_L_law_648 rfl ?_
      refine G_iceq 655 d_L_law_650 (by decide) (fun _ => ?_) (fun h => absurd h (by decide))
      refine G_iload 1 d_L_law_655 rfl ?_
      refine G_ifne 679 d_L_law_657 (by decide) (fun h => absurd h (by decide)) (fun _ => ?_)
      refine G_aload_n 6 d_L_law_660 rfl ?_
      refine G_iconst (v := nI 0) d_L_law_661 (by decide) ?_
      refine G_lalN d_L_law_662 (ar_63 KK (N') (vp_updL o 0 (0 : Int32).toInt64)) (by decide) (by omega) ?_
      rw [pk_uLs]
      refine G_iload 0 d_L_law_663 rfl ?_
      refine G_ifeq 672 d_L_law_665 (by decide) (fun _ => ?_) (fun h => absurd h (by decide))
      refine G_lconst (v := 0) d_L_law_672 (by decide) ?_
      refine G_lcmp d_L_law_673 ?_
      refine G_ifeq 679 d_L_law_674 (by decide) (fun h674 => ?_) (fun h674 => False.elim (h674 (by decide)))
      refine G_goto 845 d_L_law_679 (by decide) ?_
      exact G_sub [2, 3, 4, 5, 6] rfl (k _ _ _ _ _ _ _ (by omega) (by omega) (N_IM hN hI) (N_RK hN hI hRK))
    · refine G_istore (ls' := [(5, .int 0), (4, .int (nI i)), (0, .ref 1000000), (1, .ref 0), (2, .ref 38), (3, .ref 63)]) d_L_law_624 (by decide) rfl ?_
      refine G_aload_n 4 d_L_law_626 rfl ?_
      refine G_aload_n 2 d_L_law_627 rfl ?_
      refine G_iload 1 d_L_law_628 rfl ?_
      refine G_iconst (v := nI 1) d_L_law_630 (by decide) ?_
      refine G_iadd d_L_law_631 ?_
      rw [nI_add]
      refine G_sldN d_L_law_632 (by omega) (by omega) ?_
      rw [e1]
      refine G_aload_n 2 d_L_law_633 rfl ?_
      refine G_iload 1 d_L_law_634 rfl ?_
      refine G_iconst (v := nI 2) d_L_law_636 (by decide) ?_
      refine G_iadd d_L_law_637 ?_
      rw [nI_add]
      refine G_sldN d_L_law_638 (by omega) (by omega) ?_
      rw [e2]
      refine G_cvp (fun a9 A9 => ∃ N' : MC, a9 = some (.int (1)) ∧ A9 = (hp KK N' (vp_updL o 0 (1 : Int32).toInt64), nc, ns) ∧ (coR N' = coR (mi M 0 0))) (As := [.int x1, .int x2]) d_L_law_639 cv_L_99 cw_M_covers (ob_M KK M (vp_updL o 0 (1 : Int32).toInt64)) np_M_covers (Nat.le_of_ble_eq_true rfl) (Nat.le_of_ble_eq_true rfl) (fun post2 kq => c_M_covers (d := d + 84) x1 x2 hI.1 hI.2.1 hI.2.2.1 (fun z => absurd (aL_pq hI a1 a2 a3 a4 a5) z) (fun p2 q2 b1 b2 b3 b4 b5 N' hc hR => by obtain rfl : p2 = p := (nI_eq (by omega) (by omega)).mp (b3.symm.trans a3); obtain rfl : q2 = q := (nI_eq (by omega) (by omega)).mp (b4.symm.trans a4); exact absurd hR hq) (fun p2 q2 b1 b2 b3 b4 b5 N' hc hR => by obtain rfl : p2 = p := (nI_eq (by omega) (by omega)).mp (b3.symm.trans a3); obtain rfl : q2 = q := (nI_eq (by omega) (by omega)).mp (b4.symm.trans a4); exact kq _ _ ⟨N', rfl, rfl, hc⟩)) (fun a9 A9 h9 => by obtain ⟨N9, -, rfl, -⟩ := h9; rfl) (fun a9 A9 h9 => ?_)
      obtain ⟨N', rfl, rfl, hN⟩ := h9
      refine G_istore (ls' := [(6, .int 1), (5, .int 0), (4, .int (nI i)), (0, .ref 1000000), (1, .ref 0), (2, .ref 38), (3, .ref 63)]) d_L_law_642 (by decide) rfl ?_
      refine G_aload_n 5 d_L_law_644 rfl ?_
      refine G_cv1 (some (.int 0)) (hp KK (N') (vp_updL o 0 (1 : Int32).toInt64), nc, ns) (As := []) d_L_law_645 cv_L_63 cw_M_thrown (ob_M KK (N') (vp_updL o 0 (1 : Int32).toInt64)) np_M_thrown (Nat.le_of_ble_eq_true rfl) (Nat.le_of_ble_eq_true rfl) (fun post2 kq => c_M_thrown (by rw [show N'.1 0 = 0 from cR_of (fun Q => Q.1 0) (fun _ => rfl) hN]; exact kq)) rfl ?_
      refine G_iload 1 d_L_law_648 rfl ?_
      refine G_iceq 655 d_L_law_650 (by decide) (fun _ => ?_) (fun h => absurd h (by decide))
      refine G_iload 1 d_L_law_655 rfl ?_
      refine G_ifne 679 d_L_law_657 (by decide) (fun h => absurd h (by decide)) (fun _ => ?_)
      refine G_aload_n 6 d_L_law_660 rfl ?_
      refine G_iconst (v := nI 0) d_L_law_661 (by decide) ?_
      refine G_lalN d_L_law_662 (ar_63 KK (N') (vp_updL o 0 (1 : Int32).toInt64)) (by decide) (by omega) ?_
      rw [pk_uLs]
      refine G_iload 0 d_L_law_663 rfl ?_
      refine G_ifeq 672 d_L_law_665 (by decide) (fun h => absurd h (by decide)) (fun _ => ?_)
      refine G_lconst (v := 1) d_L_law_668 (by decide) ?_
      refine G_goto 673 d_L_law_669 (by decide) ?_
      refine G_lcmp d_L_law_673 ?_
      refine G_ifeq 679 d_L_law_674 (by decide) (fun h674 => ?_) (fun h674 => False.elim (h674 (by decide)))
      refine G_goto 845 d_L_law_679 (by decide) ?_
      exact G_sub [2, 3, 4, 5, 6] rfl (k _ _ _ _ _ _ _ (by omega) (by omega) (N_IM hN hI) (N_RK hN hI hRK))
  · refine G_istore (ls' := [(5, .int 1), (4, .int (nI i)), (0, .ref 1000000), (1, .ref 0), (2, .ref 38), (3, .ref 63)]) d_L_law_624 (by decide) rfl ?_
    refine G_aload_n 4 d_L_law_626 rfl ?_
    refine G_aload_n 2 d_L_law_627 rfl ?_
    refine G_iload 1 d_L_law_628 rfl ?_
    refine G_iconst (v := nI 1) d_L_law_630 (by decide) ?_
    refine G_iadd d_L_law_631 ?_
    rw [nI_add]
    refine G_sldN d_L_law_632 (by omega) (by omega) ?_
    rw [e1]
    refine G_aload_n 2 d_L_law_633 rfl ?_
    refine G_iload 1 d_L_law_634 rfl ?_
    refine G_iconst (v := nI 2) d_L_law_636 (by decide) ?_
    refine G_iadd d_L_law_637 ?_
    rw [nI_add]
    refine G_sldN d_L_law_638 (by omega) (by omega) ?_
    rw [e2]
    refine G_cv1 (some (.int (0))) (hp K (mi M 0 1) o, nc + 1, ns + 6) (As := [.int x1, .int x2]) d_L_law_639 cv_L_99 cw_M_covers (ob_M K M o) np_M_covers (Nat.le_of_ble_eq_true rfl) (Nat.le_of_ble_eq_true rfl) (fun post2 kq => c_M_covers (d := d + 84) x1 x2 hI.1 hI.2.1 hI.2.2.1 (fun _ => kq) (fun p2 q2 b1 b2 b3 b4 b5 N' hc hR => absurd (aL_pq hI b1 b2 b3 b4 b5) h9) (fun p2 q2 b1 b2 b3 b4 b5 N' hc hR => absurd (aL_pq hI b1 b2 b3 b4 b5) h9)) rfl ?_
    refine G_istore (ls' := [(6, .int 0), (5, .int 1), (4, .int (nI i)), (0, .ref 1000000), (1, .ref 0), (2, .ref 38), (3, .ref 63)]) d_L_law_642 (by decide) rfl ?_
    refine G_aload_n 5 d_L_law_644 rfl ?_
    refine G_cv1 (some (.int 1)) (hp K (mi M 0 1) o, nc + 1, ns + 6) (As := []) d_L_law_645 cv_L_63 cw_M_thrown (ob_M K (mi M 0 1) o) np_M_thrown (Nat.le_of_ble_eq_true rfl) (Nat.le_of_ble_eq_true rfl) (fun post2 kq => c_M_thrown kq) rfl ?_
    refine G_iload 1 d_L_law_648 rfl ?_
    refine G_iceq 655 d_L_law_650 (by decide) (fun _ => ?_) (fun h => absurd h (by decide))
    refine G_iload 1 d_L_law_655 rfl ?_
    refine G_ifne 679 d_L_law_657 (by decide) (fun _ => ?_) (fun h => absurd h (by decide))
    refine G_goto 845 d_L_law_679 (by decide) ?_
    exact G_sub [2, 3, 4, 5, 6] rfl (k _ _ _ _ _ _ _ (by omega) (by omega) (cz_IM (cz_m0 M 1) hI) (cz_RK (cz_m0 M 1) hI hK))
set_option maxHeartbeats 1000000 in
set_option maxRecDepth 100000 in
theorem w_meets {K : KC} {M : MC} {o : Nat → Int64} {nc ns : Nat} {d L i cs kk : Nat} {xs : Nat → Int32} {post : mj_O → mj_H → Prop} (hI : IM M cs kk) (hK : RK K M cs kk) (hr1 : nc + 1 ≤ 601024) (hr2 : ns + 6 ≤ 7293034) (hi : i + 5 ≤ L) (hL : L ≤ 2560) (k : ∀ (K' : KC) (M' : MC) (o' : Nat → Int64) (nc' ns' cs' kk' : Nat), nc' ≤ nc + 1 → ns' ≤ ns + 6 → IM M' cs' kk' → RK K' M' cs' kk' → mj_G y_L_law b_L_law 7 (some .boolean) [] (d + 100) (some (L, xs)) 845 [(4, .int (nI i)), (0, .ref 1000000), (1, .ref 0), (2, .ref 38), (3, .ref 63)] [] (hp K' M' o', nc', ns') post) : mj_G y_L_law b_L_law 7 (some .boolean) [] (d + 100) (some (L, xs)) 682 [(4, .int (nI i)), (0, .ref 1000000), (1, .ref 0), (2, .ref 38), (3, .ref 63)] [] (hp K M o, nc, ns) post := by
  obtain ⟨x1, e1⟩ : ∃ z, xs (i + 1) = z := ⟨_, rfl⟩
  obtain ⟨x2, e2⟩ : ∃ z, xs (i + 2) = z := ⟨_, rfl⟩
  have q200 := hI.2.2.1.2.1
  refine G_aload_n 2 d_L_law_682 rfl ?_
  refine G_aload_n 1 d_L_law_683 rfl ?_
  refine G_iload 0 d_L_law_684 rfl ?_
  refine G_iconst (v := nI 1) d_L_law_686 (by decide) ?_
  refine G_iadd d_L_law_687 ?_
  rw [nI_add]
  refine G_sldN d_L_law_688 (by omega) (by omega) ?_
  rw [e1]
  refine G_aload_n 1 d_L_law_689 rfl ?_
  refine G_iload 0 d_L_law_690 rfl ?_
  refine G_iconst (v := nI 2) d_L_law_692 (by decide) ?_
  refine G_iadd d_L_law_693 ?_
  rw [nI_add]
  refine G_sldN d_L_law_694 (by omega) (by omega) ?_
  rw [e2]
  refine G_aload_n 4 d_L_law_695 rfl ?_
  refine G_csp (fun a9 A9 => (∃ (v : Int32) (KK : KC), a9 = some (.int 0) ∧ A9 = (hp KK M (vp_updL o 0 v.toInt64), nc, ns) ∧ (RK KK M cs kk ∧ ∃ p q, p < mP M ∧ q < mP M ∧ x1 = nI p ∧ x2 = nI q ∧ ps M p = ps M q ∧ ((v = 1 ∧ (MEETQ (mi M 0 0) p q)) ∨ (v = 0 ∧ ¬ (MEETQ (mi M 0 0) p q))))) ∨ (a9 = some (.int 1) ∧ A9 = (hp K M o, nc + 1, ns + 6) ∧ (¬ aL M x1 x2))) (As := [.ref 0, .int x1, .int x2, .ref 63]) d_L_law_696 cs_L_100 cw_L_meets np_L_meets (Nat.le_of_ble_eq_true rfl) (Nat.le_of_ble_eq_true rfl) (fun post2 kq => c_L_meets (d := d + 98) x1 x2 (fun v KK => RK KK M cs kk ∧ ∃ p q, p < mP M ∧ q < mP M ∧ x1 = nI p ∧ x2 = nI q ∧ ps M p = ps M q ∧ ((v = 1 ∧ (MEETQ (mi M 0 0) p q)) ∨ (v = 0 ∧ ¬ (MEETQ (mi M 0 0) p q)))) (fun C => (C = 0 ∧ (¬ aL M x1 x2))) (fun post3 k1 k2 => c_C_meets (R := mi M 0 0) (d := d + 52) x1 x2 (m0_IM hI) (m0_RK hI hK) hr1 hr2 (fun z => k2 0 ⟨rfl, z⟩) (fun p q a1 a2 a3 a4 a5 KB a6 a7 => k1 1 KB ⟨RK_m0 hI a6, p, q, a1, a2, a3, a4, a5, Or.inl ⟨rfl, a7⟩⟩) (fun p q a1 a2 a3 a4 a5 KB a6 a7 => k1 0 KB ⟨RK_m0 hI a6, p, q, a1, a2, a3, a4, a5, Or.inr ⟨rfl, a7⟩⟩)) (fun C h => h.1) (fun v KK h => by obtain ⟨-, p, q, -, -, -, -, -, h⟩ := h; exact h.elim (fun z => Or.inl z.1) (fun z => Or.inr z.1)) (fun v KK h => kq _ _ (Or.inl ⟨v, KK, rfl, rfl, h⟩)) (fun h => kq _ _ (Or.inr (⟨rfl, rfl, h.2⟩)))) (fun a9 A9 h9 => by rcases h9 with ⟨v, KK, -, rfl, -⟩ | ⟨-, rfl, -⟩ <;> rfl) (fun a9 A9 h9 => ?_)
  rcases h9 with ⟨v, KK, rfl, rfl, h9⟩ | ⟨rfl, rfl, h9⟩
  · obtain ⟨hRK, p, q, a1, a2, a3, a4, a5, ⟨rfl, hq⟩ | ⟨rfl, hq⟩⟩ := h9
    · refine G_istore (ls' := [(5, .int 0), (4, .int (nI i)), (0, .ref 1000000), (1, .ref 0), (2, .ref 38), (3, .ref 63)]) d_L_law_699 (by decide) rfl ?_
      refine G_aload_n 4 d_L_law_701 rfl ?_
      refine G_aload_n 2 d_L_law_702 rfl ?_
      refine G_iload 1 d_L_law_703 rfl ?_
      refine G_iconst (v := nI 1) d_L_law_705 (by decide) ?_
      refine G_iadd d_L_law_706 ?_
      rw [nI_add]
      refine G_sldN d_L_law_707 (by omega) (by omega) ?_
      rw [e1]
      refine G_aload_n 2 d_L_law_708 rfl ?_
      refine G_iload 1 d_L_law_709 rfl ?_
      refine G_iconst (v := nI 2) d_L_law_711 (by decide) ?_
      refine G_iadd d_L_law_712 ?_
      rw [nI_add]
      refine G_sldN d_L_law_713 (by omega) (by omega) ?_
      rw [e2]
      refine G_cvp (fun a9 A9 => ∃ N' : MC, a9 = some (.int (1)) ∧ A9 = (hp KK N' (vp_updL o 0 (1 : Int32).toInt64), nc, ns) ∧ (coR N' = coR (mi M 0 0))) (As := [.int x1, .int x2]) d_L_law_714 cv_L_102 cw_M_meets (ob_M KK M (vp_updL o 0 (1 : Int32).toInt64)) np_M_meets (Nat.le_of_ble_eq_true rfl) (Nat.le_of_ble_eq_true rfl) (fun post2 kq => c_M_meets (d := d + 84) x1 x2 hI.1 hI.2.1 hI.2.2.1 (fun z => absurd (aL_pq hI a1 a2 a3 a4 a5) z) (fun p2 q2 b1 b2 b3 b4 b5 N' hc hR => by obtain rfl : p2 = p := (nI_eq (by omega) (by omega)).mp (b3.symm.trans a3); obtain rfl : q2 = q := (nI_eq (by omega) (by omega)).mp (b4.symm.trans a4); exact kq _ _ ⟨N', rfl, rfl, hc⟩) (fun p2 q2 b1 b2 b3 b4 b5 N' hc hR => by obtain rfl : p2 = p := (nI_eq (by omega) (by omega)).mp (b3.symm.trans a3); obtain rfl : q2 = q := (nI_eq (by omega) (by omega)).mp (b4.symm.trans a4); exact absurd hq hR)) (fun a9 A9 h9 => by obtain ⟨N9, -, rfl, -⟩ := h9; rfl) (fun a9 A9 h9 => ?_)
      obtain ⟨N', rfl, rfl, hN⟩ := h9
      refine G_istore (ls' := [(6, .int 1), (5, .int 0), (4, .int (nI i)), (0, .ref 1000000), (1, .ref 0), (2, .ref 38), (3, .ref 63)]) d_L_law_717 (by decide) rfl ?_
      refine G_aload_n 5 d_L_law_719 rfl ?_
      refine G_cv1 (some (.int 0)) (hp KK (N') (vp_updL o 0 (1 : Int32).toInt64), nc, ns) (As := []) d_L_law_720 cv_L_63 cw_M_thrown (ob_M KK (N') (vp_updL o 0 (1 : Int32).toInt64)) np_M_thrown (Nat.le_of_ble_eq_true rfl) (Nat.le_of_ble_eq_true rfl) (fun post2 kq => c_M_thrown (by rw [show N'.1 0 = 0 from cR_of (fun Q => Q.1 0) (fun _ => rfl) hN]; exact kq)) rfl ?_
      refine G_iload 1 d_L_law_723 rfl ?_
      refine G_iceq 730 d_L_law_725 (by decide) (fun _ => ?_) (fun h => absurd h (by decide))
      refine G_iload 1 d_L_law_730 rfl ?_
      refine G_ifne 754 d_L_law_732 (by decide) (fun h => absurd h (by decide)) (fun _ => ?_)
      refine G_aload_n 6 d_L_law_735 rfl ?_
      refine G_iconst (v := nI 0) d_L_law_736 (by decide) ?_
      refine G_lalN d_L_law_737 (ar_63 KK (N') (vp_updL o 0 (1 : Int32).toInt64)) (by decide) (by omega) ?_
      rw [pk_uLs]
      refine G_iload 0 d_L_law_738 rfl ?_
      refine G_ifeq 747 d_L_law_740 (by decide) (fun h => absurd h (by decide)) (fun _ => ?_)
      refine G_lconst (v := 1) d_L_law_743 (by decide) ?_
      refine G_goto 748 d_L_law_744 (by decide) ?_
      refine G_lcmp d_L_law_748 ?_
      refine G_ifeq 754 d_L_law_749 (by decide) (fun h749 => ?_) (fun h749 => False.elim (h749 (by decide)))
      refine G_goto 845 d_L_law_754 (by decide) ?_
      exact G_sub [2, 3, 4, 5, 6] rfl (k _ _ _ _ _ _ _ (by omega) (by omega) (N_IM hN hI) (N_RK hN hI hRK))
    · refine G_istore (ls' := [(5, .int 0), (4, .int (nI i)), (0, .ref 1000000), (1, .ref 0), (2, .ref 38), (3, .ref 63)]) d_L_law_699 (by decide) rfl ?_
      refine G_aload_n 4 d_L_law_701 rfl ?_
      refine G_aload_n 2 d_L_law_702 rfl ?_
      refine G_iload 1 d_L_law_703 rfl ?_
      refine G_iconst (v := nI 1) d_L_law_705 (by decide) ?_
      refine G_iadd d_L_law_706 ?_
      rw [nI_add]
      refine G_sldN d_L_law_707 (by omega) (by omega) ?_
      rw [e1]
      refine G_aload_n 2 d_L_law_708 rfl ?_
      refine G_iload 1 d_L_law_709 rfl ?_
      refine G_iconst (v := nI 2) d_L_law_711 (by decide) ?_
      refine G_iadd d_L_law_712 ?_
      rw [nI_add]
      refine G_sldN d_L_law_713 (by omega) (by omega) ?_
      rw [e2]
      refine G_cvp (fun a9 A9 => ∃ N' : MC, a9 = some (.int (0)) ∧ A9 = (hp KK N' (vp_updL o 0 (0 : Int32).toInt64), nc, ns) ∧ (coR N' = coR (mi M 0 0))) (As := [.int x1, .int x2]) d_L_law_714 cv_L_102 cw_M_meets (ob_M KK M (vp_updL o 0 (0 : Int32).toInt64)) np_M_meets (Nat.le_of_ble_eq_true rfl) (Nat.le_of_ble_eq_true rfl) (fun post2 kq => c_M_meets (d := d + 84) x1 x2 hI.1 hI.2.1 hI.2.2.1 (fun z => absurd (aL_pq hI a1 a2 a3 a4 a5) z) (fun p2 q2 b1 b2 b3 b4 b5 N' hc hR => by obtain rfl : p2 = p := (nI_eq (by omega) (by omega)).mp (b3.symm.trans a3); obtain rfl : q2 = q := (nI_eq (by omega) (by omega)).mp (b4.symm.trans a4); exact absurd hR hq) (fun p2 q2 b1 b2 b3 b4 b5 N' hc hR => by obtain rfl : p2 = p := (nI_eq (by omega) (by omega)).mp (b3.symm.trans a3); obtain rfl : q2 = q := (nI_eq (by omega) (by omega)).mp (b4.symm.trans a4); exact kq _ _ ⟨N', rfl, rfl, hc⟩)) (fun a9 A9 h9 => by obtain ⟨N9, -, rfl, -⟩ := h9; rfl) (fun a9 A9 h9 => ?_)
      obtain ⟨N', rfl, rfl, hN⟩ := h9
      refine G_istore (ls' := [(6, .int 0), (5, .int 0), (4, .int (nI i)), (0, .ref 1000000), (1, .ref 0), (2, .ref 38), (3, .ref 63)]) d_L_law_717 (by decide) rfl ?_
      refine G_aload_n 5 d_L_law_719 rfl ?_
      refine G_cv1 (some (.int 0)) (hp KK (N') (vp_updL o 0 (0 : Int32).toInt64), nc, ns) (As := []) d_L_law_720 cv_L_63 cw_M_thrown (ob_M KK (N') (vp_updL o 0 (0 : Int32).toInt64)) np_M_thrown (Nat.le_of_ble_eq_true rfl) (Nat.le_of_ble_eq_true rfl) (fun post2 kq => c_M_thrown (by rw [show N'.1 0 = 0 from cR_of (fun Q => Q.1 0) (fun _ => rfl) hN]; exact kq)) rfl ?_
      refine G_iload 1 d_L_law_723 rfl ?_
      refine G_iceq 730 d_L_law_725 (by decide) (fun _ => ?_) (fun h => absurd h (by decide))
      refine G_iload 1 d_L_law_730 rfl ?_
      refine G_ifne 754 d_L_law_732 (by decide) (fun h => absurd h (by decide)) (fun _ => ?_)
      refine G_aload_n 6 d_L_law_735 rfl ?_
      refine G_iconst (v := nI 0) d_L_law_736 (by decide) ?_
      refine G_lalN d_L_law_737 (ar_63 KK (N') (vp_updL o 0 (0 : Int32).toInt64)) (by decide) (by omega) ?_
      rw [pk_uLs]
      refine G_iload 0 d_L_law_738 rfl ?_
      refine G_ifeq 747 d_L_law_740 (by decide) (fun _ => ?_) (fun h => absurd h (by decide))
      refine G_lconst (v := 0) d_L_law_747 (by decide) ?_
      refine G_lcmp d_L_law_748 ?_
      refine G_ifeq 754 d_L_law_749 (by decide) (fun h749 => ?_) (fun h749 => False.elim (h749 (by decide)))
      refine G_goto 845 d_L_law_754 (by decide) ?_
      exact G_sub [2, 3, 4, 5, 6] rfl (k _ _ _ _ _ _ _ (by omega) (by omega) (N_IM hN hI) (N_RK hN hI hRK))
  · refine G_istore (ls' := [(5, .int 1), (4, .int (nI i)), (0, .ref 1000000), (1, .ref 0), (2, .ref 38), (3, .ref 63)]) d_L_law_699 (by decide) rfl ?_
    refine G_aload_n 4 d_L_law_701 rfl ?_
    refine G_aload_n 2 d_L_law_702 rfl ?_
    refine G_iload 1 d_L_law_703 rfl ?_
    refine G_iconst (v := nI 1) d_L_law_705 (by decide) ?_
    refine G_iadd d_L_law_706 ?_
    rw [nI_add]
    refine G_sldN d_L_law_707 (by omega) (by omega) ?_
    rw [e1]
    refine G_aload_n 2 d_L_law_708 rfl ?_
    refine G_iload 1 d_L_law_709 rfl ?_
    refine G_iconst (v := nI 2) d_L_law_711 (by decide) ?_
    refine G_iadd d_L_law_712 ?_
    rw [nI_add]
    refine G_sldN d_L_law_713 (by omega) (by omega) ?_
    rw [e2]
    refine G_cv1 (some (.int (0))) (hp K (mi M 0 1) o, nc + 1, ns + 6) (As := [.int x1, .int x2]) d_L_law_714 cv_L_102 cw_M_meets (ob_M K M o) np_M_meets (Nat.le_of_ble_eq_true rfl) (Nat.le_of_ble_eq_true rfl) (fun post2 kq => c_M_meets (d := d + 84) x1 x2 hI.1 hI.2.1 hI.2.2.1 (fun _ => kq) (fun p2 q2 b1 b2 b3 b4 b5 N' hc hR => absurd (aL_pq hI b1 b2 b3 b4 b5) h9) (fun p2 q2 b1 b2 b3 b4 b5 N' hc hR => absurd (aL_pq hI b1 b2 b3 b4 b5) h9)) rfl ?_
    refine G_istore (ls' := [(6, .int 0), (5, .int 1), (4, .int (nI i)), (0, .ref 1000000), (1, .ref 0), (2, .ref 38), (3, .ref 63)]) d_L_law_717 (by decide) rfl ?_
    refine G_aload_n 5 d_L_law_719 rfl ?_
    refine G_cv1 (some (.int 1)) (hp K (mi M 0 1) o, nc + 1, ns + 6) (As := []) d_L_law_720 cv_L_63 cw_M_thrown (ob_M K (mi M 0 1) o) np_M_thrown (Nat.le_of_ble_eq_true rfl) (Nat.le_of_ble_eq_true rfl) (fun post2 kq => c_M_thrown kq) rfl ?_
    refine G_iload 1 d_L_law_723 rfl ?_
    refine G_iceq 730 d_L_law_725 (by decide) (fun _ => ?_) (fun h => absurd h (by decide))
    refine G_iload 1 d_L_law_730 rfl ?_
    refine G_ifne 754 d_L_law_732 (by decide) (fun _ => ?_) (fun h => absurd h (by decide))
    refine G_goto 845 d_L_law_754 (by decide) ?_
    exact G_sub [2, 3, 4, 5, 6] rfl (k _ _ _ _ _ _ _ (by omega) (by omega) (cz_IM (cz_m0 M 1) hI) (cz_RK (cz_m0 M 1) hI hK))
set_option maxHeartbeats 1000000 in
set_option maxRecDepth 100000 in
theorem w_open {K : KC} {M : MC} {o : Nat → Int64} {nc ns : Nat} {d L i cs kk : Nat} {xs : Nat → Int32} {post : mj_O → mj_H → Prop} (hI : IM M cs kk) (hK : RK K M cs kk) (hr1 : nc + 1 ≤ 601024) (hr2 : ns + 6 ≤ 7293034) (hi : i + 5 ≤ L) (hL : L ≤ 2560) (k : ∀ (K' : KC) (M' : MC) (o' : Nat → Int64) (nc' ns' cs' kk' : Nat), nc' ≤ nc + 1 → ns' ≤ ns + 6 → IM M' cs' kk' → RK K' M' cs' kk' → mj_G y_L_law b_L_law 7 (some .boolean) [] (d + 100) (some (L, xs)) 845 [(4, .int (nI i)), (0, .ref 1000000), (1, .ref 0), (2, .ref 38), (3, .ref 63)] [] (hp K' M' o', nc', ns') post) : mj_G y_L_law b_L_law 7 (some .boolean) [] (d + 100) (some (L, xs)) 594 [(4, .int (nI i)), (0, .ref 1000000), (1, .ref 0), (2, .ref 38), (3, .ref 63)] [] (hp K M o, nc, ns) post := by
  refine G_aload_n 2 d_L_law_594 rfl ?_
  refine G_cvB (OPENS (mi M 0 0) cs kk) (As := []) d_L_law_595 cv_L_91 cw_C_open (ob_C K M o) np_C_open (Nat.le_of_ble_eq_true rfl) (Nat.le_of_ble_eq_true rfl) (fun post2 k1 k0 => c_C_open (R := mi M 0 0) (d := d + 54) (m0_IM hI) (m0_RK hI hK) k1 k0) (fun u595 => ?_) (fun u595 => ?_)
  · refine G_aload_n 3 d_L_law_598 rfl ?_
    refine G_cvp (fun a9 A9 => ∃ N' : MC, a9 = some (.int (1)) ∧ A9 = (hp K N' o, nc, ns) ∧ (coR N' = coR (mi M 0 0))) (As := []) d_L_law_599 cv_L_95 cw_M_open (ob_M K M o) np_M_open (Nat.le_of_ble_eq_true rfl) (Nat.le_of_ble_eq_true rfl) (fun post2 kq => c_M_open (d := d + 84) hI.1 hI.2.1 hI.2.2.1 hI.2.2.2 (fun N' hc hR => kq _ _ ⟨N', rfl, rfl, hc⟩) (fun N' hc hR => absurd u595 hR)) (fun a9 A9 h9 => by obtain ⟨N9, -, rfl, -⟩ := h9; rfl) (fun a9 A9 h9 => ?_)
    obtain ⟨N', rfl, rfl, hN⟩ := h9
    refine G_iceq 845 d_L_law_602 (by decide) (fun _ => ?_) (fun h => absurd h (by decide))
    exact G_sub [0, 1, 2, 3, 4] rfl (k _ _ _ _ _ _ _ (by omega) (by omega) (N_IM hN hI) (N_RK hN hI hK))
  · refine G_aload_n 3 d_L_law_598 rfl ?_
    refine G_cvp (fun a9 A9 => ∃ N' : MC, a9 = some (.int (0)) ∧ A9 = (hp K N' o, nc, ns) ∧ (coR N' = coR (mi M 0 0))) (As := []) d_L_law_599 cv_L_95 cw_M_open (ob_M K M o) np_M_open (Nat.le_of_ble_eq_true rfl) (Nat.le_of_ble_eq_true rfl) (fun post2 kq => c_M_open (d := d + 84) hI.1 hI.2.1 hI.2.2.1 hI.2.2.2 (fun N' hc hR => absurd hR u595) (fun N' hc hR => kq _ _ ⟨N', rfl, rfl, hc⟩)) (fun a9 A9 h9 => by obtain ⟨N9, -, rfl, -⟩ := h9; rfl) (fun a9 A9 h9 => ?_)
    obtain ⟨N', rfl, rfl, hN⟩ := h9
    refine G_iceq 845 d_L_law_602 (by decide) (fun _ => ?_) (fun h => absurd h (by decide))
    exact G_sub [0, 1, 2, 3, 4] rfl (k _ _ _ _ _ _ _ (by omega) (by omega) (N_IM hN hI) (N_RK hN hI hK))
set_option maxHeartbeats 1000000 in
set_option maxRecDepth 100000 in
theorem w_count0 {K : KC} {M : MC} {o : Nat → Int64} {nc ns : Nat} {d L i cs kk : Nat} {xs : Nat → Int32} {post : mj_O → mj_H → Prop} (hI : IM M cs kk) (hK : RK K M cs kk) (hr1 : nc + 1 ≤ 601024) (hr2 : ns + 6 ≤ 7293034) (hi : i + 5 ≤ L) (hL : L ≤ 2560) (e1 : xs (i + 1) = nI 0) (k : ∀ (K' : KC) (M' : MC) (o' : Nat → Int64) (nc' ns' cs' kk' : Nat), nc' ≤ nc + 1 → ns' ≤ ns + 6 → IM M' cs' kk' → RK K' M' cs' kk' → mj_G y_L_law b_L_law 7 (some .boolean) [] (d + 100) (some (L, xs)) 845 [(4, .int (nI i)), (0, .ref 1000000), (1, .ref 0), (2, .ref 38), (3, .ref 63)] [] (hp K' M' o', nc', ns') post) : mj_G y_L_law b_L_law 7 (some .boolean) [] (d + 100) (some (L, xs)) 820 [(4, .int (nI i)), (0, .ref 1000000), (1, .ref 0), (2, .ref 38), (3, .ref 63)] [] (hp K M o, nc, ns) post := by
  refine G_aload_n 2 d_L_law_820 rfl ?_
  refine G_aload_n 1 d_L_law_821 rfl ?_
  refine G_iload 0 d_L_law_822 rfl ?_
  refine G_iconst (v := nI 1) d_L_law_824 (by decide) ?_
  refine G_iadd d_L_law_825 ?_
  rw [nI_add]
  refine G_sldN d_L_law_826 (by omega) (by omega) ?_
  rw [e1]
  refine G_cv1 (some (.int (nI (mS M)))) (hp K M o, nc, ns) (As := [.int (nI 0)]) d_L_law_827 cv_L_106 cw_C_count (ob_C K M o) np_C_count (Nat.le_of_ble_eq_true rfl) (Nat.le_of_ble_eq_true rfl) (fun post2 k2 => c_C_count0 (R := M) (d := d + 53) hI hK k2) rfl ?_
  refine G_aload_n 3 d_L_law_830 rfl ?_
  refine G_aload_n 1 d_L_law_831 rfl ?_
  refine G_iload 0 d_L_law_832 rfl ?_
  refine G_iconst (v := nI 1) d_L_law_834 (by decide) ?_
  refine G_iadd d_L_law_835 ?_
  rw [nI_add]
  refine G_sldN d_L_law_836 (by omega) (by omega) ?_
  rw [e1]
  refine G_cv1 (some (.int (nI (mS M)))) (hp K (mi M 0 0) o, nc, ns) (As := [.int (nI 0)]) d_L_law_837 cv_L_109 cw_M_count (ob_M K M o) np_M_count (Nat.le_of_ble_eq_true rfl) (Nat.le_of_ble_eq_true rfl) (fun post2 kq => c_M_count0 hI.1 hI.2.1 hI.2.2.1 hI.2.2.2 kq) rfl ?_
  refine G_iceq 845 d_L_law_840 (by decide) (fun h840 => ?_) (fun h840 => False.elim (h840 rfl))
  exact G_sub [0, 1, 2, 3, 4] rfl (k _ _ _ _ _ _ _ (by omega) (by omega) (cz_IM (cz_m0 M 0) hI) (cz_RK (cz_m0 M 0) hI hK))
set_option maxHeartbeats 1000000 in
set_option maxRecDepth 100000 in
theorem w_count1 {K : KC} {M : MC} {o : Nat → Int64} {nc ns : Nat} {d L i cs kk : Nat} {xs : Nat → Int32} {post : mj_O → mj_H → Prop} (hI : IM M cs kk) (hK : RK K M cs kk) (hr1 : nc + 1 ≤ 601024) (hr2 : ns + 6 ≤ 7293034) (hi : i + 5 ≤ L) (hL : L ≤ 2560) (e1 : xs (i + 1) = nI 1) (k : ∀ (K' : KC) (M' : MC) (o' : Nat → Int64) (nc' ns' cs' kk' : Nat), nc' ≤ nc + 1 → ns' ≤ ns + 6 → IM M' cs' kk' → RK K' M' cs' kk' → mj_G y_L_law b_L_law 7 (some .boolean) [] (d + 100) (some (L, xs)) 845 [(4, .int (nI i)), (0, .ref 1000000), (1, .ref 0), (2, .ref 38), (3, .ref 63)] [] (hp K' M' o', nc', ns') post) : mj_G y_L_law b_L_law 7 (some .boolean) [] (d + 100) (some (L, xs)) 820 [(4, .int (nI i)), (0, .ref 1000000), (1, .ref 0), (2, .ref 38), (3, .ref 63)] [] (hp K M o, nc, ns) post := by
  refine G_aload_n 2 d_L_law_820 rfl ?_
  refine G_aload_n 1 d_L_law_821 rfl ?_
  refine G_iload 0 d_L_law_822 rfl ?_
  refine G_iconst (v := nI 1) d_L_law_824 (by decide) ?_
  refine G_iadd d_L_law_825 ?_
  rw [nI_add]
  refine G_sldN d_L_law_826 (by omega) (by omega) ?_
  rw [e1]
  refine G_cv1 (some (.int (nI (mC M)))) (hp K M o, nc, ns) (As := [.int (nI 1)]) d_L_law_827 cv_L_106 cw_C_count (ob_C K M o) np_C_count (Nat.le_of_ble_eq_true rfl) (Nat.le_of_ble_eq_true rfl) (fun post2 k2 => c_C_count1 (R := M) (d := d + 53) hI hK k2) rfl ?_
  refine G_aload_n 3 d_L_law_830 rfl ?_
  refine G_aload_n 1 d_L_law_831 rfl ?_
  refine G_iload 0 d_L_law_832 rfl ?_
  refine G_iconst (v := nI 1) d_L_law_834 (by decide) ?_
  refine G_iadd d_L_law_835 ?_
  rw [nI_add]
  refine G_sldN d_L_law_836 (by omega) (by omega) ?_
  rw [e1]
  refine G_cv1 (some (.int (nI (mC M)))) (hp K (mi M 0 0) o, nc, ns) (As := [.int (nI 1)]) d_L_law_837 cv_L_109 cw_M_count (ob_M K M o) np_M_count (Nat.le_of_ble_eq_true rfl) (Nat.le_of_ble_eq_true rfl) (fun post2 kq => c_M_count1 hI.1 hI.2.1 hI.2.2.1 hI.2.2.2 kq) rfl ?_
  refine G_iceq 845 d_L_law_840 (by decide) (fun h840 => ?_) (fun h840 => False.elim (h840 rfl))
  exact G_sub [0, 1, 2, 3, 4] rfl (k _ _ _ _ _ _ _ (by omega) (by omega) (cz_IM (cz_m0 M 0) hI) (cz_RK (cz_m0 M 0) hI hK))
set_option maxHeartbeats 1000000 in
set_option maxRecDepth 100000 in
theorem w_count2 {K : KC} {M : MC} {o : Nat → Int64} {nc ns : Nat} {d L i cs kk : Nat} {xs : Nat → Int32} {post : mj_O → mj_H → Prop} (hI : IM M cs kk) (hK : RK K M cs kk) (hr1 : nc + 1 ≤ 601024) (hr2 : ns + 6 ≤ 7293034) (hi : i + 5 ≤ L) (hL : L ≤ 2560) (e1 : xs (i + 1) = nI 2) (k : ∀ (K' : KC) (M' : MC) (o' : Nat → Int64) (nc' ns' cs' kk' : Nat), nc' ≤ nc + 1 → ns' ≤ ns + 6 → IM M' cs' kk' → RK K' M' cs' kk' → mj_G y_L_law b_L_law 7 (some .boolean) [] (d + 100) (some (L, xs)) 845 [(4, .int (nI i)), (0, .ref 1000000), (1, .ref 0), (2, .ref 38), (3, .ref 63)] [] (hp K' M' o', nc', ns') post) : mj_G y_L_law b_L_law 7 (some .boolean) [] (d + 100) (some (L, xs)) 820 [(4, .int (nI i)), (0, .ref 1000000), (1, .ref 0), (2, .ref 38), (3, .ref 63)] [] (hp K M o, nc, ns) post := by
  refine G_aload_n 2 d_L_law_820 rfl ?_
  refine G_aload_n 1 d_L_law_821 rfl ?_
  refine G_iload 0 d_L_law_822 rfl ?_
  refine G_iconst (v := nI 1) d_L_law_824 (by decide) ?_
  refine G_iadd d_L_law_825 ?_
  rw [nI_add]
  refine G_sldN d_L_law_826 (by omega) (by omega) ?_
  rw [e1]
  refine G_cv1 (some (.int (nI (mP M)))) (hp K M o, nc, ns) (As := [.int (nI 2)]) d_L_law_827 cv_L_106 cw_C_count (ob_C K M o) np_C_count (Nat.le_of_ble_eq_true rfl) (Nat.le_of_ble_eq_true rfl) (fun post2 k2 => c_C_count2 (R := M) (d := d + 53) hI hK k2) rfl ?_
  refine G_aload_n 3 d_L_law_830 rfl ?_
  refine G_aload_n 1 d_L_law_831 rfl ?_
  refine G_iload 0 d_L_law_832 rfl ?_
  refine G_iconst (v := nI 1) d_L_law_834 (by decide) ?_
  refine G_iadd d_L_law_835 ?_
  rw [nI_add]
  refine G_sldN d_L_law_836 (by omega) (by omega) ?_
  rw [e1]
  refine G_cv1 (some (.int (nI (mP M)))) (hp K (mi M 0 0) o, nc, ns) (As := [.int (nI 2)]) d_L_law_837 cv_L_109 cw_M_count (ob_M K M o) np_M_count (Nat.le_of_ble_eq_true rfl) (Nat.le_of_ble_eq_true rfl) (fun post2 kq => c_M_count2 hI.1 hI.2.1 hI.2.2.1 hI.2.2.2 kq) rfl ?_
  refine G_iceq 845 d_L_law_840 (by decide) (fun h840 => ?_) (fun h840 => False.elim (h840 rfl))
  exact G_sub [0, 1, 2, 3, 4] rfl (k _ _ _ _ _ _ _ (by omega) (by omega) (cz_IM (cz_m0 M 0) hI) (cz_RK (cz_m0 M 0) hI hK))
set_option maxHeartbeats 1000000 in
set_option maxRecDepth 100000 in
theorem w_count3 {K : KC} {M : MC} {o : Nat → Int64} {nc ns : Nat} {d L i cs kk : Nat} {xs : Nat → Int32} {post : mj_O → mj_H → Prop} (hI : IM M cs kk) (hK : RK K M cs kk) (hr1 : nc + 1 ≤ 601024) (hr2 : ns + 6 ≤ 7293034) (hi : i + 5 ≤ L) (hL : L ≤ 2560) (e1 : xs (i + 1) = nI 3) (k : ∀ (K' : KC) (M' : MC) (o' : Nat → Int64) (nc' ns' cs' kk' : Nat), nc' ≤ nc + 1 → ns' ≤ ns + 6 → IM M' cs' kk' → RK K' M' cs' kk' → mj_G y_L_law b_L_law 7 (some .boolean) [] (d + 100) (some (L, xs)) 845 [(4, .int (nI i)), (0, .ref 1000000), (1, .ref 0), (2, .ref 38), (3, .ref 63)] [] (hp K' M' o', nc', ns') post) : mj_G y_L_law b_L_law 7 (some .boolean) [] (d + 100) (some (L, xs)) 820 [(4, .int (nI i)), (0, .ref 1000000), (1, .ref 0), (2, .ref 38), (3, .ref 63)] [] (hp K M o, nc, ns) post := by
  refine G_aload_n 2 d_L_law_820 rfl ?_
  refine G_aload_n 1 d_L_law_821 rfl ?_
  refine G_iload 0 d_L_law_822 rfl ?_
  refine G_iconst (v := nI 1) d_L_law_824 (by decide) ?_
  refine G_iadd d_L_law_825 ?_
  rw [nI_add]
  refine G_sldN d_L_law_826 (by omega) (by omega) ?_
  rw [e1]
  refine G_cv1 (some (.int (nI kk))) (hp K M o, nc, ns) (As := [.int (nI 3)]) d_L_law_827 cv_L_106 cw_C_count (ob_C K M o) np_C_count (Nat.le_of_ble_eq_true rfl) (Nat.le_of_ble_eq_true rfl) (fun post2 k2 => c_C_count3 (R := M) (d := d + 53) hI hK k2) rfl ?_
  refine G_aload_n 3 d_L_law_830 rfl ?_
  refine G_aload_n 1 d_L_law_831 rfl ?_
  refine G_iload 0 d_L_law_832 rfl ?_
  refine G_iconst (v := nI 1) d_L_law_834 (by decide) ?_
  refine G_iadd d_L_law_835 ?_
  rw [nI_add]
  refine G_sldN d_L_law_836 (by omega) (by omega) ?_
  rw [e1]
  refine G_cv1 (some (.int (nI kk))) (hp K (mi M 0 0) o, nc, ns) (As := [.int (nI 3)]) d_L_law_837 cv_L_109 cw_M_count (ob_M K M o) np_M_count (Nat.le_of_ble_eq_true rfl) (Nat.le_of_ble_eq_true rfl) (fun post2 kq => c_M_count3 hI.1 hI.2.1 hI.2.2.1 hI.2.2.2 kq) rfl ?_
  refine G_iceq 845 d_L_law_840 (by decide) (fun h840 => ?_) (fun h840 => False.elim (h840 rfl))
  exact G_sub [0, 1, 2, 3, 4] rfl (k _ _ _ _ _ _ _ (by omega) (by omega) (cz_IM (cz_m0 M 0) hI) (cz_RK (cz_m0 M 0) hI hK))
set_option maxHeartbeats 1000000 in
set_option maxRecDepth 100000 in
theorem w_count4 {K : KC} {M : MC} {o : Nat → Int64} {nc ns : Nat} {d L i cs kk : Nat} {xs : Nat → Int32} {post : mj_O → mj_H → Prop} (hI : IM M cs kk) (hK : RK K M cs kk) (hr1 : nc + 1 ≤ 601024) (hr2 : ns + 6 ≤ 7293034) (hi : i + 5 ≤ L) (hL : L ≤ 2560) (e1 : xs (i + 1) = nI 4) (k : ∀ (K' : KC) (M' : MC) (o' : Nat → Int64) (nc' ns' cs' kk' : Nat), nc' ≤ nc + 1 → ns' ≤ ns + 6 → IM M' cs' kk' → RK K' M' cs' kk' → mj_G y_L_law b_L_law 7 (some .boolean) [] (d + 100) (some (L, xs)) 845 [(4, .int (nI i)), (0, .ref 1000000), (1, .ref 0), (2, .ref 38), (3, .ref 63)] [] (hp K' M' o', nc', ns') post) : mj_G y_L_law b_L_law 7 (some .boolean) [] (d + 100) (some (L, xs)) 820 [(4, .int (nI i)), (0, .ref 1000000), (1, .ref 0), (2, .ref 38), (3, .ref 63)] [] (hp K M o, nc, ns) post := by
  refine G_aload_n 2 d_L_law_820 rfl ?_
  refine G_aload_n 1 d_L_law_821 rfl ?_
  refine G_iload 0 d_L_law_822 rfl ?_
  refine G_iconst (v := nI 1) d_L_law_824 (by decide) ?_
  refine G_iadd d_L_law_825 ?_
  rw [nI_add]
  refine G_sldN d_L_law_826 (by omega) (by omega) ?_
  rw [e1]
  refine G_cv1 (some (.int (nI (rcnt (REACH (mi M 0 0) cs) kk)))) (hp K M o, nc, ns) (As := [.int (nI 4)]) d_L_law_827 cv_L_106 cw_C_count (ob_C K M o) np_C_count (Nat.le_of_ble_eq_true rfl) (Nat.le_of_ble_eq_true rfl) (fun post2 k2 => c_C_count4 (R := mi M 0 0) (d := d + 53) (m0_IM hI) (m0_RK hI hK) k2) rfl ?_
  refine G_aload_n 3 d_L_law_830 rfl ?_
  refine G_aload_n 1 d_L_law_831 rfl ?_
  refine G_iload 0 d_L_law_832 rfl ?_
  refine G_iconst (v := nI 1) d_L_law_834 (by decide) ?_
  refine G_iadd d_L_law_835 ?_
  rw [nI_add]
  refine G_sldN d_L_law_836 (by omega) (by omega) ?_
  rw [e1]
  refine G_cvp (fun a9 A9 => ∃ N' : MC, a9 = some (.int (nI (rcnt (REACH (mi M 0 0) cs) kk))) ∧ A9 = (hp K N' o, nc, ns) ∧ (coR N' = coR (mi M 0 0))) (As := [.int (nI 4)]) d_L_law_837 cv_L_109 cw_M_count (ob_M K M o) np_M_count (Nat.le_of_ble_eq_true rfl) (Nat.le_of_ble_eq_true rfl) (fun post2 kq => c_M_count4 (d := d + 83) hI.1 hI.2.1 hI.2.2.1 hI.2.2.2 (fun N' hc => kq _ _ ⟨N', rfl, rfl, hc⟩)) (fun a9 A9 h9 => by obtain ⟨N9, -, rfl, -⟩ := h9; rfl) (fun a9 A9 h9 => ?_)
  obtain ⟨N', rfl, rfl, hN⟩ := h9
  refine G_iceq 845 d_L_law_840 (by decide) (fun h840 => ?_) (fun h840 => False.elim (h840 rfl))
  exact G_sub [0, 1, 2, 3, 4] rfl (k _ _ _ _ _ _ _ (by omega) (by omega) (N_IM hN hI) (N_RK hN hI hK))
set_option maxHeartbeats 1000000 in
set_option maxRecDepth 100000 in
theorem w_count5 {K : KC} {M : MC} {o : Nat → Int64} {nc ns : Nat} {d L i cs kk : Nat} {xs : Nat → Int32} {post : mj_O → mj_H → Prop} (hI : IM M cs kk) (hK : RK K M cs kk) (hr1 : nc + 1 ≤ 601024) (hr2 : ns + 6 ≤ 7293034) (hi : i + 5 ≤ L) (hL : L ≤ 2560) (e1 : xs (i + 1) = nI 5) (k : ∀ (K' : KC) (M' : MC) (o' : Nat → Int64) (nc' ns' cs' kk' : Nat), nc' ≤ nc + 1 → ns' ≤ ns + 6 → IM M' cs' kk' → RK K' M' cs' kk' → mj_G y_L_law b_L_law 7 (some .boolean) [] (d + 100) (some (L, xs)) 845 [(4, .int (nI i)), (0, .ref 1000000), (1, .ref 0), (2, .ref 38), (3, .ref 63)] [] (hp K' M' o', nc', ns') post) : mj_G y_L_law b_L_law 7 (some .boolean) [] (d + 100) (some (L, xs)) 820 [(4, .int (nI i)), (0, .ref 1000000), (1, .ref 0), (2, .ref 38), (3, .ref 63)] [] (hp K M o, nc, ns) post := by
  refine G_aload_n 2 d_L_law_820 rfl ?_
  refine G_aload_n 1 d_L_law_821 rfl ?_
  refine G_iload 0 d_L_law_822 rfl ?_
  refine G_iconst (v := nI 1) d_L_law_824 (by decide) ?_
  refine G_iadd d_L_law_825 ?_
  rw [nI_add]
  refine G_sldN d_L_law_826 (by omega) (by omega) ?_
  rw [e1]
  refine G_cv1 (some (.int (nI (rcnt (LV M) (mS M))))) (hp K M o, nc, ns) (As := [.int (nI 5)]) d_L_law_827 cv_L_106 cw_C_count (ob_C K M o) np_C_count (Nat.le_of_ble_eq_true rfl) (Nat.le_of_ble_eq_true rfl) (fun post2 k2 => c_C_count5 (R := M) (d := d + 53) hI hK k2) rfl ?_
  refine G_aload_n 3 d_L_law_830 rfl ?_
  refine G_aload_n 1 d_L_law_831 rfl ?_
  refine G_iload 0 d_L_law_832 rfl ?_
  refine G_iconst (v := nI 1) d_L_law_834 (by decide) ?_
  refine G_iadd d_L_law_835 ?_
  rw [nI_add]
  refine G_sldN d_L_law_836 (by omega) (by omega) ?_
  rw [e1]
  refine G_cvp (fun a9 A9 => ∃ N' : MC, a9 = some (.int (nI (rcnt (LV M) (mS M)))) ∧ A9 = (hp K N' o, nc, ns) ∧ (coR N' = coR (mi M 0 0))) (As := [.int (nI 5)]) d_L_law_837 cv_L_109 cw_M_count (ob_M K M o) np_M_count (Nat.le_of_ble_eq_true rfl) (Nat.le_of_ble_eq_true rfl) (fun post2 kq => c_M_count5 (d := d + 97) hI.1 hI.2.1 (fun N' hc => kq _ _ ⟨N', rfl, rfl, hc⟩)) (fun a9 A9 h9 => by obtain ⟨N9, -, rfl, -⟩ := h9; rfl) (fun a9 A9 h9 => ?_)
  obtain ⟨N', rfl, rfl, hN⟩ := h9
  refine G_iceq 845 d_L_law_840 (by decide) (fun h840 => ?_) (fun h840 => False.elim (h840 rfl))
  exact G_sub [0, 1, 2, 3, 4] rfl (k _ _ _ _ _ _ _ (by omega) (by omega) (N_IM hN hI) (N_RK hN hI hK))
set_option maxHeartbeats 1000000 in
set_option maxRecDepth 100000 in
theorem w_countO {K : KC} {M : MC} {o : Nat → Int64} {nc ns : Nat} {d L i cs kk : Nat} {xs : Nat → Int32} {post : mj_O → mj_H → Prop} (hI : IM M cs kk) (hK : RK K M cs kk) (hr1 : nc + 1 ≤ 601024) (hr2 : ns + 6 ≤ 7293034) (hi : i + 5 ≤ L) (hL : L ≤ 2560) (x1 : Int32) (e1 : xs (i + 1) = x1) (hx : x1.toInt < 0 ∨ 5 < x1.toInt) (k : ∀ (K' : KC) (M' : MC) (o' : Nat → Int64) (nc' ns' cs' kk' : Nat), nc' ≤ nc + 1 → ns' ≤ ns + 6 → IM M' cs' kk' → RK K' M' cs' kk' → mj_G y_L_law b_L_law 7 (some .boolean) [] (d + 100) (some (L, xs)) 845 [(4, .int (nI i)), (0, .ref 1000000), (1, .ref 0), (2, .ref 38), (3, .ref 63)] [] (hp K' M' o', nc', ns') post) : mj_G y_L_law b_L_law 7 (some .boolean) [] (d + 100) (some (L, xs)) 820 [(4, .int (nI i)), (0, .ref 1000000), (1, .ref 0), (2, .ref 38), (3, .ref 63)] [] (hp K M o, nc, ns) post := by
  refine G_aload_n 2 d_L_law_820 rfl ?_
  refine G_aload_n 1 d_L_law_821 rfl ?_
  refine G_iload 0 d_L_law_822 rfl ?_
  refine G_iconst (v := nI 1) d_L_law_824 (by decide) ?_
  refine G_iadd d_L_law_825 ?_
  rw [nI_add]
  refine G_sldN d_L_law_826 (by omega) (by omega) ?_
  rw [e1]
  refine G_cv1 (some (.int (-1))) (hp K M o, nc, ns) (As := [.int x1]) d_L_law_827 cv_L_106 cw_C_count (ob_C K M o) np_C_count (Nat.le_of_ble_eq_true rfl) (Nat.le_of_ble_eq_true rfl) (fun post2 k2 => c_C_countO x1 hx k2) rfl ?_
  refine G_aload_n 3 d_L_law_830 rfl ?_
  refine G_aload_n 1 d_L_law_831 rfl ?_
  refine G_iload 0 d_L_law_832 rfl ?_
  refine G_iconst (v := nI 1) d_L_law_834 (by decide) ?_
  refine G_iadd d_L_law_835 ?_
  rw [nI_add]
  refine G_sldN d_L_law_836 (by omega) (by omega) ?_
  rw [e1]
  refine G_cv1 (some (.int (-1))) (hp K (mi M 0 0) o, nc, ns) (As := [.int x1]) d_L_law_837 cv_L_109 cw_M_count (ob_M K M o) np_M_count (Nat.le_of_ble_eq_true rfl) (Nat.le_of_ble_eq_true rfl) (fun post2 kq => c_M_countO x1 hx kq) rfl ?_
  refine G_iceq 845 d_L_law_840 (by decide) (fun h840 => ?_) (fun h840 => False.elim (h840 rfl))
  exact G_sub [0, 1, 2, 3, 4] rfl (k _ _ _ _ _ _ _ (by omega) (by omega) (cz_IM (cz_m0 M 0) hI) (cz_RK (cz_m0 M 0) hI hK))
theorem w_count {K : KC} {M : MC} {o : Nat → Int64} {nc ns : Nat} {d L i cs kk : Nat} {xs : Nat → Int32} {post : mj_O → mj_H → Prop} (hI : IM M cs kk) (hK : RK K M cs kk) (hr1 : nc + 1 ≤ 601024) (hr2 : ns + 6 ≤ 7293034) (hi : i + 5 ≤ L) (hL : L ≤ 2560) (k : ∀ (K' : KC) (M' : MC) (o' : Nat → Int64) (nc' ns' cs' kk' : Nat), nc' ≤ nc + 1 → ns' ≤ ns + 6 → IM M' cs' kk' → RK K' M' cs' kk' → mj_G y_L_law b_L_law 7 (some .boolean) [] (d + 100) (some (L, xs)) 845 [(4, .int (nI i)), (0, .ref 1000000), (1, .ref 0), (2, .ref 38), (3, .ref 63)] [] (hp K' M' o', nc', ns') post) : mj_G y_L_law b_L_law 7 (some .boolean) [] (d + 100) (some (L, xs)) 820 [(4, .int (nI i)), (0, .ref 1000000), (1, .ref 0), (2, .ref 38), (3, .ref 63)] [] (hp K M o, nc, ns) post := by
  by_cases h : (xs (i + 1)).toInt < 0 ∨ 5 < (xs (i + 1)).toInt
  · exact w_countO hI hK hr1 hr2 hi hL _ rfl h k
  · have e : ∀ j : Nat, j < 6 → (xs (i + 1)).toInt = j → xs (i + 1) = nI j := fun j hj hq => Int32.toInt_inj.mp (by rw [hq, nI_toInt (by omega)])
    rcases (show (xs (i + 1)).toInt = (0 : Nat) ∨ (xs (i + 1)).toInt = (1 : Nat) ∨ (xs (i + 1)).toInt = (2 : Nat) ∨ (xs (i + 1)).toInt = (3 : Nat) ∨ (xs (i + 1)).toInt = (4 : Nat) ∨ (xs (i + 1)).toInt = (5 : Nat) by omega) with q | q | q | q | q | q
    · exact w_count0 hI hK hr1 hr2 hi hL (e 0 (by omega) q) k
    · exact w_count1 hI hK hr1 hr2 hi hL (e 1 (by omega) q) k
    · exact w_count2 hI hK hr1 hr2 hi hL (e 2 (by omega) q) k
    · exact w_count3 hI hK hr1 hr2 hi hL (e 3 (by omega) q) k
    · exact w_count4 hI hK hr1 hr2 hi hL (e 4 (by omega) q) k
    · exact w_count5 hI hK hr1 hr2 hi hL (e 5 (by omega) q) k
