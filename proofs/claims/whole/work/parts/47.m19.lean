/-! what a sheet holds -/
abbrev SX : Type := (Nat × (Nat → Int64) × (Nat → Nat → Int32)) × ((Nat → Int32) × (Nat → Int32) × (Nat → Int32) × (Nat → Int32)) × (Nat → List Nat)
def rowX (X : SX) (i : Nat) : SH := ((X.1.1, X.1.2.1 i, X.1.2.2 i), X.2)
def ROWI (R : MC) (v : SH) (p : Nat) : Prop := bOk v ∧ (∀ x, lB (zA v) x = true → (zP v x, lbv v x) ∈ askL R 13 p [] ∧ (x = 0 ∨ (1 ≤ x ∧ ∃ y, zU v x = nI y ∧ y < x ∧ lB (zA v) y = true ∧ zB v y = zC v x))) ∧ ∀ e ∈ askL R 13 p [], ∃ x, lB (zA v) x = true ∧ zP v x = e.1 ∧ lbv v x = e.2
def SXI (R : MC) (s0 n : Nat) (P : Nat → Nat) (X : SX) : Prop := PLW R s0 (rowX X 0) ∧ ∀ i, i < n → P i < mP R ∧ ps R (P i) = s0 ∧ ROWI R (rowX X i) (P i)
def sWP (R : MC) (P : Nat → Nat) : Nat → Nat
  | 0 => 0
  | n + 1 => sWP R P n + pd R (P n)
theorem sWP_eq {R : MC} {P P' : Nat → Nat} : ∀ n, (∀ i, i < n → P i = P' i) → sWP R P n = sWP R P' n := by
  intro n
  induction n with
  | zero => intro _; rfl
  | succ n ih =>
    intro h
    show sWP R P n + pd R (P n) = sWP R P' n + pd R (P' n)
    rw [ih (fun i hi => h i (by omega)), h n (by omega)]
theorem ROWI_ext {R : MC} {v v' : SH} {p : Nat} (he : extP v v') (ha : zA v' = zA v) (hb : zB v' = zB v) (h : ROWI R v p) : ROWI R v' p := by
  obtain ⟨h1, h2, h3⟩ := h
  refine ⟨fun x hx => ?_, fun x hx => ?_, fun e hm => ?_⟩
  · rw [ha] at hx; exact Nat.lt_of_lt_of_le (h1 x hx) he.1
  · rw [ha] at hx
    obtain ⟨q1, q2, q3, q4, q5⟩ := he.2 x (h1 x hx)
    obtain ⟨g1, g2⟩ := h2 x hx
    rw [q5, lbv_ext q1 (by rw [hb]), q2, q3, ha, hb]
    exact ⟨g1, g2⟩
  · obtain ⟨x, x1, x2, x3⟩ := h3 e hm
    obtain ⟨q1, q2, q3, q4, q5⟩ := he.2 x (h1 x x1)
    exact ⟨x, by rw [ha]; exact x1, by rw [q5]; exact x2, by rw [lbv_ext q1 (by rw [hb])]; exact x3⟩
theorem LAY_row {R : MC} {s0 p w : Nat} {h h' : SH} (hz : zP h 0 = []) (A : LAY R s0 (askL R 13 p (zP h 0)) w (zP h 0) 0 h h') : ROWI R h' p := by
  rw [hz] at A
  obtain ⟨a1, a2, a3, a4, a5, a6, a7⟩ := A
  exact ⟨a4, fun x hx => a6 x hx List.nil_suffix, a7⟩
theorem row_any {R : MC} {v : SH} {p : Nat} (h : pk R p = 0) (ha : zA v = 0) : ROWI R v p := by
  refine ⟨fun x hx => ?_, fun x hx => ?_, fun e he => ?_⟩
  · rw [ha, lB_0] at hx; cases hx
  · rw [ha, lB_0] at hx; cases hx
  · rw [askL_0 h] at he; cases he
/-- a row more -/
theorem SXI_add {R : MC} {s0 n p : Nat} {P : Nat → Nat} {X X' : SX} (hX : SXI R s0 n P X) (hp1 : p < mP R) (hps : ps R p = s0) (hP : PLW R s0 (rowX X' 0)) (he : extP (rowX X 0) (rowX X' 0)) (ho : ∀ i, i < n → X'.1.2.1 i = X.1.2.1 i ∧ X'.1.2.2 i = X.1.2.2 i) (hr : ROWI R (rowX X' n) p) : SXI R s0 (n + 1) (fun i => if i = n then p else P i) X' := by
  refine ⟨hP, fun i hi => ?_⟩
  show (if i = n then p else P i) < mP R ∧ ps R (if i = n then p else P i) = s0 ∧ ROWI R (rowX X' i) (if i = n then p else P i)
  by_cases e : i = n
  · rw [if_pos e, e]; exact ⟨hp1, hps, hr⟩
  · rw [if_neg e]
    obtain ⟨g1, g2, g3⟩ := hX.2 i (by omega)
    exact ⟨g1, g2, ROWI_ext (v := rowX X i) (v' := rowX X' i) ⟨he.1, he.2⟩ (ho i (by omega)).1 (ho i (by omega)).2 g3⟩
def vw0 (K : KC) (np : Nat) (pi : Nat → List Nat) : SX := ((np, K.2.2 15, fun i => K.2.1 (17 + i)), (K.2.1 25, K.2.1 26, K.2.1 27, K.2.1 28), pi)
def SHI0 (K : KC) (R : MC) (s0 n : Nat) (P : Nat → Nat) : Prop := ∃ np pi, K.1 10 = nI s0 ∧ K.1 11 = nI n ∧ K.1 12 = nI np ∧ K.1 13 = nI (sWP R P n) ∧ (np ≤ 1 ∨ np ≤ sWP R P n) ∧ sWP R P n ≤ 40 ∧ SXI R s0 n P (vw0 K np pi)
def frH0 (K' K : KC) : Prop := (∀ k, k < 10 → K'.1 k = K.1 k) ∧ ∀ a, a < 17 → K'.2.1 a = K.2.1 a
def clrK0 (K : KC) (x : Int32) : KC := ka (ki (ki (ki (ki K 10 x) 11 (nI 0)) 12 (nI 1)) 13 (nI 0)) 25 0 x
set_option maxHeartbeats 600000 in
set_option maxRecDepth 100000 in
theorem c_H0_clear {K : KC} {M : MC} {o : Nat → Int64} {nc ns : Nat} {d : Nat} (x : Int32) {post : mj_O → mj_H → Prop} (k : post (.inl none) (hp (clrK0 K x) M o, nc, ns)) : mj_G y_H_clear b_H_clear 2 none [] d none 0 [(0, .ref 14), (1, .int x)] [] (hp K M o, nc, ns) post := by
  refine G_aload_n 0 d_H_clear_0 rfl ?_
  refine G_iload_n 1 d_H_clear_1 rfl ?_
  refine G_pt d_H_clear_2 fp_H_45 (wr_H0_sort K M o x) ?_
  refine G_aload_n 0 d_H_clear_5 rfl ?_
  refine G_iconst (v := nI 0) d_H_clear_6 (by decide) ?_
  refine G_pt d_H_clear_7 fp_H_49 (wr_H0_rowCount (ki K 10 x) M o (nI 0)) ?_
  refine G_aload_n 0 d_H_clear_10 rfl ?_
  refine G_iconst (v := nI 1) d_H_clear_11 (by decide) ?_
  refine G_pt d_H_clear_12 fp_H_52 (wr_H0_placeCount (ki (ki K 10 x) 11 (nI 0)) M o (nI 1)) ?_
  refine G_aload_n 0 d_H_clear_15 rfl ?_
  refine G_iconst (v := nI 0) d_H_clear_16 (by decide) ?_
  refine G_pt d_H_clear_17 fp_H_55 (wr_H0_size (ki (ki (ki K 10 x) 11 (nI 0)) 12 (nI 1)) M o (nI 0)) ?_
  refine G_aload_n 0 d_H_clear_20 rfl ?_
  refine G_gt d_H_clear_21 fr_H_28 (rd_H0_placeSort (ki (ki (ki (ki K 10 x) 11 (nI 0)) 12 (nI 1)) 13 (nI 0)) M o) ?_
  refine G_iconst (v := nI 0) d_H_clear_24 (by decide) ?_
  refine G_iload_n 1 d_H_clear_25 rfl ?_
  refine G_iasN d_H_clear_26 (ar_25 (ki (ki (ki (ki K 10 x) 11 (nI 0)) 12 (nI 1)) 13 (nI 0)) M o) (by decide) (by omega) (aw_25 (ki (ki (ki (ki K 10 x) 11 (nI 0)) 12 (nI 1)) 13 (nI 0)) M o 0 x) ?_
  exact G_ret d_H_clear_27 rfl k
theorem clr0_fr (K : KC) (x : Int32) : frH0 (clrK0 K x) K := by
  have h1 : ∀ k, k < 10 → (clrK0 K x).1 k = K.1 k := fun k hk => by
    show upd (upd (upd (upd K.1 10 x) 11 (nI 0)) 12 (nI 1)) 13 (nI 0) k = _
    rw [pk_un (by omega), pk_un (by omega), pk_un (by omega), pk_un (by omega)]
  have h2 : ∀ a, a < 17 → (clrK0 K x).2.1 a = K.2.1 a := fun a ha => va_up_ne _ _ (by omega)
  exact ⟨h1, h2⟩
theorem clr0_I {K : KC} {R : MC} {s : Nat} (P : Nat → Nat) : SHI0 (clrK0 K (nI s)) R s 0 P := by
  have e : (clrK0 K (nI s)).2.1 25 0 = nI s := by
    show va_up K.2.1 25 (upd (K.2.1 25) 0 (nI s)) 25 0 = nI s
    rw [va_up_self, pk_us]
  refine ⟨1, fun _ => [], rfl, rfl, rfl, rfl, Or.inl (Nat.le_refl _), Nat.zero_le _, ⟨Nat.le_refl _, rfl, e, fun j h1 h2 => ?_, fun j j' h1 h2 => ?_⟩, fun i hi => absurd hi (Nat.not_lt_zero i)⟩
  · have : j < 1 := h2
    omega
  · have : j < 1 := h2
    omega
theorem row0_fr {K : KC} {n w : Nat} {h' : SH} (hn : n < 8) : frH0 (ki (ki (st0 K n h') 13 (nI w)) 11 (nI (n + 1))) K := by
  have h1 : ∀ k, k < 10 → (ki (ki (st0 K n h') 13 (nI w)) 11 (nI (n + 1))).1 k = K.1 k := fun k hk => by
    show upd (upd (upd K.1 12 (nI (zN h'))) 13 (nI w)) 11 (nI (n + 1)) k = _
    rw [pk_un (by omega), pk_un (by omega), pk_un (by omega)]
  exact ⟨h1, fun a ha => st0_o (by omega)⟩
theorem row0_I {K : KC} {R : MC} {s0 n np p : Nat} {P : Nat → Nat} {pi : Nat → List Nat} {h' : SH} (hn : n < 8) (hI : SXI R s0 n P (vw0 K np pi)) (hp1 : p < mP R) (hps : ps R p = s0) (erc : K.1 11 = nI n) (efs : K.1 10 = nI s0) (r1 : ROWI R h' p) (r2 : PLW R s0 h') (r3 : extP ((np, 0, K.2.1 (17 + n)), (K.2.1 25, K.2.1 26, K.2.1 27, K.2.1 28), pi) h') (r4 : zN h' ≤ 1 ∨ zN h' ≤ sWP R P n + pd R p) (hw : sWP R P n + pd R p ≤ 40) : SHI0 (ki (ki (st0 K n h') 13 (nI (sWP R P n + pd R p))) 11 (nI (n + 1))) R s0 (n + 1) (fun i => if i = n then p else P i) := by
  have ew : sWP R (fun i => if i = n then p else P i) (n + 1) = sWP R P n + pd R p := by
    show sWP R (fun i => if i = n then p else P i) n + pd R (if n = n then p else P n) = _
    rw [if_pos rfl, sWP_eq n (fun i hi => if_neg (by omega))]
  have ea : ∀ i, i ≠ n → (st0 K n h').2.2 15 i = K.2.2 15 i := fun i hi => pk_uLn hi
  have eb : ∀ i, i < 8 → i ≠ n → (st0 K n h').2.1 (17 + i) = K.2.1 (17 + i) := fun i h8 hi => by
    show (if 17 + i = 28 then zQ h' else if 17 + i = 27 then zC h' else if 17 + i = 26 then zU h' else if 17 + i = 25 then zS h' else if 17 + i = 17 + n then zB h' else K.2.1 (17 + i)) = _
    rw [if_neg (by omega), if_neg (by omega), if_neg (by omega), if_neg (by omega), if_neg (by omega)]
  refine ⟨zN h', zP h', efs, rfl, rfl, by rw [ew]; rfl, by rw [ew]; exact r4, by rw [ew]; exact hw, SXI_add hI hp1 hps ?_ ?_ (fun i hi => ⟨ea i (by omega), eb i (by omega) (by omega)⟩) ?_⟩
  · exact r2
  · exact r3
  · have e1 : rowX (vw0 (ki (ki (st0 K n h') 13 (nI (sWP R P n + pd R p))) 11 (nI (n + 1))) (zN h') (zP h')) n = h' := by
      have z1 : (st0 K n h').2.2 15 n = zA h' := st0_a
      have z2 : (st0 K n h').2.1 (17 + n) = zB h' := st0_b hn
      show ((zN h', (st0 K n h').2.2 15 n, (st0 K n h').2.1 (17 + n)), (zS h', zU h', zC h', zQ h'), zP h') = h'
      rw [z1, z2]
    rw [e1]; exact r1
set_option maxHeartbeats 600000 in
set_option maxRecDepth 100000 in
theorem c_H0_addRow {K : KC} {M : MC} {o : Nat → Int64} {nc ns : Nat} {R : MC} {d s0 n p : Nat} {P : Nat → Nat} (hS : wfS R) (hC : wfC R) (hP : wfP R) (hK : rS K R) (hT : rP K R) (hH : SHI0 K R s0 n P) (hn : n < 8) (hp1 : p < mP R) (hps : ps R p = s0) (hw : sWP R P n + pd R p ≤ 40) {post : mj_O → mj_H → Prop} (k : ∀ K', frH0 K' K → SHI0 K' R s0 (n + 1) (fun i => if i = n then p else P i) → post (.inl none) (hp K' M o, nc, ns)) : mj_G y_H_addRow b_H_addRow 2 none [] (d + 16) none 0 [(0, .ref 14), (1, .int (nI p))] [] (hp K M o, nc, ns) post := by
  obtain ⟨np, pi, efs, erc, epc, esz, hbd, hw0, hI⟩ := hH
  have hPL : PLW R s0 ((np, 0, K.2.1 (17 + n)), (K.2.1 25, K.2.1 26, K.2.1 27, K.2.1 28), pi) := hI.1
  have hpd12 := (hP.2.2 p hp1).2.2.1.2
  have hpd0 := (hP.2.2 p hp1).2.2.2.1
  have q200 := hP.2.1
  refine G_aload_n 0 d_H_addRow_0 rfl ?_
  refine G_gt d_H_addRow_1 fr_H_19 (rd_H0_asked K M o) ?_
  refine G_aload_n 0 d_H_addRow_4 rfl ?_
  refine G_gt d_H_addRow_5 fr_H_49 (rd_H0_rowCount K M o) ?_
  rw [show K.1 11 = nI n from erc]
  refine G_lconst (v := 0) d_H_addRow_8 (by decide) ?_
  refine G_lasN d_H_addRow_9 (ar_15 K M o) (by decide) (by omega) (aw_15 K M o n 0) ?_
  rw [show kl K 15 n 0 = st0 K n ((np, 0, K.2.1 (17 + n)), (K.2.1 25, K.2.1 26, K.2.1 27, K.2.1 28), pi) from st0_id epc hn 0 pi]
  refine G_aload_n 0 d_H_addRow_10 rfl ?_
  refine G_iload_n 1 d_H_addRow_11 rfl ?_
  refine G_iconst (v := nI 0) d_H_addRow_12 (by decide) ?_
  refine G_aload_n 0 d_H_addRow_13 rfl ?_
  refine G_gt d_H_addRow_14 fr_H_49 (rd_H0_rowCount (st0 K n ((np, 0, K.2.1 (17 + n)), (K.2.1 25, K.2.1 26, K.2.1 27, K.2.1 28), pi)) M o) ?_
  rw [show (st0 K n ((np, 0, K.2.1 (17 + n)), (K.2.1 25, K.2.1 26, K.2.1 27, K.2.1 28), pi)).1 11 = nI n from erc]
  refine G_iconst (v := nI 1) d_H_addRow_17 (by decide) ?_
  have hrow : ∀ post2 : mj_O → mj_H → Prop, (∀ h' : SH, ROWI R h' p ∧ PLW R s0 h' ∧ extP ((np, 0, K.2.1 (17 + n)), (K.2.1 25, K.2.1 26, K.2.1 27, K.2.1 28), pi) h' ∧ (zN h' ≤ 1 ∨ zN h' ≤ sWP R P n + pd R p) → post2 (.inl none) (hp (st0 K n h') M o, nc, ns)) → mj_G y_H_layPart b_H_layPart 8 none [] (d + 15) none 0 [(0, .ref 14), (1, .int (nI p)), (2, .int (nI 0)), (3, .int (nI n)), (4, .int (nI 1))] [] (hp (st0 K n ((np, 0, K.2.1 (17 + n)), (K.2.1 25, K.2.1 26, K.2.1 27, K.2.1 28), pi)) M o, nc, ns) post2 := by
    intro post2 kq
    by_cases hk : pk R p = 0
    · refine G_aload_n 0 d_H_layPart_0 rfl ?_
      refine G_gt d_H_layPart_1 fr_H_15 (rd_H0_patterns (st0 K n ((np, 0, K.2.1 (17 + n)), (K.2.1 25, K.2.1 26, K.2.1 27, K.2.1 28), pi)) M o) ?_
      refine G_gt d_H_layPart_4 fr_H_66 (rd_P_kind (st0 K n ((np, 0, K.2.1 (17 + n)), (K.2.1 25, K.2.1 26, K.2.1 27, K.2.1 28), pi)) M o) ?_
      refine G_iload_n 1 d_H_layPart_7 rfl ?_
      refine G_ialN d_H_layPart_8 (ar_8 (st0 K n ((np, 0, K.2.1 (17 + n)), (K.2.1 25, K.2.1 26, K.2.1 27, K.2.1 28), pi)) M o) (by decide) (by omega) ?_
      rw [show (st0 K n ((np, 0, K.2.1 (17 + n)), (K.2.1 25, K.2.1 26, K.2.1 27, K.2.1 28), pi)).2.1 8 p = nI 0 from (congrFun (st0_o (by omega)) _).trans ((hT.2 p hp1).1.trans (by rw [(hP.2.2 p hp1).1.1, hk]))]
      refine G_ifeq 19 d_H_layPart_9 (by decide) (fun _ => ?_) (fun h => absurd h (by decide))
      exact G_ret d_H_layPart_19 rfl (kq ((np, 0, K.2.1 (17 + n)), (K.2.1 25, K.2.1 26, K.2.1 27, K.2.1 28), pi) ⟨row_any hk rfl, hPL, extP_refl _, by rw [hpd0 hk]; exact hbd⟩)
    · refine c_H0_lay hS hC hP hK hT hn 13 p (d + 15) 0 1 ((np, 0, K.2.1 (17 + n)), (K.2.1 25, K.2.1 26, K.2.1 27, K.2.1 28), pi) hp1 (by omega) (by omega) (by omega) (by omega) (by omega) hPL (fun x hx => by rw [show zA ((np, 0, K.2.1 (17 + n)), (K.2.1 25, K.2.1 26, K.2.1 27, K.2.1 28), pi) = 0 from rfl, lB_0] at hx; cases hx) hPL.1 (hPL.2.2.1.trans (by rw [hps])) (fun x hx => by rw [show zA ((np, 0, K.2.1 (17 + n)), (K.2.1 25, K.2.1 26, K.2.1 27, K.2.1 28), pi) = 0 from rfl, lB_0] at hx; cases hx) (by have z := hbd; show np + pd R p ≤ _; omega) (fun h' A => kq h' ⟨LAY_row hPL.2.1 A, A.2.2.1, A.1, ?_⟩)
      have z1 := A.2.1
      have z2 : zN ((np, 0, K.2.1 (17 + n)), (K.2.1 25, K.2.1 26, K.2.1 27, K.2.1 28), pi) = np := rfl
      have z3 := hbd
      have z4 := pd_pos hP hp1 (by omega)
      omega
  refine G_cvp (fun a9 A9 => ∃ h' : SH, (ROWI R h' p ∧ PLW R s0 h' ∧ extP ((np, 0, K.2.1 (17 + n)), (K.2.1 25, K.2.1 26, K.2.1 27, K.2.1 28), pi) h' ∧ (zN h' ≤ 1 ∨ zN h' ≤ sWP R P n + pd R p)) ∧ a9 = none ∧ A9 = (hp (st0 K n h') M o, nc, ns)) (As := [.int (nI p), .int (nI 0), .int (nI n), .int (nI 1)]) d_H_addRow_18 cv_H_58 cw_H_layPart (ob_H0 (st0 K n ((np, 0, K.2.1 (17 + n)), (K.2.1 25, K.2.1 26, K.2.1 27, K.2.1 28), pi)) M o) np_H_layPart (Nat.le_of_ble_eq_true rfl) (Nat.le_of_ble_eq_true rfl) (fun post2 kq => hrow post2 (fun h' z => kq _ _ ⟨h', z, rfl, rfl⟩)) (fun a9 A9 h9 => by obtain ⟨h', -, -, rfl⟩ := h9; rfl) (fun a9 A9 h9 => ?_)
  obtain ⟨h', ⟨r1, r2, r3, r4⟩, rfl, rfl⟩ := h9
  refine G_aload_n 0 d_H_addRow_21 rfl ?_
  refine G_dup d_H_addRow_22 rfl ?_
  refine G_gt d_H_addRow_23 fr_H_55 (rd_H0_size (st0 K n h') M o) ?_
  rw [show (st0 K n h').1 13 = nI (sWP R P n) from esz]
  refine G_aload_n 0 d_H_addRow_26 rfl ?_
  refine G_gt d_H_addRow_27 fr_H_15 (rd_H0_patterns (st0 K n h') M o) ?_
  refine G_gt d_H_addRow_30 fr_H_62 (rd_P_size (st0 K n h') M o) ?_
  refine G_iload_n 1 d_H_addRow_33 rfl ?_
  refine G_ialN d_H_addRow_34 (ar_13 (st0 K n h') M o) (by decide) (by omega) ?_
  rw [show (st0 K n h').2.1 13 p = nI (pd R p) from (congrFun (st0_o (by omega)) _).trans ((hT.2 p hp1).2.2.2.1.trans (hP.2.2 p hp1).2.2.1.1)]
  refine G_iadd d_H_addRow_35 ?_
  rw [nI_add]
  refine G_pt d_H_addRow_36 fp_H_55 (wr_H0_size (st0 K n h') M o (nI (sWP R P n + pd R p))) ?_
  refine G_aload_n 0 d_H_addRow_39 rfl ?_
  refine G_dup d_H_addRow_40 rfl ?_
  refine G_gt d_H_addRow_41 fr_H_49 (rd_H0_rowCount (ki (st0 K n h') 13 (nI (sWP R P n + pd R p))) M o) ?_
  rw [show (ki (st0 K n h') 13 (nI (sWP R P n + pd R p))).1 11 = nI n from erc]
  refine G_iconst (v := 1) d_H_addRow_44 (by decide) ?_
  refine G_iadd d_H_addRow_45 ?_
  rw [nI_1]
  refine G_pt d_H_addRow_46 fp_H_49 (wr_H0_rowCount (ki (st0 K n h') 13 (nI (sWP R P n + pd R p))) M o (nI (n + 1))) ?_
  exact G_ret d_H_addRow_49 rfl (k _ (row0_fr hn) (row0_I hn hI hp1 hps erc efs r1 r2 r3 r4 (by omega)))
def vw1 (K : KC) (np : Nat) (pi : Nat → List Nat) : SX := ((np, K.2.2 30, fun i => K.2.1 (32 + i)), (K.2.1 34, K.2.1 35, K.2.1 36, K.2.1 37), pi)
def SHI1 (K : KC) (R : MC) (s0 n : Nat) (P : Nat → Nat) : Prop := ∃ np pi, K.1 20 = nI s0 ∧ K.1 21 = nI n ∧ K.1 22 = nI np ∧ K.1 23 = nI (sWP R P n) ∧ (np ≤ 1 ∨ np ≤ sWP R P n) ∧ sWP R P n ≤ 24 ∧ SXI R s0 n P (vw1 K np pi)
def frH1 (K' K : KC) : Prop := (∀ k, k < 20 → K'.1 k = K.1 k) ∧ (∀ a, a < 30 → K'.2.1 a = K.2.1 a) ∧ K'.2.2 15 = K.2.2 15
def clrK1 (K : KC) (x : Int32) : KC := ka (ki (ki (ki (ki K 20 x) 21 (nI 0)) 22 (nI 1)) 23 (nI 0)) 34 0 x
set_option maxHeartbeats 600000 in
set_option maxRecDepth 100000 in
theorem c_H1_clear {K : KC} {M : MC} {o : Nat → Int64} {nc ns : Nat} {d : Nat} (x : Int32) {post : mj_O → mj_H → Prop} (k : post (.inl none) (hp (clrK1 K x) M o, nc, ns)) : mj_G y_H_clear b_H_clear 2 none [] d none 0 [(0, .ref 29), (1, .int x)] [] (hp K M o, nc, ns) post := by
  refine G_aload_n 0 d_H_clear_0 rfl ?_
  refine G_iload_n 1 d_H_clear_1 rfl ?_
  refine G_pt d_H_clear_2 fp_H_45 (wr_H1_sort K M o x) ?_
  refine G_aload_n 0 d_H_clear_5 rfl ?_
  refine G_iconst (v := nI 0) d_H_clear_6 (by decide) ?_
  refine G_pt d_H_clear_7 fp_H_49 (wr_H1_rowCount (ki K 20 x) M o (nI 0)) ?_
  refine G_aload_n 0 d_H_clear_10 rfl ?_
  refine G_iconst (v := nI 1) d_H_clear_11 (by decide) ?_
  refine G_pt d_H_clear_12 fp_H_52 (wr_H1_placeCount (ki (ki K 20 x) 21 (nI 0)) M o (nI 1)) ?_
  refine G_aload_n 0 d_H_clear_15 rfl ?_
  refine G_iconst (v := nI 0) d_H_clear_16 (by decide) ?_
  refine G_pt d_H_clear_17 fp_H_55 (wr_H1_size (ki (ki (ki K 20 x) 21 (nI 0)) 22 (nI 1)) M o (nI 0)) ?_
  refine G_aload_n 0 d_H_clear_20 rfl ?_
  refine G_gt d_H_clear_21 fr_H_28 (rd_H1_placeSort (ki (ki (ki (ki K 20 x) 21 (nI 0)) 22 (nI 1)) 23 (nI 0)) M o) ?_
  refine G_iconst (v := nI 0) d_H_clear_24 (by decide) ?_
  refine G_iload_n 1 d_H_clear_25 rfl ?_
  refine G_iasN d_H_clear_26 (ar_34 (ki (ki (ki (ki K 20 x) 21 (nI 0)) 22 (nI 1)) 23 (nI 0)) M o) (by decide) (by omega) (aw_34 (ki (ki (ki (ki K 20 x) 21 (nI 0)) 22 (nI 1)) 23 (nI 0)) M o 0 x) ?_
  exact G_ret d_H_clear_27 rfl k
theorem clr1_fr (K : KC) (x : Int32) : frH1 (clrK1 K x) K := by
  have h1 : ∀ k, k < 20 → (clrK1 K x).1 k = K.1 k := fun k hk => by
    show upd (upd (upd (upd K.1 20 x) 21 (nI 0)) 22 (nI 1)) 23 (nI 0) k = _
    rw [pk_un (by omega), pk_un (by omega), pk_un (by omega), pk_un (by omega)]
  have h2 : ∀ a, a < 30 → (clrK1 K x).2.1 a = K.2.1 a := fun a ha => va_up_ne _ _ (by omega)
  exact ⟨h1, h2, rfl⟩
theorem clr1_I {K : KC} {R : MC} {s : Nat} (P : Nat → Nat) : SHI1 (clrK1 K (nI s)) R s 0 P := by
  have e : (clrK1 K (nI s)).2.1 34 0 = nI s := by
    show va_up K.2.1 34 (upd (K.2.1 34) 0 (nI s)) 34 0 = nI s
    rw [va_up_self, pk_us]
  refine ⟨1, fun _ => [], rfl, rfl, rfl, rfl, Or.inl (Nat.le_refl _), Nat.zero_le _, ⟨Nat.le_refl _, rfl, e, fun j h1 h2 => ?_, fun j j' h1 h2 => ?_⟩, fun i hi => absurd hi (Nat.not_lt_zero i)⟩
  · have : j < 1 := h2
    omega
  · have : j < 1 := h2
    omega
theorem row1_fr {K : KC} {n w : Nat} {h' : SH} (hn : n < 2) : frH1 (ki (ki (st1 K n h') 23 (nI w)) 21 (nI (n + 1))) K := by
  have h1 : ∀ k, k < 20 → (ki (ki (st1 K n h') 23 (nI w)) 21 (nI (n + 1))).1 k = K.1 k := fun k hk => by
    show upd (upd (upd K.1 22 (nI (zN h'))) 23 (nI w)) 21 (nI (n + 1)) k = _
    rw [pk_un (by omega), pk_un (by omega), pk_un (by omega)]
  exact ⟨h1, fun a ha => st1_o (by omega), rfl⟩
theorem row1_I {K : KC} {R : MC} {s0 n np p : Nat} {P : Nat → Nat} {pi : Nat → List Nat} {h' : SH} (hn : n < 2) (hI : SXI R s0 n P (vw1 K np pi)) (hp1 : p < mP R) (hps : ps R p = s0) (erc : K.1 21 = nI n) (efs : K.1 20 = nI s0) (r1 : ROWI R h' p) (r2 : PLW R s0 h') (r3 : extP ((np, 0, K.2.1 (32 + n)), (K.2.1 34, K.2.1 35, K.2.1 36, K.2.1 37), pi) h') (r4 : zN h' ≤ 1 ∨ zN h' ≤ sWP R P n + pd R p) (hw : sWP R P n + pd R p ≤ 24) : SHI1 (ki (ki (st1 K n h') 23 (nI (sWP R P n + pd R p))) 21 (nI (n + 1))) R s0 (n + 1) (fun i => if i = n then p else P i) := by
  have ew : sWP R (fun i => if i = n then p else P i) (n + 1) = sWP R P n + pd R p := by
    show sWP R (fun i => if i = n then p else P i) n + pd R (if n = n then p else P n) = _
    rw [if_pos rfl, sWP_eq n (fun i hi => if_neg (by omega))]
  have ea : ∀ i, i ≠ n → (st1 K n h').2.2 30 i = K.2.2 30 i := fun i hi => pk_uLn hi
  have eb : ∀ i, i < 2 → i ≠ n → (st1 K n h').2.1 (32 + i) = K.2.1 (32 + i) := fun i h8 hi => by
    show (if 32 + i = 37 then zQ h' else if 32 + i = 36 then zC h' else if 32 + i = 35 then zU h' else if 32 + i = 34 then zS h' else if 32 + i = 32 + n then zB h' else K.2.1 (32 + i)) = _
    rw [if_neg (by omega), if_neg (by omega), if_neg (by omega), if_neg (by omega), if_neg (by omega)]
  refine ⟨zN h', zP h', efs, rfl, rfl, by rw [ew]; rfl, by rw [ew]; exact r4, by rw [ew]; exact hw, SXI_add hI hp1 hps ?_ ?_ (fun i hi => ⟨ea i (by omega), eb i (by omega) (by omega)⟩) ?_⟩
  · exact r2
  · exact r3
  · have e1 : rowX (vw1 (ki (ki (st1 K n h') 23 (nI (sWP R P n + pd R p))) 21 (nI (n + 1))) (zN h') (zP h')) n = h' := by
      have z1 : (st1 K n h').2.2 30 n = zA h' := st1_a
      have z2 : (st1 K n h').2.1 (32 + n) = zB h' := st1_b hn
      show ((zN h', (st1 K n h').2.2 30 n, (st1 K n h').2.1 (32 + n)), (zS h', zU h', zC h', zQ h'), zP h') = h'
      rw [z1, z2]
    rw [e1]; exact r1
set_option maxHeartbeats 600000 in
set_option maxRecDepth 100000 in
theorem c_H1_addRow {K : KC} {M : MC} {o : Nat → Int64} {nc ns : Nat} {R : MC} {d s0 n p : Nat} {P : Nat → Nat} (hS : wfS R) (hC : wfC R) (hP : wfP R) (hK : rS K R) (hT : rP K R) (hH : SHI1 K R s0 n P) (hn : n < 2) (hp1 : p < mP R) (hps : ps R p = s0) (hw : sWP R P n + pd R p ≤ 24) {post : mj_O → mj_H → Prop} (k : ∀ K', frH1 K' K → SHI1 K' R s0 (n + 1) (fun i => if i = n then p else P i) → post (.inl none) (hp K' M o, nc, ns)) : mj_G y_H_addRow b_H_addRow 2 none [] (d + 16) none 0 [(0, .ref 29), (1, .int (nI p))] [] (hp K M o, nc, ns) post := by
  obtain ⟨np, pi, efs, erc, epc, esz, hbd, hw0, hI⟩ := hH
  have hPL : PLW R s0 ((np, 0, K.2.1 (32 + n)), (K.2.1 34, K.2.1 35, K.2.1 36, K.2.1 37), pi) := hI.1
  have hpd12 := (hP.2.2 p hp1).2.2.1.2
  have hpd0 := (hP.2.2 p hp1).2.2.2.1
  have q200 := hP.2.1
  refine G_aload_n 0 d_H_addRow_0 rfl ?_
  refine G_gt d_H_addRow_1 fr_H_19 (rd_H1_asked K M o) ?_
  refine G_aload_n 0 d_H_addRow_4 rfl ?_
  refine G_gt d_H_addRow_5 fr_H_49 (rd_H1_rowCount K M o) ?_
  rw [show K.1 21 = nI n from erc]
  refine G_lconst (v := 0) d_H_addRow_8 (by decide) ?_
  refine G_lasN d_H_addRow_9 (ar_30 K M o) (by decide) (by omega) (aw_30 K M o n 0) ?_
  rw [show kl K 30 n 0 = st1 K n ((np, 0, K.2.1 (32 + n)), (K.2.1 34, K.2.1 35, K.2.1 36, K.2.1 37), pi) from st1_id epc hn 0 pi]
  refine G_aload_n 0 d_H_addRow_10 rfl ?_
  refine G_iload_n 1 d_H_addRow_11 rfl ?_
  refine G_iconst (v := nI 0) d_H_addRow_12 (by decide) ?_
  refine G_aload_n 0 d_H_addRow_13 rfl ?_
  refine G_gt d_H_addRow_14 fr_H_49 (rd_H1_rowCount (st1 K n ((np, 0, K.2.1 (32 + n)), (K.2.1 34, K.2.1 35, K.2.1 36, K.2.1 37), pi)) M o) ?_
  rw [show (st1 K n ((np, 0, K.2.1 (32 + n)), (K.2.1 34, K.2.1 35, K.2.1 36, K.2.1 37), pi)).1 21 = nI n from erc]
  refine G_iconst (v := nI 1) d_H_addRow_17 (by decide) ?_
  have hrow : ∀ post2 : mj_O → mj_H → Prop, (∀ h' : SH, ROWI R h' p ∧ PLW R s0 h' ∧ extP ((np, 0, K.2.1 (32 + n)), (K.2.1 34, K.2.1 35, K.2.1 36, K.2.1 37), pi) h' ∧ (zN h' ≤ 1 ∨ zN h' ≤ sWP R P n + pd R p) → post2 (.inl none) (hp (st1 K n h') M o, nc, ns)) → mj_G y_H_layPart b_H_layPart 8 none [] (d + 15) none 0 [(0, .ref 29), (1, .int (nI p)), (2, .int (nI 0)), (3, .int (nI n)), (4, .int (nI 1))] [] (hp (st1 K n ((np, 0, K.2.1 (32 + n)), (K.2.1 34, K.2.1 35, K.2.1 36, K.2.1 37), pi)) M o, nc, ns) post2 := by
    intro post2 kq
    by_cases hk : pk R p = 0
    · refine G_aload_n 0 d_H_layPart_0 rfl ?_
      refine G_gt d_H_layPart_1 fr_H_15 (rd_H1_patterns (st1 K n ((np, 0, K.2.1 (32 + n)), (K.2.1 34, K.2.1 35, K.2.1 36, K.2.1 37), pi)) M o) ?_
      refine G_gt d_H_layPart_4 fr_H_66 (rd_P_kind (st1 K n ((np, 0, K.2.1 (32 + n)), (K.2.1 34, K.2.1 35, K.2.1 36, K.2.1 37), pi)) M o) ?_
      refine G_iload_n 1 d_H_layPart_7 rfl ?_
      refine G_ialN d_H_layPart_8 (ar_8 (st1 K n ((np, 0, K.2.1 (32 + n)), (K.2.1 34, K.2.1 35, K.2.1 36, K.2.1 37), pi)) M o) (by decide) (by omega) ?_
      rw [show (st1 K n ((np, 0, K.2.1 (32 + n)), (K.2.1 34, K.2.1 35, K.2.1 36, K.2.1 37), pi)).2.1 8 p = nI 0 from (congrFun (st1_o (by omega)) _).trans ((hT.2 p hp1).1.trans (by rw [(hP.2.2 p hp1).1.1, hk]))]
      refine G_ifeq 19 d_H_layPart_9 (by decide) (fun _ => ?_) (fun h => absurd h (by decide))
      exact G_ret d_H_layPart_19 rfl (kq ((np, 0, K.2.1 (32 + n)), (K.2.1 34, K.2.1 35, K.2.1 36, K.2.1 37), pi) ⟨row_any hk rfl, hPL, extP_refl _, by rw [hpd0 hk]; exact hbd⟩)
    · refine c_H1_lay hS hC hP hK hT hn 13 p (d + 15) 0 1 ((np, 0, K.2.1 (32 + n)), (K.2.1 34, K.2.1 35, K.2.1 36, K.2.1 37), pi) hp1 (by omega) (by omega) (by omega) (by omega) (by omega) hPL (fun x hx => by rw [show zA ((np, 0, K.2.1 (32 + n)), (K.2.1 34, K.2.1 35, K.2.1 36, K.2.1 37), pi) = 0 from rfl, lB_0] at hx; cases hx) hPL.1 (hPL.2.2.1.trans (by rw [hps])) (fun x hx => by rw [show zA ((np, 0, K.2.1 (32 + n)), (K.2.1 34, K.2.1 35, K.2.1 36, K.2.1 37), pi) = 0 from rfl, lB_0] at hx; cases hx) (by have z := hbd; show np + pd R p ≤ _; omega) (fun h' A => kq h' ⟨LAY_row hPL.2.1 A, A.2.2.1, A.1, ?_⟩)
      have z1 := A.2.1
      have z2 : zN ((np, 0, K.2.1 (32 + n)), (K.2.1 34, K.2.1 35, K.2.1 36, K.2.1 37), pi) = np := rfl
      have z3 := hbd
      have z4 := pd_pos hP hp1 (by omega)
      omega
  refine G_cvp (fun a9 A9 => ∃ h' : SH, (ROWI R h' p ∧ PLW R s0 h' ∧ extP ((np, 0, K.2.1 (32 + n)), (K.2.1 34, K.2.1 35, K.2.1 36, K.2.1 37), pi) h' ∧ (zN h' ≤ 1 ∨ zN h' ≤ sWP R P n + pd R p)) ∧ a9 = none ∧ A9 = (hp (st1 K n h') M o, nc, ns)) (As := [.int (nI p), .int (nI 0), .int (nI n), .int (nI 1)]) d_H_addRow_18 cv_H_58 cw_H_layPart (ob_H1 (st1 K n ((np, 0, K.2.1 (32 + n)), (K.2.1 34, K.2.1 35, K.2.1 36, K.2.1 37), pi)) M o) np_H_layPart (Nat.le_of_ble_eq_true rfl) (Nat.le_of_ble_eq_true rfl) (fun post2 kq => hrow post2 (fun h' z => kq _ _ ⟨h', z, rfl, rfl⟩)) (fun a9 A9 h9 => by obtain ⟨h', -, -, rfl⟩ := h9; rfl) (fun a9 A9 h9 => ?_)
  obtain ⟨h', ⟨r1, r2, r3, r4⟩, rfl, rfl⟩ := h9
  refine G_aload_n 0 d_H_addRow_21 rfl ?_
  refine G_dup d_H_addRow_22 rfl ?_
  refine G_gt d_H_addRow_23 fr_H_55 (rd_H1_size (st1 K n h') M o) ?_
  rw [show (st1 K n h').1 23 = nI (sWP R P n) from esz]
  refine G_aload_n 0 d_H_addRow_26 rfl ?_
  refine G_gt d_H_addRow_27 fr_H_15 (rd_H1_patterns (st1 K n h') M o) ?_
  refine G_gt d_H_addRow_30 fr_H_62 (rd_P_size (st1 K n h') M o) ?_
  refine G_iload_n 1 d_H_addRow_33 rfl ?_
  refine G_ialN d_H_addRow_34 (ar_13 (st1 K n h') M o) (by decide) (by omega) ?_
  rw [show (st1 K n h').2.1 13 p = nI (pd R p) from (congrFun (st1_o (by omega)) _).trans ((hT.2 p hp1).2.2.2.1.trans (hP.2.2 p hp1).2.2.1.1)]
  refine G_iadd d_H_addRow_35 ?_
  rw [nI_add]
  refine G_pt d_H_addRow_36 fp_H_55 (wr_H1_size (st1 K n h') M o (nI (sWP R P n + pd R p))) ?_
  refine G_aload_n 0 d_H_addRow_39 rfl ?_
  refine G_dup d_H_addRow_40 rfl ?_
  refine G_gt d_H_addRow_41 fr_H_49 (rd_H1_rowCount (ki (st1 K n h') 23 (nI (sWP R P n + pd R p))) M o) ?_
  rw [show (ki (st1 K n h') 23 (nI (sWP R P n + pd R p))).1 21 = nI n from erc]
  refine G_iconst (v := 1) d_H_addRow_44 (by decide) ?_
  refine G_iadd d_H_addRow_45 ?_
  rw [nI_1]
  refine G_pt d_H_addRow_46 fp_H_49 (wr_H1_rowCount (ki (st1 K n h') 23 (nI (sWP R P n + pd R p))) M o (nI (n + 1))) ?_
  exact G_ret d_H_addRow_49 rfl (k _ (row1_fr hn) (row1_I hn hI hp1 hps erc efs r1 r2 r3 r4 (by omega)))
