/-! the law's beginning -/
def Kz : KC := (fun k => match k with
  | 0 => 1
  | 2 => 1
  | _ => 0, fun _ _ => 0, fun _ _ => 0)
def K0 : KC := clrK1 (clrK0 Kz (nI 0)) (nI 0)
def M0 : MC := (fun k => match k with
  | 1 => 1
  | _ => 0, fun _ _ => 0)
theorem M0_IM : IM M0 0 0 := ⟨⟨rfl, by decide, by decide⟩, ⟨rfl, by decide, fun j hj => absurd hj (Nat.not_lt_zero j)⟩, ⟨rfl, by decide, fun j hj => absurd hj (Nat.not_lt_zero j)⟩, rfl, by decide, rfl, by decide, fun j hj => absurd hj (Nat.not_lt_zero j)⟩
theorem K0_RK : RK K0 M0 0 0 := by
  have hf1 := clr1_fr (clrK0 Kz (nI 0)) (nI 0)
  have hf0 := clr0_fr Kz (nI 0)
  have s1 : rS Kz M0 := ⟨rfl, rfl, fun c hc => absurd hc (Nat.not_lt_zero c)⟩
  have s2 : rO Kz M0 := fun s hs c => ⟨fun h => absurd (show iB 0 c = true from h) (by rw [iB_0]; decide), fun h => absurd h.1 (Nat.not_lt_zero c)⟩
  have hl0 : ∀ s, LV M0 s ↔ s = 0 := fun s => ⟨fun h => by
    have : s < 1 := (LV_step h).1
    omega, fun h => by rw [h]; exact LV_0 (by decide)⟩
  have s3 : rL Kz M0 := ⟨fun s => by
    rw [hl0]
    show iB 1 s = true ↔ s = 0
    have e : (1 : Int32) = 1 <<< (nI 0 &&& 31) := by decide
    rw [e, iB_one (by omega), decide_eq_true_eq]
    exact eq_comm, fun c => ⟨fun h => absurd (show iB 0 c = true from h) (by rw [iB_0]; decide), fun h => absurd h.1 (Nat.not_lt_zero c)⟩⟩
  have s4 : rP Kz M0 := ⟨rfl, fun p hq => absurd hq (Nat.not_lt_zero p)⟩
  obtain ⟨t1, t2, t3, t4⟩ := RK_fr0 hf0 s1 s2 s3 s4
  exact RK_fr1 M0_IM hf1 ⟨t1, t2, t3, t4, clr0_I _⟩
set_option maxHeartbeats 1000000 in
set_option maxRecDepth 100000 in
theorem law_runs {d L x1 x2 : Nat} {xs : Nat → Int32} {post : mj_O → mj_H → Prop} (hL : L ≤ 2560) (h1 : x1 + 2624 ≤ 601024) (h2 : x2 + 20667 ≤ 7293034) (kp : ∀ A, post (.inl (some (.int 1))) A) : mj_G y_L_law b_L_law 7 (some .boolean) [] (d + 100) (some (L, xs)) 0 [(0, .ref 1000000)] [] ([], x1, x2) post := by
  show mj_G y_L_law b_L_law 7 (some .boolean) [] (d + 100) (some (L, xs)) 0 [(0, .ref 1000000)] [] ([] ++ [], x1, x2) post
  refine G_newX 0 (ci := 3) (N := 4) (fs := [.null, .null, .null, .null]) t_C (X' := [.inr (3, [.null, .null, .null, .null])]) (y1 := x1 + 1) (y2 := x2 + 4) (L := []) rfl d_L_law_0 rfl i_C tk_C (tin_1 (List.mem_of_getElem? (i := 13) rfl) rfl) (tin_1 (List.mem_of_getElem? (i := 14) rfl) rfl) (tin_1 (List.mem_of_getElem? (i := 1) rfl) rfl) (by decide +kernel) (fun _ => rfl) (by omega) (by omega) rfl (by decide) rfl rfl (by intro v hv j hj; subst hj; revert hv; simp) rfl (by omega) (by omega) ?_
  refine G_dup d_L_law_3 rfl ?_
  refine G_ci1 (c38 ++ [], x1 + 38, x2 + 2020) (As := []) d_L_law_4 ci_L_53 (tin_1 (List.mem_of_getElem? (i := 17) rfl) rfl) np_C_init (Nat.le_of_ble_eq_true rfl) (Nat.le_of_ble_eq_true rfl) (fun post2 k2 => c_C_init (d := d + 96) (x1 := x1 + 1) (x2 := x2 + 4) (by omega) (by omega) (by rw [Nat.add_assoc, Nat.add_assoc]; exact k2)) (Nat.le_of_ble_eq_true rfl) rfl rfl ?_
  refine G_astore_n (ls' := [(1, .ref 0), (0, .ref 1000000)]) d_L_law_7 (by decide) rfl ?_
  refine G_newX 38 (ci := 4) (N := 36) (fs := [.int 0, .int 0, .int 0, .int 0, .int 0, .int 0, .null, .null, .null, .null, .null, .null, .null, .null, .null, .null, .null, .null, .null, .null, .null, .null, .null, .int 0, .null, .null, .null, .int 0, .int 0, .null, .null, .null, .null, .int 0, .int 0, .int 0]) t_M (X' := [.inr (4, [.int 0, .int 0, .int 0, .int 0, .int 0, .int 0, .null, .null, .null, .null, .null, .null, .null, .null, .null, .null, .null, .null, .null, .null, .null, .null, .null, .int 0, .null, .null, .null, .int 0, .int 0, .null, .null, .null, .null, .int 0, .int 0, .int 0])]) (y1 := x1 + 39) (y2 := x2 + 2056) (L := c38) rfl d_L_law_8 rfl i_M tk_M (tin_3 (List.mem_of_getElem? (i := 40) rfl) rfl) (tin_3 (List.mem_of_getElem? (i := 41) rfl) rfl) (tin_1 (List.mem_of_getElem? (i := 5) rfl) rfl) (by decide +kernel) (fun _ => rfl) (by omega) (by omega) rfl (by decide) rfl rfl (by intro v hv j hj; subst hj; revert hv; simp) rfl (by omega) (by omega) ?_
  refine G_dup d_L_law_11 rfl ?_
  refine G_ci1 (c38 ++ [.inr (4, [.int 0, .int 1, .int 0, .int 0, .int 0, .int 0, .ref 39, .ref 40, .ref 41, .ref 42, .ref 43, .ref 44, .ref 45, .ref 46, .ref 47, .ref 48, .ref 49, .ref 50, .ref 51, .ref 52, .ref 53, .ref 54, .ref 55, .int 0, .ref 56, .ref 57, .ref 58, .int 0, .int 0, .ref 59, .ref 60, .ref 61, .ref 62, .int 0, .int 0, .int 0]), .inl (0, 30, .inl (fun _ => 0)), .inl (0, 30, .inl (fun _ => 0)), .inl (0, 30, .inl (fun _ => 0)), .inl (0, 30, .inl (fun _ => 0)), .inl (0, 200, .inl (fun _ => 0)), .inl (0, 200, .inl (fun _ => 0)), .inl (0, 200, .inl (fun _ => 0)), .inl (0, 200, .inl (fun _ => 0)), .inl (0, 200, .inl (fun _ => 0)), .inl (0, 200, .inl (fun _ => 0)), .inl (0, 8, .inl (fun _ => 0)), .inl (2, 12, .inl (fun _ => 0)), .inl (0, 270, .inl (fun _ => 0)), .inl (0, 270, .inl (fun _ => 0)), .inl (0, 270, .inl (fun _ => 0)), .inl (0, 270, .inl (fun _ => 0)), .inl (0, 270, .inl (fun _ => 0)), .inl (0, 130, .inl (fun _ => 0)), .inl (0, 130, .inl (fun _ => 0)), .inl (0, 130, .inl (fun _ => 0)), .inl (2, 30, .inl (fun _ => 0)), .inl (0, 2, .inl (fun _ => 0)), .inl (0, 8, .inl (fun _ => 0)), .inl (0, 130, .inl (fun _ => 0))], x1 + 63, x2 + 5306) (As := []) d_L_law_12 ci_L_56 (tin_3 (List.mem_of_getElem? (i := 44) rfl) rfl) np_M_init (Nat.le_of_ble_eq_true rfl) (Nat.le_of_ble_eq_true rfl) (fun post2 k2 => c_M_init (L := c38) (d := d + 98) (x1 := x1 + 39) (x2 := x2 + 2056) rfl (by omega) (by omega) (by rw [Nat.add_assoc, Nat.add_assoc]; exact k2)) (Nat.le_of_ble_eq_true rfl) rfl rfl ?_
  refine G_astore_n (ls' := [(2, .ref 38), (1, .ref 0), (0, .ref 1000000)]) d_L_law_15 (by decide) rfl ?_
  refine G_iconst (v := 1) d_L_law_16 (by decide) ?_
  refine G_newaX 63 (tg := 1) (a0 := (1, .inr (.inl (fun _ => 0)))) (N := 1) (X' := [.inr (4, [.int 0, .int 1, .int 0, .int 0, .int 0, .int 0, .ref 39, .ref 40, .ref 41, .ref 42, .ref 43, .ref 44, .ref 45, .ref 46, .ref 47, .ref 48, .ref 49, .ref 50, .ref 51, .ref 52, .ref 53, .ref 54, .ref 55, .int 0, .ref 56, .ref 57, .ref 58, .int 0, .int 0, .ref 59, .ref 60, .ref 61, .ref 62, .int 0, .int 0, .int 0]), .inl (0, 30, .inl (fun _ => 0)), .inl (0, 30, .inl (fun _ => 0)), .inl (0, 30, .inl (fun _ => 0)), .inl (0, 30, .inl (fun _ => 0)), .inl (0, 200, .inl (fun _ => 0)), .inl (0, 200, .inl (fun _ => 0)), .inl (0, 200, .inl (fun _ => 0)), .inl (0, 200, .inl (fun _ => 0)), .inl (0, 200, .inl (fun _ => 0)), .inl (0, 200, .inl (fun _ => 0)), .inl (0, 8, .inl (fun _ => 0)), .inl (2, 12, .inl (fun _ => 0)), .inl (0, 270, .inl (fun _ => 0)), .inl (0, 270, .inl (fun _ => 0)), .inl (0, 270, .inl (fun _ => 0)), .inl (0, 270, .inl (fun _ => 0)), .inl (0, 270, .inl (fun _ => 0)), .inl (0, 130, .inl (fun _ => 0)), .inl (0, 130, .inl (fun _ => 0)), .inl (0, 130, .inl (fun _ => 0)), .inl (2, 30, .inl (fun _ => 0)), .inl (0, 2, .inl (fun _ => 0)), .inl (0, 8, .inl (fun _ => 0)), .inl (0, 130, .inl (fun _ => 0)), .inl (1, 1, .inr (.inl (fun _ => 0)))]) (y1 := x1 + 64) (y2 := x2 + 5307) (L := c38) rfl d_L_law_17 (tin_1 (List.mem_of_getElem? (i := 148) rfl) rfl) rfl (fun _ => rfl) (fun _ => rfl) (by decide) (by decide) (by decide) (by omega) (by omega) rfl (by decide) rfl rfl trivial rfl (by omega) (by omega) ?_
  refine G_astore_n (ls' := [(3, .ref 63), (2, .ref 38), (1, .ref 0), (0, .ref 1000000)]) d_L_law_19 (by decide) rfl ?_
  refine G_iconst (v := nI 0) d_L_law_20 (by decide) ?_
  refine G_istore (ls' := [(4, .int (nI 0)), (3, .ref 63), (2, .ref 38), (1, .ref 0), (0, .ref 1000000)]) d_L_law_21 (by decide) rfl ?_
  refine G_sub [0, 4, 3, 2, 1] (ls' := [(4, .int (nI 0)), (0, .ref 1000000), (1, .ref 0), (2, .ref 38), (3, .ref 63)]) rfl ?_
  show mj_G y_L_law b_L_law 7 (some .boolean) [] (d + 100) (some (L, xs)) 23 [(4, .int (nI 0)), (0, .ref 1000000), (1, .ref 0), (2, .ref 38), (3, .ref 63)] [] (hp K0 M0 (fun _ => 0), x1 + 64, x2 + 5307) post
  exact l_law hL kp (L + 1) 0 _ _ _ _ _ 0 0 (by omega) (by omega) M0_IM K0_RK (by omega) (by omega)
