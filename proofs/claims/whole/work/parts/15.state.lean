theorem tin_0 {w : Cond} (h : w ∈ tables_1) (k : tw_k w = true) : w ∈ tw_tbl := List.mem_filter.mpr ⟨List.mem_append_right _ h, k⟩
theorem tin_s {w : Cond} (h : w ∈ k2_sels lw_privs) (k : tw_k w = true) : w ∈ tw_tbl := List.mem_filter.mpr ⟨List.mem_append_left _ h, k⟩
theorem tin_1 {w : Cond} (h : w ∈ tables_1_1) (k : tw_k w = true) : w ∈ tw_tbl := tin_0 (List.mem_append_left _ h) k
theorem tin_2 {w : Cond} (h : w ∈ tables_1_2) (k : tw_k w = true) : w ∈ tw_tbl := tin_0 (List.mem_append_right _ (List.mem_append_left _ h)) k
theorem tin_3 {w : Cond} (h : w ∈ tables_1_3) (k : tw_k w = true) : w ∈ tw_tbl := tin_0 (List.mem_append_right _ (List.mem_append_right _ (List.mem_append_left _ h))) k
theorem tin_4 {w : Cond} (h : w ∈ tables_1_4) (k : tw_k w = true) : w ∈ tw_tbl := tin_0 (List.mem_append_right _ (List.mem_append_right _ (List.mem_append_right _ (h)))) k
/-! what the heap holds behind the constructors: K the class, M the reference, o the law's own cell -/
abbrev KC : Type := (Nat → Int32) × (Nat → Nat → Int32) × (Nat → Nat → Int64)
abbrev MC : Type := (Nat → Int32) × (Nat → Nat → Int32)
def ki (K : KC) (k : Nat) (v : Int32) : KC := (upd K.1 k v, K.2)
def ka (K : KC) (a i : Nat) (v : Int32) : KC := (K.1, va_up K.2.1 a (upd (K.2.1 a) i v), K.2.2)
def kl (K : KC) (a i : Nat) (v : Int64) : KC := (K.1, K.2.1, va_up K.2.2 a (vp_updL (K.2.2 a) i v))
def mi (M : MC) (k : Nat) (v : Int32) : MC := (upd M.1 k v, M.2)
def ma (M : MC) (a i : Nat) (v : Int32) : MC := (M.1, va_up M.2 a (upd (M.2 a) i v))
def hp (K : KC) (M : MC) (o : Nat → Int64) : List mj_C := [.inr (3, [.ref 1, .ref 7, .ref 14, .ref 29]),
  .inr (2, [.int (K.1 0), .int (K.1 1), .int (K.1 2), .int (K.1 3), .ref 2, .ref 3, .ref 4, .ref 5, .ref 6]),
  .inl (0, 12, .inl (K.2.1 2)),
  .inl (0, 30, .inl (K.2.1 3)),
  .inl (0, 30, .inl (K.2.1 4)),
  .inl (0, 30, .inl (K.2.1 5)),
  .inl (0, 30, .inl (K.2.1 6)),
  .inr (0, [.int (K.1 4), .ref 8, .ref 9, .ref 10, .ref 11, .ref 12, .ref 13]),
  .inl (0, 200, .inl (K.2.1 8)),
  .inl (0, 200, .inl (K.2.1 9)),
  .inl (0, 200, .inl (K.2.1 10)),
  .inl (0, 200, .inl (K.2.1 11)),
  .inl (0, 200, .inl (K.2.1 12)),
  .inl (0, 200, .inl (K.2.1 13)),
  .inr (1, [.ref 1, .ref 7, .int (K.1 10), .int (K.1 11), .int (K.1 12), .int (K.1 13), .ref 15, .ref 16, .ref 25, .ref 26, .ref 27, .ref 28]),
  .inl (1, 8, .inr (.inl (K.2.2 15))),
  .inl (3, 8, .inr (.inr (.inr (.inr (fun i => if i < 8 then some (17 + i) else none))))),
  .inl (0, 40, .inl (K.2.1 17)),
  .inl (0, 40, .inl (K.2.1 18)),
  .inl (0, 40, .inl (K.2.1 19)),
  .inl (0, 40, .inl (K.2.1 20)),
  .inl (0, 40, .inl (K.2.1 21)),
  .inl (0, 40, .inl (K.2.1 22)),
  .inl (0, 40, .inl (K.2.1 23)),
  .inl (0, 40, .inl (K.2.1 24)),
  .inl (0, 40, .inl (K.2.1 25)),
  .inl (0, 40, .inl (K.2.1 26)),
  .inl (0, 40, .inl (K.2.1 27)),
  .inl (0, 40, .inl (K.2.1 28)),
  .inr (1, [.ref 1, .ref 7, .int (K.1 20), .int (K.1 21), .int (K.1 22), .int (K.1 23), .ref 30, .ref 31, .ref 34, .ref 35, .ref 36, .ref 37]),
  .inl (1, 2, .inr (.inl (K.2.2 30))),
  .inl (3, 2, .inr (.inr (.inr (.inr (fun i => if i < 2 then some (32 + i) else none))))),
  .inl (0, 24, .inl (K.2.1 32)),
  .inl (0, 24, .inl (K.2.1 33)),
  .inl (0, 24, .inl (K.2.1 34)),
  .inl (0, 24, .inl (K.2.1 35)),
  .inl (0, 24, .inl (K.2.1 36)),
  .inl (0, 24, .inl (K.2.1 37)),
  .inr (4, [.int (M.1 0), .int (M.1 1), .int (M.1 2), .int (M.1 3), .int (M.1 4), .int (M.1 5), .ref 39, .ref 40, .ref 41, .ref 42, .ref 43, .ref 44, .ref 45, .ref 46, .ref 47, .ref 48, .ref 49, .ref 50, .ref 51, .ref 52, .ref 53, .ref 54, .ref 55, .int (M.1 6), .ref 56, .ref 57, .ref 58, .int (M.1 7), .int (M.1 8), .ref 59, .ref 60, .ref 61, .ref 62, .int (M.1 9), .int (M.1 10), .int (M.1 11)]),
  .inl (0, 30, .inl (M.2 39)),
  .inl (0, 30, .inl (M.2 40)),
  .inl (0, 30, .inl (M.2 41)),
  .inl (0, 30, .inl (M.2 42)),
  .inl (0, 200, .inl (M.2 43)),
  .inl (0, 200, .inl (M.2 44)),
  .inl (0, 200, .inl (M.2 45)),
  .inl (0, 200, .inl (M.2 46)),
  .inl (0, 200, .inl (M.2 47)),
  .inl (0, 200, .inl (M.2 48)),
  .inl (0, 8, .inl (M.2 49)),
  .inl (2, 12, .inl (M.2 50)),
  .inl (0, 270, .inl (M.2 51)),
  .inl (0, 270, .inl (M.2 52)),
  .inl (0, 270, .inl (M.2 53)),
  .inl (0, 270, .inl (M.2 54)),
  .inl (0, 270, .inl (M.2 55)),
  .inl (0, 130, .inl (M.2 56)),
  .inl (0, 130, .inl (M.2 57)),
  .inl (0, 130, .inl (M.2 58)),
  .inl (2, 30, .inl (M.2 59)),
  .inl (0, 2, .inl (M.2 60)),
  .inl (0, 8, .inl (M.2 61)),
  .inl (0, 130, .inl (M.2 62)),
  .inl (1, 1, .inr (.inl (o)))]
def mj_rd (A : List mj_C) (a ci k : Nat) (v : Value) : Prop := ∃ fs, A[a]? = some (.inr (ci, fs)) ∧ fs[k]? = some v
def mj_wr (A : List mj_C) (a ci k : Nat) (v : Value) (A1 : List mj_C) : Prop := ∃ fs, A[a]? = some (.inr (ci, fs)) ∧ k < fs.length ∧ A.set a (.inr (ci, fs.set k v)) = A1
theorem hp_len (K : KC) (M : MC) (o : Nat → Int64) : (hp K M o).length = 64 := rfl
theorem rd_C_sorts (K : KC) (M : MC) (o : Nat → Int64) : mj_rd (hp K M o) 0 3 0 (.ref 1) := ⟨_, rfl, rfl⟩
theorem rd_C_patterns (K : KC) (M : MC) (o : Nat → Int64) : mj_rd (hp K M o) 0 3 1 (.ref 7) := ⟨_, rfl, rfl⟩
theorem rd_C_clauses (K : KC) (M : MC) (o : Nat → Int64) : mj_rd (hp K M o) 0 3 2 (.ref 14) := ⟨_, rfl, rfl⟩
theorem rd_C_pair (K : KC) (M : MC) (o : Nat → Int64) : mj_rd (hp K M o) 0 3 3 (.ref 29) := ⟨_, rfl, rfl⟩
theorem rd_S_sortCount (K : KC) (M : MC) (o : Nat → Int64) : mj_rd (hp K M o) 1 2 0 (.int (K.1 0)) := ⟨_, rfl, rfl⟩
theorem wr_S_sortCount (K : KC) (M : MC) (o : Nat → Int64) (v : Int32) : mj_wr (hp K M o) 1 2 0 (.int v) (hp (ki K 0 v) M o) := ⟨_, rfl, Nat.le_of_ble_eq_true rfl, rfl⟩
theorem rd_S_conCount (K : KC) (M : MC) (o : Nat → Int64) : mj_rd (hp K M o) 1 2 1 (.int (K.1 1)) := ⟨_, rfl, rfl⟩
theorem wr_S_conCount (K : KC) (M : MC) (o : Nat → Int64) (v : Int32) : mj_wr (hp K M o) 1 2 1 (.int v) (hp (ki K 1 v) M o) := ⟨_, rfl, Nat.le_of_ble_eq_true rfl, rfl⟩
theorem rd_S_livingSorts (K : KC) (M : MC) (o : Nat → Int64) : mj_rd (hp K M o) 1 2 2 (.int (K.1 2)) := ⟨_, rfl, rfl⟩
theorem wr_S_livingSorts (K : KC) (M : MC) (o : Nat → Int64) (v : Int32) : mj_wr (hp K M o) 1 2 2 (.int v) (hp (ki K 2 v) M o) := ⟨_, rfl, Nat.le_of_ble_eq_true rfl, rfl⟩
theorem rd_S_livingCons (K : KC) (M : MC) (o : Nat → Int64) : mj_rd (hp K M o) 1 2 3 (.int (K.1 3)) := ⟨_, rfl, rfl⟩
theorem wr_S_livingCons (K : KC) (M : MC) (o : Nat → Int64) (v : Int32) : mj_wr (hp K M o) 1 2 3 (.int v) (hp (ki K 3 v) M o) := ⟨_, rfl, Nat.le_of_ble_eq_true rfl, rfl⟩
theorem rd_S_consOf (K : KC) (M : MC) (o : Nat → Int64) : mj_rd (hp K M o) 1 2 4 (.ref 2) := ⟨_, rfl, rfl⟩
theorem rd_S_conSort (K : KC) (M : MC) (o : Nat → Int64) : mj_rd (hp K M o) 1 2 5 (.ref 3) := ⟨_, rfl, rfl⟩
theorem rd_S_partCount (K : KC) (M : MC) (o : Nat → Int64) : mj_rd (hp K M o) 1 2 6 (.ref 4) := ⟨_, rfl, rfl⟩
theorem rd_S_firstSort (K : KC) (M : MC) (o : Nat → Int64) : mj_rd (hp K M o) 1 2 7 (.ref 5) := ⟨_, rfl, rfl⟩
theorem rd_S_secondSort (K : KC) (M : MC) (o : Nat → Int64) : mj_rd (hp K M o) 1 2 8 (.ref 6) := ⟨_, rfl, rfl⟩
theorem rd_P_patternCount (K : KC) (M : MC) (o : Nat → Int64) : mj_rd (hp K M o) 7 0 0 (.int (K.1 4)) := ⟨_, rfl, rfl⟩
theorem wr_P_patternCount (K : KC) (M : MC) (o : Nat → Int64) (v : Int32) : mj_wr (hp K M o) 7 0 0 (.int v) (hp (ki K 4 v) M o) := ⟨_, rfl, Nat.le_of_ble_eq_true rfl, rfl⟩
theorem rd_P_kind (K : KC) (M : MC) (o : Nat → Int64) : mj_rd (hp K M o) 7 0 1 (.ref 8) := ⟨_, rfl, rfl⟩
theorem rd_P_sort (K : KC) (M : MC) (o : Nat → Int64) : mj_rd (hp K M o) 7 0 2 (.ref 9) := ⟨_, rfl, rfl⟩
theorem rd_P_top (K : KC) (M : MC) (o : Nat → Int64) : mj_rd (hp K M o) 7 0 3 (.ref 10) := ⟨_, rfl, rfl⟩
theorem rd_P_first (K : KC) (M : MC) (o : Nat → Int64) : mj_rd (hp K M o) 7 0 4 (.ref 11) := ⟨_, rfl, rfl⟩
theorem rd_P_second (K : KC) (M : MC) (o : Nat → Int64) : mj_rd (hp K M o) 7 0 5 (.ref 12) := ⟨_, rfl, rfl⟩
theorem rd_P_size (K : KC) (M : MC) (o : Nat → Int64) : mj_rd (hp K M o) 7 0 6 (.ref 13) := ⟨_, rfl, rfl⟩
theorem rd_H0_sorts (K : KC) (M : MC) (o : Nat → Int64) : mj_rd (hp K M o) 14 1 0 (.ref 1) := ⟨_, rfl, rfl⟩
theorem rd_H0_patterns (K : KC) (M : MC) (o : Nat → Int64) : mj_rd (hp K M o) 14 1 1 (.ref 7) := ⟨_, rfl, rfl⟩
theorem rd_H0_sort (K : KC) (M : MC) (o : Nat → Int64) : mj_rd (hp K M o) 14 1 2 (.int (K.1 10)) := ⟨_, rfl, rfl⟩
theorem wr_H0_sort (K : KC) (M : MC) (o : Nat → Int64) (v : Int32) : mj_wr (hp K M o) 14 1 2 (.int v) (hp (ki K 10 v) M o) := ⟨_, rfl, Nat.le_of_ble_eq_true rfl, rfl⟩
theorem rd_H0_rowCount (K : KC) (M : MC) (o : Nat → Int64) : mj_rd (hp K M o) 14 1 3 (.int (K.1 11)) := ⟨_, rfl, rfl⟩
theorem wr_H0_rowCount (K : KC) (M : MC) (o : Nat → Int64) (v : Int32) : mj_wr (hp K M o) 14 1 3 (.int v) (hp (ki K 11 v) M o) := ⟨_, rfl, Nat.le_of_ble_eq_true rfl, rfl⟩
theorem rd_H0_placeCount (K : KC) (M : MC) (o : Nat → Int64) : mj_rd (hp K M o) 14 1 4 (.int (K.1 12)) := ⟨_, rfl, rfl⟩
theorem wr_H0_placeCount (K : KC) (M : MC) (o : Nat → Int64) (v : Int32) : mj_wr (hp K M o) 14 1 4 (.int v) (hp (ki K 12 v) M o) := ⟨_, rfl, Nat.le_of_ble_eq_true rfl, rfl⟩
theorem rd_H0_size (K : KC) (M : MC) (o : Nat → Int64) : mj_rd (hp K M o) 14 1 5 (.int (K.1 13)) := ⟨_, rfl, rfl⟩
theorem wr_H0_size (K : KC) (M : MC) (o : Nat → Int64) (v : Int32) : mj_wr (hp K M o) 14 1 5 (.int v) (hp (ki K 13 v) M o) := ⟨_, rfl, Nat.le_of_ble_eq_true rfl, rfl⟩
theorem rd_H0_asked (K : KC) (M : MC) (o : Nat → Int64) : mj_rd (hp K M o) 14 1 6 (.ref 15) := ⟨_, rfl, rfl⟩
theorem rd_H0_asks (K : KC) (M : MC) (o : Nat → Int64) : mj_rd (hp K M o) 14 1 7 (.ref 16) := ⟨_, rfl, rfl⟩
theorem rd_H0_placeSort (K : KC) (M : MC) (o : Nat → Int64) : mj_rd (hp K M o) 14 1 8 (.ref 25) := ⟨_, rfl, rfl⟩
theorem rd_H0_placeAbove (K : KC) (M : MC) (o : Nat → Int64) : mj_rd (hp K M o) 14 1 9 (.ref 26) := ⟨_, rfl, rfl⟩
theorem rd_H0_conAbove (K : KC) (M : MC) (o : Nat → Int64) : mj_rd (hp K M o) 14 1 10 (.ref 27) := ⟨_, rfl, rfl⟩
theorem rd_H0_partAbove (K : KC) (M : MC) (o : Nat → Int64) : mj_rd (hp K M o) 14 1 11 (.ref 28) := ⟨_, rfl, rfl⟩
theorem rd_H1_sorts (K : KC) (M : MC) (o : Nat → Int64) : mj_rd (hp K M o) 29 1 0 (.ref 1) := ⟨_, rfl, rfl⟩
theorem rd_H1_patterns (K : KC) (M : MC) (o : Nat → Int64) : mj_rd (hp K M o) 29 1 1 (.ref 7) := ⟨_, rfl, rfl⟩
theorem rd_H1_sort (K : KC) (M : MC) (o : Nat → Int64) : mj_rd (hp K M o) 29 1 2 (.int (K.1 20)) := ⟨_, rfl, rfl⟩
theorem wr_H1_sort (K : KC) (M : MC) (o : Nat → Int64) (v : Int32) : mj_wr (hp K M o) 29 1 2 (.int v) (hp (ki K 20 v) M o) := ⟨_, rfl, Nat.le_of_ble_eq_true rfl, rfl⟩
theorem rd_H1_rowCount (K : KC) (M : MC) (o : Nat → Int64) : mj_rd (hp K M o) 29 1 3 (.int (K.1 21)) := ⟨_, rfl, rfl⟩
theorem wr_H1_rowCount (K : KC) (M : MC) (o : Nat → Int64) (v : Int32) : mj_wr (hp K M o) 29 1 3 (.int v) (hp (ki K 21 v) M o) := ⟨_, rfl, Nat.le_of_ble_eq_true rfl, rfl⟩
theorem rd_H1_placeCount (K : KC) (M : MC) (o : Nat → Int64) : mj_rd (hp K M o) 29 1 4 (.int (K.1 22)) := ⟨_, rfl, rfl⟩
theorem wr_H1_placeCount (K : KC) (M : MC) (o : Nat → Int64) (v : Int32) : mj_wr (hp K M o) 29 1 4 (.int v) (hp (ki K 22 v) M o) := ⟨_, rfl, Nat.le_of_ble_eq_true rfl, rfl⟩
theorem rd_H1_size (K : KC) (M : MC) (o : Nat → Int64) : mj_rd (hp K M o) 29 1 5 (.int (K.1 23)) := ⟨_, rfl, rfl⟩
theorem wr_H1_size (K : KC) (M : MC) (o : Nat → Int64) (v : Int32) : mj_wr (hp K M o) 29 1 5 (.int v) (hp (ki K 23 v) M o) := ⟨_, rfl, Nat.le_of_ble_eq_true rfl, rfl⟩
theorem rd_H1_asked (K : KC) (M : MC) (o : Nat → Int64) : mj_rd (hp K M o) 29 1 6 (.ref 30) := ⟨_, rfl, rfl⟩
theorem rd_H1_asks (K : KC) (M : MC) (o : Nat → Int64) : mj_rd (hp K M o) 29 1 7 (.ref 31) := ⟨_, rfl, rfl⟩
theorem rd_H1_placeSort (K : KC) (M : MC) (o : Nat → Int64) : mj_rd (hp K M o) 29 1 8 (.ref 34) := ⟨_, rfl, rfl⟩
theorem rd_H1_placeAbove (K : KC) (M : MC) (o : Nat → Int64) : mj_rd (hp K M o) 29 1 9 (.ref 35) := ⟨_, rfl, rfl⟩
theorem rd_H1_conAbove (K : KC) (M : MC) (o : Nat → Int64) : mj_rd (hp K M o) 29 1 10 (.ref 36) := ⟨_, rfl, rfl⟩
theorem rd_H1_partAbove (K : KC) (M : MC) (o : Nat → Int64) : mj_rd (hp K M o) 29 1 11 (.ref 37) := ⟨_, rfl, rfl⟩
theorem rd_M_thrown (K : KC) (M : MC) (o : Nat → Int64) : mj_rd (hp K M o) 38 4 0 (.int (M.1 0)) := ⟨_, rfl, rfl⟩
theorem wr_M_thrown (K : KC) (M : MC) (o : Nat → Int64) (v : Int32) : mj_wr (hp K M o) 38 4 0 (.int v) (hp K (mi M 0 v) o) := ⟨_, rfl, Nat.le_of_ble_eq_true rfl, rfl⟩
theorem rd_M_sorts (K : KC) (M : MC) (o : Nat → Int64) : mj_rd (hp K M o) 38 4 1 (.int (M.1 1)) := ⟨_, rfl, rfl⟩
theorem wr_M_sorts (K : KC) (M : MC) (o : Nat → Int64) (v : Int32) : mj_wr (hp K M o) 38 4 1 (.int v) (hp K (mi M 1 v) o) := ⟨_, rfl, Nat.le_of_ble_eq_true rfl, rfl⟩
theorem rd_M_cons (K : KC) (M : MC) (o : Nat → Int64) : mj_rd (hp K M o) 38 4 2 (.int (M.1 2)) := ⟨_, rfl, rfl⟩
theorem wr_M_cons (K : KC) (M : MC) (o : Nat → Int64) (v : Int32) : mj_wr (hp K M o) 38 4 2 (.int v) (hp K (mi M 2 v) o) := ⟨_, rfl, Nat.le_of_ble_eq_true rfl, rfl⟩
theorem rd_M_patterns (K : KC) (M : MC) (o : Nat → Int64) : mj_rd (hp K M o) 38 4 3 (.int (M.1 3)) := ⟨_, rfl, rfl⟩
theorem wr_M_patterns (K : KC) (M : MC) (o : Nat → Int64) (v : Int32) : mj_wr (hp K M o) 38 4 3 (.int v) (hp K (mi M 3 v) o) := ⟨_, rfl, Nat.le_of_ble_eq_true rfl, rfl⟩
theorem rd_M_clauses (K : KC) (M : MC) (o : Nat → Int64) : mj_rd (hp K M o) 38 4 4 (.int (M.1 4)) := ⟨_, rfl, rfl⟩
theorem wr_M_clauses (K : KC) (M : MC) (o : Nat → Int64) (v : Int32) : mj_wr (hp K M o) 38 4 4 (.int v) (hp K (mi M 4 v) o) := ⟨_, rfl, Nat.le_of_ble_eq_true rfl, rfl⟩
theorem rd_M_clauseSort (K : KC) (M : MC) (o : Nat → Int64) : mj_rd (hp K M o) 38 4 5 (.int (M.1 5)) := ⟨_, rfl, rfl⟩
theorem wr_M_clauseSort (K : KC) (M : MC) (o : Nat → Int64) (v : Int32) : mj_wr (hp K M o) 38 4 5 (.int v) (hp K (mi M 5 v) o) := ⟨_, rfl, Nat.le_of_ble_eq_true rfl, rfl⟩
theorem rd_M_conSort (K : KC) (M : MC) (o : Nat → Int64) : mj_rd (hp K M o) 38 4 6 (.ref 39) := ⟨_, rfl, rfl⟩
theorem rd_M_conParts (K : KC) (M : MC) (o : Nat → Int64) : mj_rd (hp K M o) 38 4 7 (.ref 40) := ⟨_, rfl, rfl⟩
theorem rd_M_conFirst (K : KC) (M : MC) (o : Nat → Int64) : mj_rd (hp K M o) 38 4 8 (.ref 41) := ⟨_, rfl, rfl⟩
theorem rd_M_conSecond (K : KC) (M : MC) (o : Nat → Int64) : mj_rd (hp K M o) 38 4 9 (.ref 42) := ⟨_, rfl, rfl⟩
theorem rd_M_kind (K : KC) (M : MC) (o : Nat → Int64) : mj_rd (hp K M o) 38 4 10 (.ref 43) := ⟨_, rfl, rfl⟩
theorem rd_M_sortOf (K : KC) (M : MC) (o : Nat → Int64) : mj_rd (hp K M o) 38 4 11 (.ref 44) := ⟨_, rfl, rfl⟩
theorem rd_M_what (K : KC) (M : MC) (o : Nat → Int64) : mj_rd (hp K M o) 38 4 12 (.ref 45) := ⟨_, rfl, rfl⟩
theorem rd_M_first (K : KC) (M : MC) (o : Nat → Int64) : mj_rd (hp K M o) 38 4 13 (.ref 46) := ⟨_, rfl, rfl⟩
theorem rd_M_second (K : KC) (M : MC) (o : Nat → Int64) : mj_rd (hp K M o) 38 4 14 (.ref 47) := ⟨_, rfl, rfl⟩
theorem rd_M_width (K : KC) (M : MC) (o : Nat → Int64) : mj_rd (hp K M o) 38 4 15 (.ref 48) := ⟨_, rfl, rfl⟩
theorem rd_M_clause (K : KC) (M : MC) (o : Nat → Int64) : mj_rd (hp K M o) 38 4 16 (.ref 49) := ⟨_, rfl, rfl⟩
theorem rd_M_lives (K : KC) (M : MC) (o : Nat → Int64) : mj_rd (hp K M o) 38 4 17 (.ref 50) := ⟨_, rfl, rfl⟩
theorem rd_M_nodeKind (K : KC) (M : MC) (o : Nat → Int64) : mj_rd (hp K M o) 38 4 18 (.ref 51) := ⟨_, rfl, rfl⟩
theorem rd_M_nodeSort (K : KC) (M : MC) (o : Nat → Int64) : mj_rd (hp K M o) 38 4 19 (.ref 52) := ⟨_, rfl, rfl⟩
theorem rd_M_nodeWhat (K : KC) (M : MC) (o : Nat → Int64) : mj_rd (hp K M o) 38 4 20 (.ref 53) := ⟨_, rfl, rfl⟩
theorem rd_M_nodeFirst (K : KC) (M : MC) (o : Nat → Int64) : mj_rd (hp K M o) 38 4 21 (.ref 54) := ⟨_, rfl, rfl⟩
theorem rd_M_nodeSecond (K : KC) (M : MC) (o : Nat → Int64) : mj_rd (hp K M o) 38 4 22 (.ref 55) := ⟨_, rfl, rfl⟩
theorem rd_M_nodes (K : KC) (M : MC) (o : Nat → Int64) : mj_rd (hp K M o) 38 4 23 (.int (M.1 6)) := ⟨_, rfl, rfl⟩
theorem wr_M_nodes (K : KC) (M : MC) (o : Nat → Int64) (v : Int32) : mj_wr (hp K M o) 38 4 23 (.int v) (hp K (mi M 6 v) o) := ⟨_, rfl, Nat.le_of_ble_eq_true rfl, rfl⟩
theorem rd_M_holes (K : KC) (M : MC) (o : Nat → Int64) : mj_rd (hp K M o) 38 4 24 (.ref 56) := ⟨_, rfl, rfl⟩
theorem rd_M_choice (K : KC) (M : MC) (o : Nat → Int64) : mj_rd (hp K M o) 38 4 25 (.ref 57) := ⟨_, rfl, rfl⟩
theorem rd_M_choices (K : KC) (M : MC) (o : Nat → Int64) : mj_rd (hp K M o) 38 4 26 (.ref 58) := ⟨_, rfl, rfl⟩
theorem rd_M_splits (K : KC) (M : MC) (o : Nat → Int64) : mj_rd (hp K M o) 38 4 27 (.int (M.1 7)) := ⟨_, rfl, rfl⟩
theorem wr_M_splits (K : KC) (M : MC) (o : Nat → Int64) (v : Int32) : mj_wr (hp K M o) 38 4 27 (.int v) (hp K (mi M 7 v) o) := ⟨_, rfl, Nat.le_of_ble_eq_true rfl, rfl⟩
theorem rd_M_hole (K : KC) (M : MC) (o : Nat → Int64) : mj_rd (hp K M o) 38 4 28 (.int (M.1 8)) := ⟨_, rfl, rfl⟩
theorem wr_M_hole (K : KC) (M : MC) (o : Nat → Int64) (v : Int32) : mj_wr (hp K M o) 38 4 28 (.int v) (hp K (mi M 8 v) o) := ⟨_, rfl, Nat.le_of_ble_eq_true rfl, rfl⟩
theorem rd_M_stands (K : KC) (M : MC) (o : Nat → Int64) : mj_rd (hp K M o) 38 4 29 (.ref 59) := ⟨_, rfl, rfl⟩
theorem rd_M_must (K : KC) (M : MC) (o : Nat → Int64) : mj_rd (hp K M o) 38 4 30 (.ref 60) := ⟨_, rfl, rfl⟩
theorem rd_M_never (K : KC) (M : MC) (o : Nat → Int64) : mj_rd (hp K M o) 38 4 31 (.ref 61) := ⟨_, rfl, rfl⟩
theorem rd_M_ints (K : KC) (M : MC) (o : Nat → Int64) : mj_rd (hp K M o) 38 4 32 (.ref 62) := ⟨_, rfl, rfl⟩
theorem rd_M_musts (K : KC) (M : MC) (o : Nat → Int64) : mj_rd (hp K M o) 38 4 33 (.int (M.1 9)) := ⟨_, rfl, rfl⟩
theorem wr_M_musts (K : KC) (M : MC) (o : Nat → Int64) (v : Int32) : mj_wr (hp K M o) 38 4 33 (.int v) (hp K (mi M 9 v) o) := ⟨_, rfl, Nat.le_of_ble_eq_true rfl, rfl⟩
theorem rd_M_nevers (K : KC) (M : MC) (o : Nat → Int64) : mj_rd (hp K M o) 38 4 34 (.int (M.1 10)) := ⟨_, rfl, rfl⟩
theorem wr_M_nevers (K : KC) (M : MC) (o : Nat → Int64) (v : Int32) : mj_wr (hp K M o) 38 4 34 (.int v) (hp K (mi M 10 v) o) := ⟨_, rfl, Nat.le_of_ble_eq_true rfl, rfl⟩
theorem rd_M_intMany (K : KC) (M : MC) (o : Nat → Int64) : mj_rd (hp K M o) 38 4 35 (.int (M.1 11)) := ⟨_, rfl, rfl⟩
theorem wr_M_intMany (K : KC) (M : MC) (o : Nat → Int64) (v : Int32) : mj_wr (hp K M o) 38 4 35 (.int v) (hp K (mi M 11 v) o) := ⟨_, rfl, Nat.le_of_ble_eq_true rfl, rfl⟩
theorem ar_2 (K : KC) (M : MC) (o : Nat → Int64) : (hp K M o)[2]? = some (.inl (0, 12, .inl (K.2.1 2))) := rfl
theorem aw_2 (K : KC) (M : MC) (o : Nat → Int64) (i : Nat) (v : Int32) : (hp K M o).set 2 (.inl (0, 12, .inl (upd (K.2.1 2) i v))) = hp (ka K 2 i v) M o := rfl
theorem ar_3 (K : KC) (M : MC) (o : Nat → Int64) : (hp K M o)[3]? = some (.inl (0, 30, .inl (K.2.1 3))) := rfl
theorem aw_3 (K : KC) (M : MC) (o : Nat → Int64) (i : Nat) (v : Int32) : (hp K M o).set 3 (.inl (0, 30, .inl (upd (K.2.1 3) i v))) = hp (ka K 3 i v) M o := rfl
theorem ar_4 (K : KC) (M : MC) (o : Nat → Int64) : (hp K M o)[4]? = some (.inl (0, 30, .inl (K.2.1 4))) := rfl
theorem aw_4 (K : KC) (M : MC) (o : Nat → Int64) (i : Nat) (v : Int32) : (hp K M o).set 4 (.inl (0, 30, .inl (upd (K.2.1 4) i v))) = hp (ka K 4 i v) M o := rfl
theorem ar_5 (K : KC) (M : MC) (o : Nat → Int64) : (hp K M o)[5]? = some (.inl (0, 30, .inl (K.2.1 5))) := rfl
theorem aw_5 (K : KC) (M : MC) (o : Nat → Int64) (i : Nat) (v : Int32) : (hp K M o).set 5 (.inl (0, 30, .inl (upd (K.2.1 5) i v))) = hp (ka K 5 i v) M o := rfl
theorem ar_6 (K : KC) (M : MC) (o : Nat → Int64) : (hp K M o)[6]? = some (.inl (0, 30, .inl (K.2.1 6))) := rfl
theorem aw_6 (K : KC) (M : MC) (o : Nat → Int64) (i : Nat) (v : Int32) : (hp K M o).set 6 (.inl (0, 30, .inl (upd (K.2.1 6) i v))) = hp (ka K 6 i v) M o := rfl
theorem ar_8 (K : KC) (M : MC) (o : Nat → Int64) : (hp K M o)[8]? = some (.inl (0, 200, .inl (K.2.1 8))) := rfl
theorem aw_8 (K : KC) (M : MC) (o : Nat → Int64) (i : Nat) (v : Int32) : (hp K M o).set 8 (.inl (0, 200, .inl (upd (K.2.1 8) i v))) = hp (ka K 8 i v) M o := rfl
theorem ar_9 (K : KC) (M : MC) (o : Nat → Int64) : (hp K M o)[9]? = some (.inl (0, 200, .inl (K.2.1 9))) := rfl
theorem aw_9 (K : KC) (M : MC) (o : Nat → Int64) (i : Nat) (v : Int32) : (hp K M o).set 9 (.inl (0, 200, .inl (upd (K.2.1 9) i v))) = hp (ka K 9 i v) M o := rfl
theorem ar_10 (K : KC) (M : MC) (o : Nat → Int64) : (hp K M o)[10]? = some (.inl (0, 200, .inl (K.2.1 10))) := rfl
theorem aw_10 (K : KC) (M : MC) (o : Nat → Int64) (i : Nat) (v : Int32) : (hp K M o).set 10 (.inl (0, 200, .inl (upd (K.2.1 10) i v))) = hp (ka K 10 i v) M o := rfl
theorem ar_11 (K : KC) (M : MC) (o : Nat → Int64) : (hp K M o)[11]? = some (.inl (0, 200, .inl (K.2.1 11))) := rfl
theorem aw_11 (K : KC) (M : MC) (o : Nat → Int64) (i : Nat) (v : Int32) : (hp K M o).set 11 (.inl (0, 200, .inl (upd (K.2.1 11) i v))) = hp (ka K 11 i v) M o := rfl
theorem ar_12 (K : KC) (M : MC) (o : Nat → Int64) : (hp K M o)[12]? = some (.inl (0, 200, .inl (K.2.1 12))) := rfl
theorem aw_12 (K : KC) (M : MC) (o : Nat → Int64) (i : Nat) (v : Int32) : (hp K M o).set 12 (.inl (0, 200, .inl (upd (K.2.1 12) i v))) = hp (ka K 12 i v) M o := rfl
theorem ar_13 (K : KC) (M : MC) (o : Nat → Int64) : (hp K M o)[13]? = some (.inl (0, 200, .inl (K.2.1 13))) := rfl
theorem aw_13 (K : KC) (M : MC) (o : Nat → Int64) (i : Nat) (v : Int32) : (hp K M o).set 13 (.inl (0, 200, .inl (upd (K.2.1 13) i v))) = hp (ka K 13 i v) M o := rfl
theorem ar_15 (K : KC) (M : MC) (o : Nat → Int64) : (hp K M o)[15]? = some (.inl (1, 8, .inr (.inl (K.2.2 15)))) := rfl
theorem aw_15 (K : KC) (M : MC) (o : Nat → Int64) (i : Nat) (v : Int64) : (hp K M o).set 15 (.inl (1, 8, .inr (.inl (vp_updL (K.2.2 15) i v)))) = hp (kl K 15 i v) M o := rfl
theorem ar_16 (K : KC) (M : MC) (o : Nat → Int64) : (hp K M o)[16]? = some (.inl (3, 8, .inr (.inr (.inr (.inr (fun i => if i < 8 then some (17 + i) else none)))))) := rfl
theorem ar_17 (K : KC) (M : MC) (o : Nat → Int64) : (hp K M o)[17]? = some (.inl (0, 40, .inl (K.2.1 17))) := rfl
theorem aw_17 (K : KC) (M : MC) (o : Nat → Int64) (i : Nat) (v : Int32) : (hp K M o).set 17 (.inl (0, 40, .inl (upd (K.2.1 17) i v))) = hp (ka K 17 i v) M o := rfl
theorem ar_18 (K : KC) (M : MC) (o : Nat → Int64) : (hp K M o)[18]? = some (.inl (0, 40, .inl (K.2.1 18))) := rfl
theorem aw_18 (K : KC) (M : MC) (o : Nat → Int64) (i : Nat) (v : Int32) : (hp K M o).set 18 (.inl (0, 40, .inl (upd (K.2.1 18) i v))) = hp (ka K 18 i v) M o := rfl
theorem ar_19 (K : KC) (M : MC) (o : Nat → Int64) : (hp K M o)[19]? = some (.inl (0, 40, .inl (K.2.1 19))) := rfl
theorem aw_19 (K : KC) (M : MC) (o : Nat → Int64) (i : Nat) (v : Int32) : (hp K M o).set 19 (.inl (0, 40, .inl (upd (K.2.1 19) i v))) = hp (ka K 19 i v) M o := rfl
theorem ar_20 (K : KC) (M : MC) (o : Nat → Int64) : (hp K M o)[20]? = some (.inl (0, 40, .inl (K.2.1 20))) := rfl
theorem aw_20 (K : KC) (M : MC) (o : Nat → Int64) (i : Nat) (v : Int32) : (hp K M o).set 20 (.inl (0, 40, .inl (upd (K.2.1 20) i v))) = hp (ka K 20 i v) M o := rfl
theorem ar_21 (K : KC) (M : MC) (o : Nat → Int64) : (hp K M o)[21]? = some (.inl (0, 40, .inl (K.2.1 21))) := rfl
theorem aw_21 (K : KC) (M : MC) (o : Nat → Int64) (i : Nat) (v : Int32) : (hp K M o).set 21 (.inl (0, 40, .inl (upd (K.2.1 21) i v))) = hp (ka K 21 i v) M o := rfl
theorem ar_22 (K : KC) (M : MC) (o : Nat → Int64) : (hp K M o)[22]? = some (.inl (0, 40, .inl (K.2.1 22))) := rfl
theorem aw_22 (K : KC) (M : MC) (o : Nat → Int64) (i : Nat) (v : Int32) : (hp K M o).set 22 (.inl (0, 40, .inl (upd (K.2.1 22) i v))) = hp (ka K 22 i v) M o := rfl
theorem ar_23 (K : KC) (M : MC) (o : Nat → Int64) : (hp K M o)[23]? = some (.inl (0, 40, .inl (K.2.1 23))) := rfl
theorem aw_23 (K : KC) (M : MC) (o : Nat → Int64) (i : Nat) (v : Int32) : (hp K M o).set 23 (.inl (0, 40, .inl (upd (K.2.1 23) i v))) = hp (ka K 23 i v) M o := rfl
theorem ar_24 (K : KC) (M : MC) (o : Nat → Int64) : (hp K M o)[24]? = some (.inl (0, 40, .inl (K.2.1 24))) := rfl
theorem aw_24 (K : KC) (M : MC) (o : Nat → Int64) (i : Nat) (v : Int32) : (hp K M o).set 24 (.inl (0, 40, .inl (upd (K.2.1 24) i v))) = hp (ka K 24 i v) M o := rfl
theorem ar_25 (K : KC) (M : MC) (o : Nat → Int64) : (hp K M o)[25]? = some (.inl (0, 40, .inl (K.2.1 25))) := rfl
theorem aw_25 (K : KC) (M : MC) (o : Nat → Int64) (i : Nat) (v : Int32) : (hp K M o).set 25 (.inl (0, 40, .inl (upd (K.2.1 25) i v))) = hp (ka K 25 i v) M o := rfl
theorem ar_26 (K : KC) (M : MC) (o : Nat → Int64) : (hp K M o)[26]? = some (.inl (0, 40, .inl (K.2.1 26))) := rfl
theorem aw_26 (K : KC) (M : MC) (o : Nat → Int64) (i : Nat) (v : Int32) : (hp K M o).set 26 (.inl (0, 40, .inl (upd (K.2.1 26) i v))) = hp (ka K 26 i v) M o := rfl
theorem ar_27 (K : KC) (M : MC) (o : Nat → Int64) : (hp K M o)[27]? = some (.inl (0, 40, .inl (K.2.1 27))) := rfl
theorem aw_27 (K : KC) (M : MC) (o : Nat → Int64) (i : Nat) (v : Int32) : (hp K M o).set 27 (.inl (0, 40, .inl (upd (K.2.1 27) i v))) = hp (ka K 27 i v) M o := rfl
theorem ar_28 (K : KC) (M : MC) (o : Nat → Int64) : (hp K M o)[28]? = some (.inl (0, 40, .inl (K.2.1 28))) := rfl
theorem aw_28 (K : KC) (M : MC) (o : Nat → Int64) (i : Nat) (v : Int32) : (hp K M o).set 28 (.inl (0, 40, .inl (upd (K.2.1 28) i v))) = hp (ka K 28 i v) M o := rfl
theorem ar_30 (K : KC) (M : MC) (o : Nat → Int64) : (hp K M o)[30]? = some (.inl (1, 2, .inr (.inl (K.2.2 30)))) := rfl
theorem aw_30 (K : KC) (M : MC) (o : Nat → Int64) (i : Nat) (v : Int64) : (hp K M o).set 30 (.inl (1, 2, .inr (.inl (vp_updL (K.2.2 30) i v)))) = hp (kl K 30 i v) M o := rfl
theorem ar_31 (K : KC) (M : MC) (o : Nat → Int64) : (hp K M o)[31]? = some (.inl (3, 2, .inr (.inr (.inr (.inr (fun i => if i < 2 then some (32 + i) else none)))))) := rfl
theorem ar_32 (K : KC) (M : MC) (o : Nat → Int64) : (hp K M o)[32]? = some (.inl (0, 24, .inl (K.2.1 32))) := rfl
theorem aw_32 (K : KC) (M : MC) (o : Nat → Int64) (i : Nat) (v : Int32) : (hp K M o).set 32 (.inl (0, 24, .inl (upd (K.2.1 32) i v))) = hp (ka K 32 i v) M o := rfl
theorem ar_33 (K : KC) (M : MC) (o : Nat → Int64) : (hp K M o)[33]? = some (.inl (0, 24, .inl (K.2.1 33))) := rfl
theorem aw_33 (K : KC) (M : MC) (o : Nat → Int64) (i : Nat) (v : Int32) : (hp K M o).set 33 (.inl (0, 24, .inl (upd (K.2.1 33) i v))) = hp (ka K 33 i v) M o := rfl
theorem ar_34 (K : KC) (M : MC) (o : Nat → Int64) : (hp K M o)[34]? = some (.inl (0, 24, .inl (K.2.1 34))) := rfl
theorem aw_34 (K : KC) (M : MC) (o : Nat → Int64) (i : Nat) (v : Int32) : (hp K M o).set 34 (.inl (0, 24, .inl (upd (K.2.1 34) i v))) = hp (ka K 34 i v) M o := rfl
theorem ar_35 (K : KC) (M : MC) (o : Nat → Int64) : (hp K M o)[35]? = some (.inl (0, 24, .inl (K.2.1 35))) := rfl
theorem aw_35 (K : KC) (M : MC) (o : Nat → Int64) (i : Nat) (v : Int32) : (hp K M o).set 35 (.inl (0, 24, .inl (upd (K.2.1 35) i v))) = hp (ka K 35 i v) M o := rfl
theorem ar_36 (K : KC) (M : MC) (o : Nat → Int64) : (hp K M o)[36]? = some (.inl (0, 24, .inl (K.2.1 36))) := rfl
theorem aw_36 (K : KC) (M : MC) (o : Nat → Int64) (i : Nat) (v : Int32) : (hp K M o).set 36 (.inl (0, 24, .inl (upd (K.2.1 36) i v))) = hp (ka K 36 i v) M o := rfl
theorem ar_37 (K : KC) (M : MC) (o : Nat → Int64) : (hp K M o)[37]? = some (.inl (0, 24, .inl (K.2.1 37))) := rfl
theorem aw_37 (K : KC) (M : MC) (o : Nat → Int64) (i : Nat) (v : Int32) : (hp K M o).set 37 (.inl (0, 24, .inl (upd (K.2.1 37) i v))) = hp (ka K 37 i v) M o := rfl
theorem ar_39 (K : KC) (M : MC) (o : Nat → Int64) : (hp K M o)[39]? = some (.inl (0, 30, .inl (M.2 39))) := rfl
theorem aw_39 (K : KC) (M : MC) (o : Nat → Int64) (i : Nat) (v : Int32) : (hp K M o).set 39 (.inl (0, 30, .inl (upd (M.2 39) i v))) = hp K (ma M 39 i v) o := rfl
theorem ar_40 (K : KC) (M : MC) (o : Nat → Int64) : (hp K M o)[40]? = some (.inl (0, 30, .inl (M.2 40))) := rfl
theorem aw_40 (K : KC) (M : MC) (o : Nat → Int64) (i : Nat) (v : Int32) : (hp K M o).set 40 (.inl (0, 30, .inl (upd (M.2 40) i v))) = hp K (ma M 40 i v) o := rfl
theorem ar_41 (K : KC) (M : MC) (o : Nat → Int64) : (hp K M o)[41]? = some (.inl (0, 30, .inl (M.2 41))) := rfl
theorem aw_41 (K : KC) (M : MC) (o : Nat → Int64) (i : Nat) (v : Int32) : (hp K M o).set 41 (.inl (0, 30, .inl (upd (M.2 41) i v))) = hp K (ma M 41 i v) o := rfl
theorem ar_42 (K : KC) (M : MC) (o : Nat → Int64) : (hp K M o)[42]? = some (.inl (0, 30, .inl (M.2 42))) := rfl
theorem aw_42 (K : KC) (M : MC) (o : Nat → Int64) (i : Nat) (v : Int32) : (hp K M o).set 42 (.inl (0, 30, .inl (upd (M.2 42) i v))) = hp K (ma M 42 i v) o := rfl
theorem ar_43 (K : KC) (M : MC) (o : Nat → Int64) : (hp K M o)[43]? = some (.inl (0, 200, .inl (M.2 43))) := rfl
theorem aw_43 (K : KC) (M : MC) (o : Nat → Int64) (i : Nat) (v : Int32) : (hp K M o).set 43 (.inl (0, 200, .inl (upd (M.2 43) i v))) = hp K (ma M 43 i v) o := rfl
theorem ar_44 (K : KC) (M : MC) (o : Nat → Int64) : (hp K M o)[44]? = some (.inl (0, 200, .inl (M.2 44))) := rfl
theorem aw_44 (K : KC) (M : MC) (o : Nat → Int64) (i : Nat) (v : Int32) : (hp K M o).set 44 (.inl (0, 200, .inl (upd (M.2 44) i v))) = hp K (ma M 44 i v) o := rfl
theorem ar_45 (K : KC) (M : MC) (o : Nat → Int64) : (hp K M o)[45]? = some (.inl (0, 200, .inl (M.2 45))) := rfl
theorem aw_45 (K : KC) (M : MC) (o : Nat → Int64) (i : Nat) (v : Int32) : (hp K M o).set 45 (.inl (0, 200, .inl (upd (M.2 45) i v))) = hp K (ma M 45 i v) o := rfl
theorem ar_46 (K : KC) (M : MC) (o : Nat → Int64) : (hp K M o)[46]? = some (.inl (0, 200, .inl (M.2 46))) := rfl
theorem aw_46 (K : KC) (M : MC) (o : Nat → Int64) (i : Nat) (v : Int32) : (hp K M o).set 46 (.inl (0, 200, .inl (upd (M.2 46) i v))) = hp K (ma M 46 i v) o := rfl
theorem ar_47 (K : KC) (M : MC) (o : Nat → Int64) : (hp K M o)[47]? = some (.inl (0, 200, .inl (M.2 47))) := rfl
theorem aw_47 (K : KC) (M : MC) (o : Nat → Int64) (i : Nat) (v : Int32) : (hp K M o).set 47 (.inl (0, 200, .inl (upd (M.2 47) i v))) = hp K (ma M 47 i v) o := rfl
theorem ar_48 (K : KC) (M : MC) (o : Nat → Int64) : (hp K M o)[48]? = some (.inl (0, 200, .inl (M.2 48))) := rfl
theorem aw_48 (K : KC) (M : MC) (o : Nat → Int64) (i : Nat) (v : Int32) : (hp K M o).set 48 (.inl (0, 200, .inl (upd (M.2 48) i v))) = hp K (ma M 48 i v) o := rfl
theorem ar_49 (K : KC) (M : MC) (o : Nat → Int64) : (hp K M o)[49]? = some (.inl (0, 8, .inl (M.2 49))) := rfl
theorem aw_49 (K : KC) (M : MC) (o : Nat → Int64) (i : Nat) (v : Int32) : (hp K M o).set 49 (.inl (0, 8, .inl (upd (M.2 49) i v))) = hp K (ma M 49 i v) o := rfl
theorem ar_50 (K : KC) (M : MC) (o : Nat → Int64) : (hp K M o)[50]? = some (.inl (2, 12, .inl (M.2 50))) := rfl
theorem aw_50 (K : KC) (M : MC) (o : Nat → Int64) (i : Nat) (v : Int32) : (hp K M o).set 50 (.inl (2, 12, .inl (upd (M.2 50) i v))) = hp K (ma M 50 i v) o := rfl
theorem ar_51 (K : KC) (M : MC) (o : Nat → Int64) : (hp K M o)[51]? = some (.inl (0, 270, .inl (M.2 51))) := rfl
theorem aw_51 (K : KC) (M : MC) (o : Nat → Int64) (i : Nat) (v : Int32) : (hp K M o).set 51 (.inl (0, 270, .inl (upd (M.2 51) i v))) = hp K (ma M 51 i v) o := rfl
theorem ar_52 (K : KC) (M : MC) (o : Nat → Int64) : (hp K M o)[52]? = some (.inl (0, 270, .inl (M.2 52))) := rfl
theorem aw_52 (K : KC) (M : MC) (o : Nat → Int64) (i : Nat) (v : Int32) : (hp K M o).set 52 (.inl (0, 270, .inl (upd (M.2 52) i v))) = hp K (ma M 52 i v) o := rfl
theorem ar_53 (K : KC) (M : MC) (o : Nat → Int64) : (hp K M o)[53]? = some (.inl (0, 270, .inl (M.2 53))) := rfl
theorem aw_53 (K : KC) (M : MC) (o : Nat → Int64) (i : Nat) (v : Int32) : (hp K M o).set 53 (.inl (0, 270, .inl (upd (M.2 53) i v))) = hp K (ma M 53 i v) o := rfl
theorem ar_54 (K : KC) (M : MC) (o : Nat → Int64) : (hp K M o)[54]? = some (.inl (0, 270, .inl (M.2 54))) := rfl
theorem aw_54 (K : KC) (M : MC) (o : Nat → Int64) (i : Nat) (v : Int32) : (hp K M o).set 54 (.inl (0, 270, .inl (upd (M.2 54) i v))) = hp K (ma M 54 i v) o := rfl
theorem ar_55 (K : KC) (M : MC) (o : Nat → Int64) : (hp K M o)[55]? = some (.inl (0, 270, .inl (M.2 55))) := rfl
theorem aw_55 (K : KC) (M : MC) (o : Nat → Int64) (i : Nat) (v : Int32) : (hp K M o).set 55 (.inl (0, 270, .inl (upd (M.2 55) i v))) = hp K (ma M 55 i v) o := rfl
theorem ar_56 (K : KC) (M : MC) (o : Nat → Int64) : (hp K M o)[56]? = some (.inl (0, 130, .inl (M.2 56))) := rfl
theorem aw_56 (K : KC) (M : MC) (o : Nat → Int64) (i : Nat) (v : Int32) : (hp K M o).set 56 (.inl (0, 130, .inl (upd (M.2 56) i v))) = hp K (ma M 56 i v) o := rfl
theorem ar_57 (K : KC) (M : MC) (o : Nat → Int64) : (hp K M o)[57]? = some (.inl (0, 130, .inl (M.2 57))) := rfl
theorem aw_57 (K : KC) (M : MC) (o : Nat → Int64) (i : Nat) (v : Int32) : (hp K M o).set 57 (.inl (0, 130, .inl (upd (M.2 57) i v))) = hp K (ma M 57 i v) o := rfl
theorem ar_58 (K : KC) (M : MC) (o : Nat → Int64) : (hp K M o)[58]? = some (.inl (0, 130, .inl (M.2 58))) := rfl
theorem aw_58 (K : KC) (M : MC) (o : Nat → Int64) (i : Nat) (v : Int32) : (hp K M o).set 58 (.inl (0, 130, .inl (upd (M.2 58) i v))) = hp K (ma M 58 i v) o := rfl
theorem ar_59 (K : KC) (M : MC) (o : Nat → Int64) : (hp K M o)[59]? = some (.inl (2, 30, .inl (M.2 59))) := rfl
theorem aw_59 (K : KC) (M : MC) (o : Nat → Int64) (i : Nat) (v : Int32) : (hp K M o).set 59 (.inl (2, 30, .inl (upd (M.2 59) i v))) = hp K (ma M 59 i v) o := rfl
theorem ar_60 (K : KC) (M : MC) (o : Nat → Int64) : (hp K M o)[60]? = some (.inl (0, 2, .inl (M.2 60))) := rfl
theorem aw_60 (K : KC) (M : MC) (o : Nat → Int64) (i : Nat) (v : Int32) : (hp K M o).set 60 (.inl (0, 2, .inl (upd (M.2 60) i v))) = hp K (ma M 60 i v) o := rfl
theorem ar_61 (K : KC) (M : MC) (o : Nat → Int64) : (hp K M o)[61]? = some (.inl (0, 8, .inl (M.2 61))) := rfl
theorem aw_61 (K : KC) (M : MC) (o : Nat → Int64) (i : Nat) (v : Int32) : (hp K M o).set 61 (.inl (0, 8, .inl (upd (M.2 61) i v))) = hp K (ma M 61 i v) o := rfl
theorem ar_62 (K : KC) (M : MC) (o : Nat → Int64) : (hp K M o)[62]? = some (.inl (0, 130, .inl (M.2 62))) := rfl
theorem aw_62 (K : KC) (M : MC) (o : Nat → Int64) (i : Nat) (v : Int32) : (hp K M o).set 62 (.inl (0, 130, .inl (upd (M.2 62) i v))) = hp K (ma M 62 i v) o := rfl
theorem ar_63 (K : KC) (M : MC) (o : Nat → Int64) : (hp K M o)[63]? = some (.inl (1, 1, .inr (.inl (o)))) := rfl
theorem aw_63 (K : KC) (M : MC) (o : Nat → Int64) (i : Nat) (v : Int64) : (hp K M o).set 63 (.inl (1, 1, .inr (.inl (vp_updL o i v)))) = hp K M (vp_updL o i v) := rfl
theorem arr_17 (K : KC) (M : MC) (o : Nat → Int64) {i : Nat} (h : i < 8) : (hp K M o)[17 + i]? = some (.inl (0, 40, .inl (K.2.1 (17 + i)))) := by
  rcases (show i = 0 ∨ i = 1 ∨ i = 2 ∨ i = 3 ∨ i = 4 ∨ i = 5 ∨ i = 6 ∨ i = 7 by omega) with rfl | rfl | rfl | rfl | rfl | rfl | rfl | rfl <;> rfl
theorem awr_17 (K : KC) (M : MC) (o : Nat → Int64) {i : Nat} (h : i < 8) (j : Nat) (v : Int32) : (hp K M o).set (17 + i) (.inl (0, 40, .inl (upd (K.2.1 (17 + i)) j v))) = hp (ka K (17 + i) j v) M o := by
  rcases (show i = 0 ∨ i = 1 ∨ i = 2 ∨ i = 3 ∨ i = 4 ∨ i = 5 ∨ i = 6 ∨ i = 7 by omega) with rfl | rfl | rfl | rfl | rfl | rfl | rfl | rfl <;> rfl
theorem arr_32 (K : KC) (M : MC) (o : Nat → Int64) {i : Nat} (h : i < 2) : (hp K M o)[32 + i]? = some (.inl (0, 24, .inl (K.2.1 (32 + i)))) := by
  rcases (show i = 0 ∨ i = 1 by omega) with rfl | rfl <;> rfl
theorem awr_32 (K : KC) (M : MC) (o : Nat → Int64) {i : Nat} (h : i < 2) (j : Nat) (v : Int32) : (hp K M o).set (32 + i) (.inl (0, 24, .inl (upd (K.2.1 (32 + i)) j v))) = hp (ka K (32 + i) j v) M o := by
  rcases (show i = 0 ∨ i = 1 by omega) with rfl | rfl <;> rfl
theorem fr_S_9 : mj_fr "ClauseGlass$Sorts" 9 2 0 := ⟨R_S, F_S, 9, rfl, rfl, by decide, i_S, Or.inl (tin_1 (List.mem_of_getElem? (i := 27) rfl) rfl)⟩
theorem fp_S_9 : mj_fp "ClauseGlass$Sorts" 9 2 0 .int false := ⟨R_S, F_S, 9, t_S, rfl, rfl, by decide, i_S, tin_1 (List.mem_of_getElem? (i := 27) rfl) rfl, tk_S, n_S, by decide +kernel, rfl⟩
theorem fr_S_15 : mj_fr "ClauseGlass$Sorts" 15 2 1 := ⟨R_S, F_S, 9, rfl, rfl, by decide, i_S, Or.inl (tin_1 (List.mem_of_getElem? (i := 29) rfl) rfl)⟩
theorem fp_S_15 : mj_fp "ClauseGlass$Sorts" 15 2 1 .int false := ⟨R_S, F_S, 9, t_S, rfl, rfl, by decide, i_S, tin_1 (List.mem_of_getElem? (i := 29) rfl) rfl, tk_S, n_S, by decide +kernel, rfl⟩
theorem fr_S_18 : mj_fr "ClauseGlass$Sorts" 18 2 2 := ⟨R_S, F_S, 9, rfl, rfl, by decide, i_S, Or.inl (tin_1 (List.mem_of_getElem? (i := 31) rfl) rfl)⟩
theorem fp_S_18 : mj_fp "ClauseGlass$Sorts" 18 2 2 .int false := ⟨R_S, F_S, 9, t_S, rfl, rfl, by decide, i_S, tin_1 (List.mem_of_getElem? (i := 31) rfl) rfl, tk_S, n_S, by decide +kernel, rfl⟩
theorem fr_S_21 : mj_fr "ClauseGlass$Sorts" 21 2 3 := ⟨R_S, F_S, 9, rfl, rfl, by decide, i_S, Or.inl (tin_1 (List.mem_of_getElem? (i := 33) rfl) rfl)⟩
theorem fp_S_21 : mj_fp "ClauseGlass$Sorts" 21 2 3 .int false := ⟨R_S, F_S, 9, t_S, rfl, rfl, by decide, i_S, tin_1 (List.mem_of_getElem? (i := 33) rfl) rfl, tk_S, n_S, by decide +kernel, rfl⟩
theorem fr_S_24 : mj_fr "ClauseGlass$Sorts" 24 2 4 := ⟨R_S, F_S, 9, rfl, rfl, by decide, i_S, Or.inl (tin_1 (List.mem_of_getElem? (i := 34) rfl) rfl)⟩
theorem fp_S_24 : mj_fp "ClauseGlass$Sorts" 24 2 4 (.array .int) true := ⟨R_S, F_S, 9, t_S, rfl, rfl, by decide, i_S, tin_1 (List.mem_of_getElem? (i := 34) rfl) rfl, tk_S, n_S, by decide +kernel, rfl⟩
theorem fr_S_28 : mj_fr "ClauseGlass$Sorts" 28 2 5 := ⟨R_S, F_S, 9, rfl, rfl, by decide, i_S, Or.inl (tin_1 (List.mem_of_getElem? (i := 35) rfl) rfl)⟩
theorem fp_S_28 : mj_fp "ClauseGlass$Sorts" 28 2 5 (.array .int) true := ⟨R_S, F_S, 9, t_S, rfl, rfl, by decide, i_S, tin_1 (List.mem_of_getElem? (i := 35) rfl) rfl, tk_S, n_S, by decide +kernel, rfl⟩
theorem fr_S_31 : mj_fr "ClauseGlass$Sorts" 31 2 6 := ⟨R_S, F_S, 9, rfl, rfl, by decide, i_S, Or.inl (tin_1 (List.mem_of_getElem? (i := 37) rfl) rfl)⟩
theorem fp_S_31 : mj_fp "ClauseGlass$Sorts" 31 2 6 (.array .int) true := ⟨R_S, F_S, 9, t_S, rfl, rfl, by decide, i_S, tin_1 (List.mem_of_getElem? (i := 37) rfl) rfl, tk_S, n_S, by decide +kernel, rfl⟩
theorem fr_S_34 : mj_fr "ClauseGlass$Sorts" 34 2 7 := ⟨R_S, F_S, 9, rfl, rfl, by decide, i_S, Or.inl (tin_1 (List.mem_of_getElem? (i := 40) rfl) rfl)⟩
theorem fp_S_34 : mj_fp "ClauseGlass$Sorts" 34 2 7 (.array .int) true := ⟨R_S, F_S, 9, t_S, rfl, rfl, by decide, i_S, tin_1 (List.mem_of_getElem? (i := 40) rfl) rfl, tk_S, n_S, by decide +kernel, rfl⟩
theorem fr_S_37 : mj_fr "ClauseGlass$Sorts" 37 2 8 := ⟨R_S, F_S, 9, rfl, rfl, by decide, i_S, Or.inl (tin_1 (List.mem_of_getElem? (i := 41) rfl) rfl)⟩
theorem fp_S_37 : mj_fp "ClauseGlass$Sorts" 37 2 8 (.array .int) true := ⟨R_S, F_S, 9, t_S, rfl, rfl, by decide, i_S, tin_1 (List.mem_of_getElem? (i := 41) rfl) rfl, tk_S, n_S, by decide +kernel, rfl⟩
theorem fr_P_9 : mj_fr "ClauseGlass$Patterns" 9 0 0 := ⟨R_P, F_P, 7, rfl, rfl, by decide, i_P, Or.inl (tin_1 (List.mem_of_getElem? (i := 68) rfl) rfl)⟩
theorem fp_P_9 : mj_fp "ClauseGlass$Patterns" 9 0 0 .int false := ⟨R_P, F_P, 7, t_P, rfl, rfl, by decide, i_P, tin_1 (List.mem_of_getElem? (i := 68) rfl) rfl, tk_P, n_P, by decide +kernel, rfl⟩
theorem fr_P_15 : mj_fr "ClauseGlass$Patterns" 15 0 1 := ⟨R_P, F_P, 7, rfl, rfl, by decide, i_P, Or.inl (tin_1 (List.mem_of_getElem? (i := 70) rfl) rfl)⟩
theorem fp_P_15 : mj_fp "ClauseGlass$Patterns" 15 0 1 (.array .int) true := ⟨R_P, F_P, 7, t_P, rfl, rfl, by decide, i_P, tin_1 (List.mem_of_getElem? (i := 70) rfl) rfl, tk_P, n_P, by decide +kernel, rfl⟩
theorem fr_P_19 : mj_fr "ClauseGlass$Patterns" 19 0 2 := ⟨R_P, F_P, 7, rfl, rfl, by decide, i_P, Or.inl (tin_1 (List.mem_of_getElem? (i := 72) rfl) rfl)⟩
theorem fp_P_19 : mj_fp "ClauseGlass$Patterns" 19 0 2 (.array .int) true := ⟨R_P, F_P, 7, t_P, rfl, rfl, by decide, i_P, tin_1 (List.mem_of_getElem? (i := 72) rfl) rfl, tk_P, n_P, by decide +kernel, rfl⟩
theorem fr_P_22 : mj_fr "ClauseGlass$Patterns" 22 0 3 := ⟨R_P, F_P, 7, rfl, rfl, by decide, i_P, Or.inl (tin_1 (List.mem_of_getElem? (i := 74) rfl) rfl)⟩
theorem fp_P_22 : mj_fp "ClauseGlass$Patterns" 22 0 3 (.array .int) true := ⟨R_P, F_P, 7, t_P, rfl, rfl, by decide, i_P, tin_1 (List.mem_of_getElem? (i := 74) rfl) rfl, tk_P, n_P, by decide +kernel, rfl⟩
theorem fr_P_25 : mj_fr "ClauseGlass$Patterns" 25 0 4 := ⟨R_P, F_P, 7, rfl, rfl, by decide, i_P, Or.inl (tin_1 (List.mem_of_getElem? (i := 76) rfl) rfl)⟩
theorem fp_P_25 : mj_fp "ClauseGlass$Patterns" 25 0 4 (.array .int) true := ⟨R_P, F_P, 7, t_P, rfl, rfl, by decide, i_P, tin_1 (List.mem_of_getElem? (i := 76) rfl) rfl, tk_P, n_P, by decide +kernel, rfl⟩
theorem fr_P_28 : mj_fr "ClauseGlass$Patterns" 28 0 5 := ⟨R_P, F_P, 7, rfl, rfl, by decide, i_P, Or.inl (tin_1 (List.mem_of_getElem? (i := 77) rfl) rfl)⟩
theorem fp_P_28 : mj_fp "ClauseGlass$Patterns" 28 0 5 (.array .int) true := ⟨R_P, F_P, 7, t_P, rfl, rfl, by decide, i_P, tin_1 (List.mem_of_getElem? (i := 77) rfl) rfl, tk_P, n_P, by decide +kernel, rfl⟩
theorem fr_P_31 : mj_fr "ClauseGlass$Patterns" 31 0 6 := ⟨R_P, F_P, 7, rfl, rfl, by decide, i_P, Or.inl (tin_1 (List.mem_of_getElem? (i := 78) rfl) rfl)⟩
theorem fp_P_31 : mj_fp "ClauseGlass$Patterns" 31 0 6 (.array .int) true := ⟨R_P, F_P, 7, t_P, rfl, rfl, by decide, i_P, tin_1 (List.mem_of_getElem? (i := 78) rfl) rfl, tk_P, n_P, by decide +kernel, rfl⟩
theorem fr_H_9 : mj_fr "ClauseGlass$Sheet" 9 1 0 := ⟨R_H, F_H, 12, rfl, rfl, by decide, i_H, Or.inl (tin_1 (List.mem_of_getElem? (i := 108) rfl) rfl)⟩
theorem fp_H_9 : mj_fp "ClauseGlass$Sheet" 9 1 0 (.object "ClauseGlass$Sorts") true := ⟨R_H, F_H, 12, t_H, rfl, rfl, by decide, i_H, tin_1 (List.mem_of_getElem? (i := 108) rfl) rfl, tk_H, n_H, by decide +kernel, rfl⟩
theorem fr_H_15 : mj_fr "ClauseGlass$Sheet" 15 1 1 := ⟨R_H, F_H, 12, rfl, rfl, by decide, i_H, Or.inl (tin_1 (List.mem_of_getElem? (i := 109) rfl) rfl)⟩
theorem fp_H_15 : mj_fp "ClauseGlass$Sheet" 15 1 1 (.object "ClauseGlass$Patterns") true := ⟨R_H, F_H, 12, t_H, rfl, rfl, by decide, i_H, tin_1 (List.mem_of_getElem? (i := 109) rfl) rfl, tk_H, n_H, by decide +kernel, rfl⟩
theorem fr_H_45 : mj_fr "ClauseGlass$Sheet" 45 1 2 := ⟨R_H, F_H, 12, rfl, rfl, by decide, i_H, Or.inl (tin_1 (List.mem_of_getElem? (i := 110) rfl) rfl)⟩
theorem fp_H_45 : mj_fp "ClauseGlass$Sheet" 45 1 2 .int false := ⟨R_H, F_H, 12, t_H, rfl, rfl, by decide, i_H, tin_1 (List.mem_of_getElem? (i := 110) rfl) rfl, tk_H, n_H, by decide +kernel, rfl⟩
theorem fr_H_49 : mj_fr "ClauseGlass$Sheet" 49 1 3 := ⟨R_H, F_H, 12, rfl, rfl, by decide, i_H, Or.inl (tin_1 (List.mem_of_getElem? (i := 112) rfl) rfl)⟩
theorem fp_H_49 : mj_fp "ClauseGlass$Sheet" 49 1 3 .int false := ⟨R_H, F_H, 12, t_H, rfl, rfl, by decide, i_H, tin_1 (List.mem_of_getElem? (i := 112) rfl) rfl, tk_H, n_H, by decide +kernel, rfl⟩
theorem fr_H_52 : mj_fr "ClauseGlass$Sheet" 52 1 4 := ⟨R_H, F_H, 12, rfl, rfl, by decide, i_H, Or.inl (tin_1 (List.mem_of_getElem? (i := 114) rfl) rfl)⟩
theorem fp_H_52 : mj_fp "ClauseGlass$Sheet" 52 1 4 .int false := ⟨R_H, F_H, 12, t_H, rfl, rfl, by decide, i_H, tin_1 (List.mem_of_getElem? (i := 114) rfl) rfl, tk_H, n_H, by decide +kernel, rfl⟩
theorem fr_H_55 : mj_fr "ClauseGlass$Sheet" 55 1 5 := ⟨R_H, F_H, 12, rfl, rfl, by decide, i_H, Or.inl (tin_1 (List.mem_of_getElem? (i := 115) rfl) rfl)⟩
theorem fp_H_55 : mj_fp "ClauseGlass$Sheet" 55 1 5 .int false := ⟨R_H, F_H, 12, t_H, rfl, rfl, by decide, i_H, tin_1 (List.mem_of_getElem? (i := 115) rfl) rfl, tk_H, n_H, by decide +kernel, rfl⟩
theorem fr_H_19 : mj_fr "ClauseGlass$Sheet" 19 1 6 := ⟨R_H, F_H, 12, rfl, rfl, by decide, i_H, Or.inl (tin_1 (List.mem_of_getElem? (i := 117) rfl) rfl)⟩
theorem fp_H_19 : mj_fp "ClauseGlass$Sheet" 19 1 6 (.array .long) true := ⟨R_H, F_H, 12, t_H, rfl, rfl, by decide, i_H, tin_1 (List.mem_of_getElem? (i := 117) rfl) rfl, tk_H, n_H, by decide +kernel, rfl⟩
theorem fr_H_25 : mj_fr "ClauseGlass$Sheet" 25 1 7 := ⟨R_H, F_H, 12, rfl, rfl, by decide, i_H, Or.inl (tin_1 (List.mem_of_getElem? (i := 118) rfl) rfl)⟩
theorem fp_H_25 : mj_fp "ClauseGlass$Sheet" 25 1 7 (.array (.array .int)) true := ⟨R_H, F_H, 12, t_H, rfl, rfl, by decide, i_H, tin_1 (List.mem_of_getElem? (i := 118) rfl) rfl, tk_H, n_H, by decide +kernel, rfl⟩
theorem fr_H_28 : mj_fr "ClauseGlass$Sheet" 28 1 8 := ⟨R_H, F_H, 12, rfl, rfl, by decide, i_H, Or.inl (tin_1 (List.mem_of_getElem? (i := 119) rfl) rfl)⟩
theorem fp_H_28 : mj_fp "ClauseGlass$Sheet" 28 1 8 (.array .int) true := ⟨R_H, F_H, 12, t_H, rfl, rfl, by decide, i_H, tin_1 (List.mem_of_getElem? (i := 119) rfl) rfl, tk_H, n_H, by decide +kernel, rfl⟩
theorem fr_H_32 : mj_fr "ClauseGlass$Sheet" 32 1 9 := ⟨R_H, F_H, 12, rfl, rfl, by decide, i_H, Or.inl (tin_1 (List.mem_of_getElem? (i := 120) rfl) rfl)⟩
theorem fp_H_32 : mj_fp "ClauseGlass$Sheet" 32 1 9 (.array .int) true := ⟨R_H, F_H, 12, t_H, rfl, rfl, by decide, i_H, tin_1 (List.mem_of_getElem? (i := 120) rfl) rfl, tk_H, n_H, by decide +kernel, rfl⟩
theorem fr_H_35 : mj_fr "ClauseGlass$Sheet" 35 1 10 := ⟨R_H, F_H, 12, rfl, rfl, by decide, i_H, Or.inl (tin_1 (List.mem_of_getElem? (i := 121) rfl) rfl)⟩
theorem fp_H_35 : mj_fp "ClauseGlass$Sheet" 35 1 10 (.array .int) true := ⟨R_H, F_H, 12, t_H, rfl, rfl, by decide, i_H, tin_1 (List.mem_of_getElem? (i := 121) rfl) rfl, tk_H, n_H, by decide +kernel, rfl⟩
theorem fr_H_38 : mj_fr "ClauseGlass$Sheet" 38 1 11 := ⟨R_H, F_H, 12, rfl, rfl, by decide, i_H, Or.inl (tin_1 (List.mem_of_getElem? (i := 122) rfl) rfl)⟩
theorem fp_H_38 : mj_fp "ClauseGlass$Sheet" 38 1 11 (.array .int) true := ⟨R_H, F_H, 12, t_H, rfl, rfl, by decide, i_H, tin_1 (List.mem_of_getElem? (i := 122) rfl) rfl, tk_H, n_H, by decide +kernel, rfl⟩
theorem fr_C_10 : mj_fr "ClauseGlass" 10 3 0 := ⟨R_C, F_C, 4, rfl, rfl, by decide, i_C, Or.inl (tin_1 (List.mem_of_getElem? (i := 149) rfl) rfl)⟩
theorem fp_C_10 : mj_fp "ClauseGlass" 10 3 0 (.object "ClauseGlass$Sorts") true := ⟨R_C, F_C, 4, t_C, rfl, rfl, by decide, i_C, tin_1 (List.mem_of_getElem? (i := 149) rfl) rfl, tk_C, n_C, by decide +kernel, rfl⟩
theorem fr_C_19 : mj_fr "ClauseGlass" 19 3 1 := ⟨R_C, F_C, 4, rfl, rfl, by decide, i_C, Or.inl (tin_1 (List.mem_of_getElem? (i := 150) rfl) rfl)⟩
theorem fp_C_19 : mj_fp "ClauseGlass" 19 3 1 (.object "ClauseGlass$Patterns") true := ⟨R_C, F_C, 4, t_C, rfl, rfl, by decide, i_C, tin_1 (List.mem_of_getElem? (i := 150) rfl) rfl, tk_C, n_C, by decide +kernel, rfl⟩
theorem fr_C_28 : mj_fr "ClauseGlass" 28 3 2 := ⟨R_C, F_C, 4, rfl, rfl, by decide, i_C, Or.inl (tin_1 (List.mem_of_getElem? (i := 151) rfl) rfl)⟩
theorem fp_C_28 : mj_fp "ClauseGlass" 28 3 2 (.object "ClauseGlass$Sheet") true := ⟨R_C, F_C, 4, t_C, rfl, rfl, by decide, i_C, tin_1 (List.mem_of_getElem? (i := 151) rfl) rfl, tk_C, n_C, by decide +kernel, rfl⟩
theorem fr_C_32 : mj_fr "ClauseGlass" 32 3 3 := ⟨R_C, F_C, 4, rfl, rfl, by decide, i_C, Or.inl (tin_1 (List.mem_of_getElem? (i := 152) rfl) rfl)⟩
theorem fp_C_32 : mj_fp "ClauseGlass" 32 3 3 (.object "ClauseGlass$Sheet") true := ⟨R_C, F_C, 4, t_C, rfl, rfl, by decide, i_C, tin_1 (List.mem_of_getElem? (i := 152) rfl) rfl, tk_C, n_C, by decide +kernel, rfl⟩
theorem fr_M_87 : mj_fr "ClauseGlassModel" 87 4 0 := ⟨R_M, F_M, 36, rfl, rfl, by decide, i_M, Or.inl (tin_3 (List.mem_of_getElem? (i := 46) rfl) rfl)⟩
theorem fp_M_87 : mj_fp "ClauseGlassModel" 87 4 0 .int false := ⟨R_M, F_M, 36, t_M, rfl, rfl, by decide, i_M, tin_3 (List.mem_of_getElem? (i := 46) rfl) rfl, tk_M, n_M, by decide +kernel, rfl⟩
theorem fr_M_7 : mj_fr "ClauseGlassModel" 7 4 1 := ⟨R_M, F_M, 36, rfl, rfl, by decide, i_M, Or.inl (tin_3 (List.mem_of_getElem? (i := 47) rfl) rfl)⟩
theorem fp_M_7 : mj_fp "ClauseGlassModel" 7 4 1 .int false := ⟨R_M, F_M, 36, t_M, rfl, rfl, by decide, i_M, tin_3 (List.mem_of_getElem? (i := 47) rfl) rfl, tk_M, n_M, by decide +kernel, rfl⟩
theorem fr_M_97 : mj_fr "ClauseGlassModel" 97 4 2 := ⟨R_M, F_M, 36, rfl, rfl, by decide, i_M, Or.inl (tin_3 (List.mem_of_getElem? (i := 48) rfl) rfl)⟩
theorem fp_M_97 : mj_fp "ClauseGlassModel" 97 4 2 .int false := ⟨R_M, F_M, 36, t_M, rfl, rfl, by decide, i_M, tin_3 (List.mem_of_getElem? (i := 48) rfl) rfl, tk_M, n_M, by decide +kernel, rfl⟩
theorem fr_M_90 : mj_fr "ClauseGlassModel" 90 4 3 := ⟨R_M, F_M, 36, rfl, rfl, by decide, i_M, Or.inl (tin_3 (List.mem_of_getElem? (i := 49) rfl) rfl)⟩
theorem fp_M_90 : mj_fp "ClauseGlassModel" 90 4 3 .int false := ⟨R_M, F_M, 36, t_M, rfl, rfl, by decide, i_M, tin_3 (List.mem_of_getElem? (i := 49) rfl) rfl, tk_M, n_M, by decide +kernel, rfl⟩
theorem fr_M_107 : mj_fr "ClauseGlassModel" 107 4 4 := ⟨R_M, F_M, 36, rfl, rfl, by decide, i_M, Or.inl (tin_3 (List.mem_of_getElem? (i := 50) rfl) rfl)⟩
theorem fp_M_107 : mj_fp "ClauseGlassModel" 107 4 4 .int false := ⟨R_M, F_M, 36, t_M, rfl, rfl, by decide, i_M, tin_3 (List.mem_of_getElem? (i := 50) rfl) rfl, tk_M, n_M, by decide +kernel, rfl⟩
theorem fr_M_110 : mj_fr "ClauseGlassModel" 110 4 5 := ⟨R_M, F_M, 36, rfl, rfl, by decide, i_M, Or.inl (tin_3 (List.mem_of_getElem? (i := 51) rfl) rfl)⟩
theorem fp_M_110 : mj_fp "ClauseGlassModel" 110 4 5 .int false := ⟨R_M, F_M, 36, t_M, rfl, rfl, by decide, i_M, tin_3 (List.mem_of_getElem? (i := 51) rfl) rfl, tk_M, n_M, by decide +kernel, rfl⟩
theorem fr_M_13 : mj_fr "ClauseGlassModel" 13 4 6 := ⟨R_M, F_M, 36, rfl, rfl, by decide, i_M, Or.inl (tin_3 (List.mem_of_getElem? (i := 52) rfl) rfl)⟩
theorem fp_M_13 : mj_fp "ClauseGlassModel" 13 4 6 (.array .int) true := ⟨R_M, F_M, 36, t_M, rfl, rfl, by decide, i_M, tin_3 (List.mem_of_getElem? (i := 52) rfl) rfl, tk_M, n_M, by decide +kernel, rfl⟩
theorem fr_M_17 : mj_fr "ClauseGlassModel" 17 4 7 := ⟨R_M, F_M, 36, rfl, rfl, by decide, i_M, Or.inl (tin_3 (List.mem_of_getElem? (i := 53) rfl) rfl)⟩
theorem fp_M_17 : mj_fp "ClauseGlassModel" 17 4 7 (.array .int) true := ⟨R_M, F_M, 36, t_M, rfl, rfl, by decide, i_M, tin_3 (List.mem_of_getElem? (i := 53) rfl) rfl, tk_M, n_M, by decide +kernel, rfl⟩
theorem fr_M_20 : mj_fr "ClauseGlassModel" 20 4 8 := ⟨R_M, F_M, 36, rfl, rfl, by decide, i_M, Or.inl (tin_3 (List.mem_of_getElem? (i := 54) rfl) rfl)⟩
theorem fp_M_20 : mj_fp "ClauseGlassModel" 20 4 8 (.array .int) true := ⟨R_M, F_M, 36, t_M, rfl, rfl, by decide, i_M, tin_3 (List.mem_of_getElem? (i := 54) rfl) rfl, tk_M, n_M, by decide +kernel, rfl⟩
theorem fr_M_23 : mj_fr "ClauseGlassModel" 23 4 9 := ⟨R_M, F_M, 36, rfl, rfl, by decide, i_M, Or.inl (tin_3 (List.mem_of_getElem? (i := 55) rfl) rfl)⟩
theorem fp_M_23 : mj_fp "ClauseGlassModel" 23 4 9 (.array .int) true := ⟨R_M, F_M, 36, t_M, rfl, rfl, by decide, i_M, tin_3 (List.mem_of_getElem? (i := 55) rfl) rfl, tk_M, n_M, by decide +kernel, rfl⟩
theorem fr_M_26 : mj_fr "ClauseGlassModel" 26 4 10 := ⟨R_M, F_M, 36, rfl, rfl, by decide, i_M, Or.inl (tin_3 (List.mem_of_getElem? (i := 56) rfl) rfl)⟩
theorem fp_M_26 : mj_fp "ClauseGlassModel" 26 4 10 (.array .int) true := ⟨R_M, F_M, 36, t_M, rfl, rfl, by decide, i_M, tin_3 (List.mem_of_getElem? (i := 56) rfl) rfl, tk_M, n_M, by decide +kernel, rfl⟩
theorem fr_M_29 : mj_fr "ClauseGlassModel" 29 4 11 := ⟨R_M, F_M, 36, rfl, rfl, by decide, i_M, Or.inl (tin_3 (List.mem_of_getElem? (i := 57) rfl) rfl)⟩
theorem fp_M_29 : mj_fp "ClauseGlassModel" 29 4 11 (.array .int) true := ⟨R_M, F_M, 36, t_M, rfl, rfl, by decide, i_M, tin_3 (List.mem_of_getElem? (i := 57) rfl) rfl, tk_M, n_M, by decide +kernel, rfl⟩
theorem fr_M_32 : mj_fr "ClauseGlassModel" 32 4 12 := ⟨R_M, F_M, 36, rfl, rfl, by decide, i_M, Or.inl (tin_3 (List.mem_of_getElem? (i := 58) rfl) rfl)⟩
theorem fp_M_32 : mj_fp "ClauseGlassModel" 32 4 12 (.array .int) true := ⟨R_M, F_M, 36, t_M, rfl, rfl, by decide, i_M, tin_3 (List.mem_of_getElem? (i := 58) rfl) rfl, tk_M, n_M, by decide +kernel, rfl⟩
theorem fr_M_35 : mj_fr "ClauseGlassModel" 35 4 13 := ⟨R_M, F_M, 36, rfl, rfl, by decide, i_M, Or.inl (tin_3 (List.mem_of_getElem? (i := 59) rfl) rfl)⟩
theorem fp_M_35 : mj_fp "ClauseGlassModel" 35 4 13 (.array .int) true := ⟨R_M, F_M, 36, t_M, rfl, rfl, by decide, i_M, tin_3 (List.mem_of_getElem? (i := 59) rfl) rfl, tk_M, n_M, by decide +kernel, rfl⟩
theorem fr_M_38 : mj_fr "ClauseGlassModel" 38 4 14 := ⟨R_M, F_M, 36, rfl, rfl, by decide, i_M, Or.inl (tin_3 (List.mem_of_getElem? (i := 60) rfl) rfl)⟩
theorem fp_M_38 : mj_fp "ClauseGlassModel" 38 4 14 (.array .int) true := ⟨R_M, F_M, 36, t_M, rfl, rfl, by decide, i_M, tin_3 (List.mem_of_getElem? (i := 60) rfl) rfl, tk_M, n_M, by decide +kernel, rfl⟩
theorem fr_M_41 : mj_fr "ClauseGlassModel" 41 4 15 := ⟨R_M, F_M, 36, rfl, rfl, by decide, i_M, Or.inl (tin_3 (List.mem_of_getElem? (i := 61) rfl) rfl)⟩
theorem fp_M_41 : mj_fp "ClauseGlassModel" 41 4 15 (.array .int) true := ⟨R_M, F_M, 36, t_M, rfl, rfl, by decide, i_M, tin_3 (List.mem_of_getElem? (i := 61) rfl) rfl, tk_M, n_M, by decide +kernel, rfl⟩
theorem fr_M_44 : mj_fr "ClauseGlassModel" 44 4 16 := ⟨R_M, F_M, 36, rfl, rfl, by decide, i_M, Or.inl (tin_3 (List.mem_of_getElem? (i := 62) rfl) rfl)⟩
theorem fp_M_44 : mj_fp "ClauseGlassModel" 44 4 16 (.array .int) true := ⟨R_M, F_M, 36, t_M, rfl, rfl, by decide, i_M, tin_3 (List.mem_of_getElem? (i := 62) rfl) rfl, tk_M, n_M, by decide +kernel, rfl⟩
theorem fr_M_47 : mj_fr "ClauseGlassModel" 47 4 17 := ⟨R_M, F_M, 36, rfl, rfl, by decide, i_M, Or.inl (tin_3 (List.mem_of_getElem? (i := 63) rfl) rfl)⟩
theorem fp_M_47 : mj_fp "ClauseGlassModel" 47 4 17 (.array .boolean) true := ⟨R_M, F_M, 36, t_M, rfl, rfl, by decide, i_M, tin_3 (List.mem_of_getElem? (i := 63) rfl) rfl, tk_M, n_M, by decide +kernel, rfl⟩
theorem fr_M_51 : mj_fr "ClauseGlassModel" 51 4 18 := ⟨R_M, F_M, 36, rfl, rfl, by decide, i_M, Or.inl (tin_3 (List.mem_of_getElem? (i := 64) rfl) rfl)⟩
theorem fp_M_51 : mj_fp "ClauseGlassModel" 51 4 18 (.array .int) true := ⟨R_M, F_M, 36, t_M, rfl, rfl, by decide, i_M, tin_3 (List.mem_of_getElem? (i := 64) rfl) rfl, tk_M, n_M, by decide +kernel, rfl⟩
theorem fr_M_54 : mj_fr "ClauseGlassModel" 54 4 19 := ⟨R_M, F_M, 36, rfl, rfl, by decide, i_M, Or.inl (tin_3 (List.mem_of_getElem? (i := 65) rfl) rfl)⟩
theorem fp_M_54 : mj_fp "ClauseGlassModel" 54 4 19 (.array .int) true := ⟨R_M, F_M, 36, t_M, rfl, rfl, by decide, i_M, tin_3 (List.mem_of_getElem? (i := 65) rfl) rfl, tk_M, n_M, by decide +kernel, rfl⟩
theorem fr_M_57 : mj_fr "ClauseGlassModel" 57 4 20 := ⟨R_M, F_M, 36, rfl, rfl, by decide, i_M, Or.inl (tin_3 (List.mem_of_getElem? (i := 66) rfl) rfl)⟩
theorem fp_M_57 : mj_fp "ClauseGlassModel" 57 4 20 (.array .int) true := ⟨R_M, F_M, 36, t_M, rfl, rfl, by decide, i_M, tin_3 (List.mem_of_getElem? (i := 66) rfl) rfl, tk_M, n_M, by decide +kernel, rfl⟩
theorem fr_M_60 : mj_fr "ClauseGlassModel" 60 4 21 := ⟨R_M, F_M, 36, rfl, rfl, by decide, i_M, Or.inl (tin_3 (List.mem_of_getElem? (i := 67) rfl) rfl)⟩
theorem fp_M_60 : mj_fp "ClauseGlassModel" 60 4 21 (.array .int) true := ⟨R_M, F_M, 36, t_M, rfl, rfl, by decide, i_M, tin_3 (List.mem_of_getElem? (i := 67) rfl) rfl, tk_M, n_M, by decide +kernel, rfl⟩
theorem fr_M_63 : mj_fr "ClauseGlassModel" 63 4 22 := ⟨R_M, F_M, 36, rfl, rfl, by decide, i_M, Or.inl (tin_3 (List.mem_of_getElem? (i := 68) rfl) rfl)⟩
theorem fp_M_63 : mj_fp "ClauseGlassModel" 63 4 22 (.array .int) true := ⟨R_M, F_M, 36, t_M, rfl, rfl, by decide, i_M, tin_3 (List.mem_of_getElem? (i := 68) rfl) rfl, tk_M, n_M, by decide +kernel, rfl⟩
theorem fr_M_116 : mj_fr "ClauseGlassModel" 116 4 23 := ⟨R_M, F_M, 36, rfl, rfl, by decide, i_M, Or.inl (tin_3 (List.mem_of_getElem? (i := 69) rfl) rfl)⟩
theorem fp_M_116 : mj_fp "ClauseGlassModel" 116 4 23 .int false := ⟨R_M, F_M, 36, t_M, rfl, rfl, by decide, i_M, tin_3 (List.mem_of_getElem? (i := 69) rfl) rfl, tk_M, n_M, by decide +kernel, rfl⟩
theorem fr_M_66 : mj_fr "ClauseGlassModel" 66 4 24 := ⟨R_M, F_M, 36, rfl, rfl, by decide, i_M, Or.inl (tin_3 (List.mem_of_getElem? (i := 70) rfl) rfl)⟩
theorem fp_M_66 : mj_fp "ClauseGlassModel" 66 4 24 (.array .int) true := ⟨R_M, F_M, 36, t_M, rfl, rfl, by decide, i_M, tin_3 (List.mem_of_getElem? (i := 70) rfl) rfl, tk_M, n_M, by decide +kernel, rfl⟩
theorem fr_M_69 : mj_fr "ClauseGlassModel" 69 4 25 := ⟨R_M, F_M, 36, rfl, rfl, by decide, i_M, Or.inl (tin_3 (List.mem_of_getElem? (i := 71) rfl) rfl)⟩
theorem fp_M_69 : mj_fp "ClauseGlassModel" 69 4 25 (.array .int) true := ⟨R_M, F_M, 36, t_M, rfl, rfl, by decide, i_M, tin_3 (List.mem_of_getElem? (i := 71) rfl) rfl, tk_M, n_M, by decide +kernel, rfl⟩
theorem fr_M_72 : mj_fr "ClauseGlassModel" 72 4 26 := ⟨R_M, F_M, 36, rfl, rfl, by decide, i_M, Or.inl (tin_3 (List.mem_of_getElem? (i := 72) rfl) rfl)⟩
theorem fp_M_72 : mj_fp "ClauseGlassModel" 72 4 26 (.array .int) true := ⟨R_M, F_M, 36, t_M, rfl, rfl, by decide, i_M, tin_3 (List.mem_of_getElem? (i := 72) rfl) rfl, tk_M, n_M, by decide +kernel, rfl⟩
theorem fr_M_136 : mj_fr "ClauseGlassModel" 136 4 27 := ⟨R_M, F_M, 36, rfl, rfl, by decide, i_M, Or.inl (tin_3 (List.mem_of_getElem? (i := 73) rfl) rfl)⟩
theorem fp_M_136 : mj_fp "ClauseGlassModel" 136 4 27 .int false := ⟨R_M, F_M, 36, t_M, rfl, rfl, by decide, i_M, tin_3 (List.mem_of_getElem? (i := 73) rfl) rfl, tk_M, n_M, by decide +kernel, rfl⟩
theorem fr_M_129 : mj_fr "ClauseGlassModel" 129 4 28 := ⟨R_M, F_M, 36, rfl, rfl, by decide, i_M, Or.inl (tin_3 (List.mem_of_getElem? (i := 74) rfl) rfl)⟩
theorem fp_M_129 : mj_fp "ClauseGlassModel" 129 4 28 .int false := ⟨R_M, F_M, 36, t_M, rfl, rfl, by decide, i_M, tin_3 (List.mem_of_getElem? (i := 74) rfl) rfl, tk_M, n_M, by decide +kernel, rfl⟩
theorem fr_M_75 : mj_fr "ClauseGlassModel" 75 4 29 := ⟨R_M, F_M, 36, rfl, rfl, by decide, i_M, Or.inl (tin_3 (List.mem_of_getElem? (i := 75) rfl) rfl)⟩
theorem fp_M_75 : mj_fp "ClauseGlassModel" 75 4 29 (.array .boolean) true := ⟨R_M, F_M, 36, t_M, rfl, rfl, by decide, i_M, tin_3 (List.mem_of_getElem? (i := 75) rfl) rfl, tk_M, n_M, by decide +kernel, rfl⟩
theorem fr_M_78 : mj_fr "ClauseGlassModel" 78 4 30 := ⟨R_M, F_M, 36, rfl, rfl, by decide, i_M, Or.inl (tin_3 (List.mem_of_getElem? (i := 76) rfl) rfl)⟩
theorem fp_M_78 : mj_fp "ClauseGlassModel" 78 4 30 (.array .int) true := ⟨R_M, F_M, 36, t_M, rfl, rfl, by decide, i_M, tin_3 (List.mem_of_getElem? (i := 76) rfl) rfl, tk_M, n_M, by decide +kernel, rfl⟩
theorem fr_M_81 : mj_fr "ClauseGlassModel" 81 4 31 := ⟨R_M, F_M, 36, rfl, rfl, by decide, i_M, Or.inl (tin_3 (List.mem_of_getElem? (i := 77) rfl) rfl)⟩
theorem fp_M_81 : mj_fp "ClauseGlassModel" 81 4 31 (.array .int) true := ⟨R_M, F_M, 36, t_M, rfl, rfl, by decide, i_M, tin_3 (List.mem_of_getElem? (i := 77) rfl) rfl, tk_M, n_M, by decide +kernel, rfl⟩
theorem fr_M_84 : mj_fr "ClauseGlassModel" 84 4 32 := ⟨R_M, F_M, 36, rfl, rfl, by decide, i_M, Or.inl (tin_3 (List.mem_of_getElem? (i := 78) rfl) rfl)⟩
theorem fp_M_84 : mj_fp "ClauseGlassModel" 84 4 32 (.array .int) true := ⟨R_M, F_M, 36, t_M, rfl, rfl, by decide, i_M, tin_3 (List.mem_of_getElem? (i := 78) rfl) rfl, tk_M, n_M, by decide +kernel, rfl⟩
theorem fr_M_143 : mj_fr "ClauseGlassModel" 143 4 33 := ⟨R_M, F_M, 36, rfl, rfl, by decide, i_M, Or.inl (tin_3 (List.mem_of_getElem? (i := 79) rfl) rfl)⟩
theorem fp_M_143 : mj_fp "ClauseGlassModel" 143 4 33 .int false := ⟨R_M, F_M, 36, t_M, rfl, rfl, by decide, i_M, tin_3 (List.mem_of_getElem? (i := 79) rfl) rfl, tk_M, n_M, by decide +kernel, rfl⟩
theorem fr_M_146 : mj_fr "ClauseGlassModel" 146 4 34 := ⟨R_M, F_M, 36, rfl, rfl, by decide, i_M, Or.inl (tin_3 (List.mem_of_getElem? (i := 80) rfl) rfl)⟩
theorem fp_M_146 : mj_fp "ClauseGlassModel" 146 4 34 .int false := ⟨R_M, F_M, 36, t_M, rfl, rfl, by decide, i_M, tin_3 (List.mem_of_getElem? (i := 80) rfl) rfl, tk_M, n_M, by decide +kernel, rfl⟩
theorem fr_M_119 : mj_fr "ClauseGlassModel" 119 4 35 := ⟨R_M, F_M, 36, rfl, rfl, by decide, i_M, Or.inl (tin_3 (List.mem_of_getElem? (i := 81) rfl) rfl)⟩
theorem fp_M_119 : mj_fp "ClauseGlassModel" 119 4 35 .int false := ⟨R_M, F_M, 36, t_M, rfl, rfl, by decide, i_M, tin_3 (List.mem_of_getElem? (i := 81) rfl) rfl, tk_M, n_M, by decide +kernel, rfl⟩
theorem fr_C_35 : mj_fr "ClauseGlass" 35 2 0 := ⟨R_S, F_S, 9, rfl, rfl, by decide, i_S, Or.inr ⟨"ClauseGlass", tin_1 (List.mem_of_getElem? (i := 28) rfl) rfl⟩⟩
theorem fr_C_61 : mj_fr "ClauseGlass" 61 2 1 := ⟨R_S, F_S, 9, rfl, rfl, by decide, i_S, Or.inr ⟨"ClauseGlass", tin_1 (List.mem_of_getElem? (i := 30) rfl) rfl⟩⟩
theorem fr_C_154 : mj_fr "ClauseGlass" 154 2 2 := ⟨R_S, F_S, 9, rfl, rfl, by decide, i_S, Or.inr ⟨"ClauseGlass", tin_1 (List.mem_of_getElem? (i := 32) rfl) rfl⟩⟩
theorem fr_C_101 : mj_fr "ClauseGlass" 101 2 5 := ⟨R_S, F_S, 9, rfl, rfl, by decide, i_S, Or.inr ⟨"ClauseGlass", tin_1 (List.mem_of_getElem? (i := 36) rfl) rfl⟩⟩
theorem fr_H_72 : mj_fr "ClauseGlass$Sheet" 72 2 6 := ⟨R_S, F_S, 9, rfl, rfl, by decide, i_S, Or.inr ⟨"ClauseGlass", tin_1 (List.mem_of_getElem? (i := 38) rfl) rfl⟩⟩
theorem fr_C_86 : mj_fr "ClauseGlass" 86 2 6 := ⟨R_S, F_S, 9, rfl, rfl, by decide, i_S, Or.inr ⟨"ClauseGlass", tin_1 (List.mem_of_getElem? (i := 39) rfl) rfl⟩⟩
theorem fr_C_148 : mj_fr "ClauseGlass" 148 0 0 := ⟨R_P, F_P, 7, rfl, rfl, by decide, i_P, Or.inr ⟨"ClauseGlass", tin_1 (List.mem_of_getElem? (i := 69) rfl) rfl⟩⟩
theorem fr_H_66 : mj_fr "ClauseGlass$Sheet" 66 0 1 := ⟨R_P, F_P, 7, rfl, rfl, by decide, i_P, Or.inr ⟨"ClauseGlass", tin_1 (List.mem_of_getElem? (i := 71) rfl) rfl⟩⟩
theorem fr_C_175 : mj_fr "ClauseGlass" 175 0 2 := ⟨R_P, F_P, 7, rfl, rfl, by decide, i_P, Or.inr ⟨"ClauseGlass", tin_1 (List.mem_of_getElem? (i := 73) rfl) rfl⟩⟩
theorem fr_H_69 : mj_fr "ClauseGlass$Sheet" 69 0 3 := ⟨R_P, F_P, 7, rfl, rfl, by decide, i_P, Or.inr ⟨"ClauseGlass", tin_1 (List.mem_of_getElem? (i := 75) rfl) rfl⟩⟩
theorem fr_H_62 : mj_fr "ClauseGlass$Sheet" 62 0 6 := ⟨R_P, F_P, 7, rfl, rfl, by decide, i_P, Or.inr ⟨"ClauseGlass", tin_1 (List.mem_of_getElem? (i := 79) rfl) rfl⟩⟩
theorem fr_C_98 : mj_fr "ClauseGlass" 98 0 6 := ⟨R_P, F_P, 7, rfl, rfl, by decide, i_P, Or.inr ⟨"ClauseGlass", tin_1 (List.mem_of_getElem? (i := 80) rfl) rfl⟩⟩
theorem fr_C_111 : mj_fr "ClauseGlass" 111 1 2 := ⟨R_H, F_H, 12, rfl, rfl, by decide, i_H, Or.inr ⟨"ClauseGlass", tin_1 (List.mem_of_getElem? (i := 111) rfl) rfl⟩⟩
theorem fr_C_114 : mj_fr "ClauseGlass" 114 1 3 := ⟨R_H, F_H, 12, rfl, rfl, by decide, i_H, Or.inr ⟨"ClauseGlass", tin_1 (List.mem_of_getElem? (i := 113) rfl) rfl⟩⟩
theorem fr_C_119 : mj_fr "ClauseGlass" 119 1 5 := ⟨R_H, F_H, 12, rfl, rfl, by decide, i_H, Or.inr ⟨"ClauseGlass", tin_1 (List.mem_of_getElem? (i := 116) rfl) rfl⟩⟩
theorem ci_L_53 : mj_ci "ClauseGlassLaw" 53 y_C_init := ⟨Or.inl (tin_1 (List.mem_of_getElem? (i := 15) rfl) rfl), tin_1 (List.mem_of_getElem? (i := 16) rfl) rfl, tin_1 (List.mem_of_getElem? (i := 1) rfl) rfl, by decide +kernel, by decide +kernel, rfl⟩
theorem cv_H_41 : mj_cv "ClauseGlass$Sheet" 41 y_H_clear 1 := ⟨Or.inl (tin_1 (List.mem_of_getElem? (i := 104) rfl) rfl), tin_1 (List.mem_of_getElem? (i := 106) rfl) rfl, tin_s (List.mem_of_getElem? (i := 0) rfl) rfl, tin_1 (List.mem_of_getElem? (i := 4) rfl) rfl, ⟨F_H, 12, rfl⟩, by decide +kernel, by decide +kernel⟩
theorem cv_L_91 : mj_cv "ClauseGlassLaw" 91 y_C_open 3 := ⟨Or.inl (tin_1 (List.mem_of_getElem? (i := 162) rfl) rfl), tin_1 (List.mem_of_getElem? (i := 163) rfl) rfl, tin_1 (List.mem_of_getElem? (i := 164) rfl) rfl, tin_1 (List.mem_of_getElem? (i := 1) rfl) rfl, ⟨F_C, 4, rfl⟩, by decide +kernel, by decide +kernel⟩
theorem cv_H_96 : mj_cv "ClauseGlass$Sheet" 96 y_H_escapes 1 := ⟨Or.inl (tin_1 (List.mem_of_getElem? (i := 174) rfl) rfl), tin_1 (List.mem_of_getElem? (i := 176) rfl) rfl, tin_s (List.mem_of_getElem? (i := 3) rfl) rfl, tin_1 (List.mem_of_getElem? (i := 4) rfl) rfl, ⟨F_H, 12, rfl⟩, by decide +kernel, by decide +kernel⟩
theorem cv_H_116 : mj_cv "ClauseGlass$Sheet" 116 y_H_rowWithLeastLeft 1 := ⟨Or.inl (tin_1 (List.mem_of_getElem? (i := 178) rfl) rfl), tin_1 (List.mem_of_getElem? (i := 180) rfl) rfl, tin_s (List.mem_of_getElem? (i := 4) rfl) rfl, tin_1 (List.mem_of_getElem? (i := 4) rfl) rfl, ⟨F_H, 12, rfl⟩, by decide +kernel, by decide +kernel⟩
theorem cs_H_140 : mj_cs "ClauseGlass$Sheet" 140 y_JL_bitCount := ⟨tin_1 (List.mem_of_getElem? (i := 183) rfl) rfl, tin_1 (List.mem_of_getElem? (i := 184) rfl) rfl, tin_1 (List.mem_of_getElem? (i := 11) rfl) rfl, by decide +kernel, by decide +kernel⟩
theorem cs_H_122 : mj_cs "ClauseGlass$Sheet" 122 y_JL_numberOfTrailingZeros := ⟨tin_1 (List.mem_of_getElem? (i := 189) rfl) rfl, tin_1 (List.mem_of_getElem? (i := 190) rfl) rfl, tin_1 (List.mem_of_getElem? (i := 11) rfl) rfl, by decide +kernel, by decide +kernel⟩
theorem cs_JL_311 : mj_cs "java/lang/Long" 311 y_JI_numberOfTrailingZeros := ⟨tin_1 (List.mem_of_getElem? (i := 192) rfl) rfl, tin_1 (List.mem_of_getElem? (i := 193) rfl) rfl, tin_1 (List.mem_of_getElem? (i := 12) rfl) rfl, by decide +kernel, by decide +kernel⟩
theorem cv_H_128 : mj_cv "ClauseGlass$Sheet" 128 y_H_rowsSilentAt 1 := ⟨Or.inl (tin_1 (List.mem_of_getElem? (i := 196) rfl) rfl), tin_1 (List.mem_of_getElem? (i := 198) rfl) rfl, tin_s (List.mem_of_getElem? (i := 5) rfl) rfl, tin_1 (List.mem_of_getElem? (i := 4) rfl) rfl, ⟨F_H, 12, rfl⟩, by decide +kernel, by decide +kernel⟩
theorem cv_H_106 : mj_cv "ClauseGlass$Sheet" 106 y_H_isAsked 1 := ⟨Or.inl (tin_1 (List.mem_of_getElem? (i := 200) rfl) rfl), tin_1 (List.mem_of_getElem? (i := 202) rfl) rfl, tin_s (List.mem_of_getElem? (i := 6) rfl) rfl, tin_1 (List.mem_of_getElem? (i := 4) rfl) rfl, ⟨F_H, 12, rfl⟩, by decide +kernel, by decide +kernel⟩
theorem cv_H_134 : mj_cv "ClauseGlass$Sheet" 134 y_H_consAskedAt 1 := ⟨Or.inl (tin_1 (List.mem_of_getElem? (i := 208) rfl) rfl), tin_1 (List.mem_of_getElem? (i := 210) rfl) rfl, tin_s (List.mem_of_getElem? (i := 8) rfl) rfl, tin_1 (List.mem_of_getElem? (i := 4) rfl) rfl, ⟨F_H, 12, rfl⟩, by decide +kernel, by decide +kernel⟩
theorem cv_H_137 : mj_cv "ClauseGlass$Sheet" 137 y_H_rowsAsking 1 := ⟨Or.inl (tin_1 (List.mem_of_getElem? (i := 212) rfl) rfl), tin_1 (List.mem_of_getElem? (i := 214) rfl) rfl, tin_s (List.mem_of_getElem? (i := 9) rfl) rfl, tin_1 (List.mem_of_getElem? (i := 4) rfl) rfl, ⟨F_H, 12, rfl⟩, by decide +kernel, by decide +kernel⟩
theorem cv_L_106 : mj_cv "ClauseGlassLaw" 106 y_C_count 3 := ⟨Or.inl (tin_1 (List.mem_of_getElem? (i := 216) rfl) rfl), tin_1 (List.mem_of_getElem? (i := 217) rfl) rfl, tin_1 (List.mem_of_getElem? (i := 218) rfl) rfl, tin_1 (List.mem_of_getElem? (i := 1) rfl) rfl, ⟨F_C, 4, rfl⟩, by decide +kernel, by decide +kernel⟩
theorem cv_H_103 : mj_cv "ClauseGlass$Sheet" 103 y_H_reaches 1 := ⟨Or.inl (tin_1 (List.mem_of_getElem? (i := 224) rfl) rfl), tin_1 (List.mem_of_getElem? (i := 226) rfl) rfl, tin_s (List.mem_of_getElem? (i := 11) rfl) rfl, tin_1 (List.mem_of_getElem? (i := 4) rfl) rfl, ⟨F_H, 12, rfl⟩, by decide +kernel, by decide +kernel⟩
theorem cv_H_88 : mj_cv "ClauseGlass$Sheet" 88 y_H_hasValue 1 := ⟨Or.inl (tin_1 (List.mem_of_getElem? (i := 228) rfl) rfl), tin_1 (List.mem_of_getElem? (i := 230) rfl) rfl, tin_s (List.mem_of_getElem? (i := 12) rfl) rfl, tin_1 (List.mem_of_getElem? (i := 4) rfl) rfl, ⟨F_H, 12, rfl⟩, by decide +kernel, by decide +kernel⟩
theorem cv_H_92 : mj_cv "ClauseGlass$Sheet" 92 y_H_rowsBeforeThatAgree 1 := ⟨Or.inl (tin_1 (List.mem_of_getElem? (i := 236) rfl) rfl), tin_1 (List.mem_of_getElem? (i := 238) rfl) rfl, tin_s (List.mem_of_getElem? (i := 14) rfl) rfl, tin_1 (List.mem_of_getElem? (i := 4) rfl) rfl, ⟨F_H, 12, rfl⟩, by decide +kernel, by decide +kernel⟩
theorem cv_H_113 : mj_cv "ClauseGlass$Sheet" 113 y_H_agree 1 := ⟨Or.inl (tin_2 (List.mem_of_getElem? (i := 0) rfl) rfl), tin_2 (List.mem_of_getElem? (i := 2) rfl) rfl, tin_s (List.mem_of_getElem? (i := 15) rfl) rfl, tin_1 (List.mem_of_getElem? (i := 4) rfl) rfl, ⟨F_H, 12, rfl⟩, by decide +kernel, by decide +kernel⟩
theorem cs_C_157 : mj_cs "ClauseGlass" 157 y_JI_bitCount := ⟨tin_2 (List.mem_of_getElem? (i := 4) rfl) rfl, tin_2 (List.mem_of_getElem? (i := 5) rfl) rfl, tin_1 (List.mem_of_getElem? (i := 12) rfl) rfl, by decide +kernel, by decide +kernel⟩
theorem cs_L_57 : mj_cs "ClauseGlassLaw" 57 y_L_sort := ⟨tin_2 (List.mem_of_getElem? (i := 10) rfl) rfl, tin_2 (List.mem_of_getElem? (i := 11) rfl) rfl, tin_1 (List.mem_of_getElem? (i := 0) rfl) rfl, by decide +kernel, by decide +kernel⟩
theorem cv_L_7 : mj_cv "ClauseGlassLaw" 7 y_C_sort 3 := ⟨Or.inl (tin_2 (List.mem_of_getElem? (i := 14) rfl) rfl), tin_2 (List.mem_of_getElem? (i := 15) rfl) rfl, tin_2 (List.mem_of_getElem? (i := 16) rfl) rfl, tin_1 (List.mem_of_getElem? (i := 1) rfl) rfl, ⟨F_C, 4, rfl⟩, by decide +kernel, by decide +kernel⟩
theorem cs_L_66 : mj_cs "ClauseGlassLaw" 66 y_L_con := ⟨tin_2 (List.mem_of_getElem? (i := 89) rfl) rfl, tin_2 (List.mem_of_getElem? (i := 90) rfl) rfl, tin_1 (List.mem_of_getElem? (i := 0) rfl) rfl, by decide +kernel, by decide +kernel⟩
theorem cv_L_15 : mj_cv "ClauseGlassLaw" 15 y_C_con 3 := ⟨Or.inl (tin_2 (List.mem_of_getElem? (i := 93) rfl) rfl), tin_2 (List.mem_of_getElem? (i := 94) rfl) rfl, tin_2 (List.mem_of_getElem? (i := 95) rfl) rfl, tin_1 (List.mem_of_getElem? (i := 1) rfl) rfl, ⟨F_C, 4, rfl⟩, by decide +kernel, by decide +kernel⟩
theorem cv_C_50 : mj_cv "ClauseGlass" 50 y_C_needSort 3 := ⟨Or.inl (tin_2 (List.mem_of_getElem? (i := 97) rfl) rfl), tin_2 (List.mem_of_getElem? (i := 99) rfl) rfl, tin_s (List.mem_of_getElem? (i := 18) rfl) rfl, tin_1 (List.mem_of_getElem? (i := 1) rfl) rfl, ⟨F_C, 4, rfl⟩, by decide +kernel, by decide +kernel⟩
theorem cv_S_40 : mj_cv "ClauseGlass$Sorts" 40 y_S_findLiving 2 := ⟨Or.inl (tin_2 (List.mem_of_getElem? (i := 128) rfl) rfl), tin_2 (List.mem_of_getElem? (i := 130) rfl) rfl, tin_s (List.mem_of_getElem? (i := 21) rfl) rfl, tin_1 (List.mem_of_getElem? (i := 2) rfl) rfl, ⟨F_S, 9, rfl⟩, by decide +kernel, by decide +kernel⟩
theorem cv_S_43 : mj_cv "ClauseGlass$Sorts" 43 y_S_consWithLivingParts 2 := ⟨Or.inl (tin_2 (List.mem_of_getElem? (i := 132) rfl) rfl), tin_2 (List.mem_of_getElem? (i := 134) rfl) rfl, tin_s (List.mem_of_getElem? (i := 22) rfl) rfl, tin_1 (List.mem_of_getElem? (i := 2) rfl) rfl, ⟨F_S, 9, rfl⟩, by decide +kernel, by decide +kernel⟩
theorem cv_S_50 : mj_cv "ClauseGlass$Sorts" 50 y_S_partSort 2 := ⟨Or.inl (tin_2 (List.mem_of_getElem? (i := 136) rfl) rfl), tin_2 (List.mem_of_getElem? (i := 138) rfl) rfl, tin_s (List.mem_of_getElem? (i := 23) rfl) rfl, tin_1 (List.mem_of_getElem? (i := 2) rfl) rfl, ⟨F_S, 9, rfl⟩, by decide +kernel, by decide +kernel⟩
theorem cv_S_54 : mj_cv "ClauseGlass$Sorts" 54 y_S_isSortLiving 2 := ⟨Or.inl (tin_2 (List.mem_of_getElem? (i := 140) rfl) rfl), tin_1 (List.mem_of_getElem? (i := 172) rfl) rfl, tin_s (List.mem_of_getElem? (i := 2) rfl) rfl, tin_1 (List.mem_of_getElem? (i := 2) rfl) rfl, ⟨F_S, 9, rfl⟩, by decide +kernel, by decide +kernel⟩
theorem cv_S_47 : mj_cv "ClauseGlass$Sorts" 47 y_S_sortsWithLivingCons 2 := ⟨Or.inl (tin_2 (List.mem_of_getElem? (i := 141) rfl) rfl), tin_2 (List.mem_of_getElem? (i := 143) rfl) rfl, tin_s (List.mem_of_getElem? (i := 24) rfl) rfl, tin_1 (List.mem_of_getElem? (i := 2) rfl) rfl, ⟨F_S, 9, rfl⟩, by decide +kernel, by decide +kernel⟩
theorem cv_S_58 : mj_cv "ClauseGlass$Sorts" 58 y_S_livingConsOf 2 := ⟨Or.inl (tin_2 (List.mem_of_getElem? (i := 145) rfl) rfl), tin_1 (List.mem_of_getElem? (i := 206) rfl) rfl, tin_s (List.mem_of_getElem? (i := 7) rfl) rfl, tin_1 (List.mem_of_getElem? (i := 2) rfl) rfl, ⟨F_S, 9, rfl⟩, by decide +kernel, by decide +kernel⟩
theorem cs_L_70 : mj_cs "ClauseGlassLaw" 70 y_L_any := ⟨tin_2 (List.mem_of_getElem? (i := 146) rfl) rfl, tin_2 (List.mem_of_getElem? (i := 147) rfl) rfl, tin_1 (List.mem_of_getElem? (i := 0) rfl) rfl, by decide +kernel, by decide +kernel⟩
theorem cv_L_21 : mj_cv "ClauseGlassLaw" 21 y_C_any 3 := ⟨Or.inl (tin_2 (List.mem_of_getElem? (i := 149) rfl) rfl), tin_2 (List.mem_of_getElem? (i := 150) rfl) rfl, tin_2 (List.mem_of_getElem? (i := 151) rfl) rfl, tin_1 (List.mem_of_getElem? (i := 1) rfl) rfl, ⟨F_C, 4, rfl⟩, by decide +kernel, by decide +kernel⟩
theorem cv_C_70 : mj_cv "ClauseGlass" 70 y_C_needRoomForPattern 3 := ⟨Or.inl (tin_2 (List.mem_of_getElem? (i := 153) rfl) rfl), tin_2 (List.mem_of_getElem? (i := 155) rfl) rfl, tin_s (List.mem_of_getElem? (i := 25) rfl) rfl, tin_1 (List.mem_of_getElem? (i := 1) rfl) rfl, ⟨F_C, 4, rfl⟩, by decide +kernel, by decide +kernel⟩
theorem cv_P_34 : mj_cv "ClauseGlass$Patterns" 34 y_P_addPattern 0 := ⟨Or.inl (tin_2 (List.mem_of_getElem? (i := 163) rfl) rfl), tin_2 (List.mem_of_getElem? (i := 165) rfl) rfl, tin_s (List.mem_of_getElem? (i := 27) rfl) rfl, tin_1 (List.mem_of_getElem? (i := 3) rfl) rfl, ⟨F_P, 7, rfl⟩, by decide +kernel, by decide +kernel⟩
theorem cs_L_74 : mj_cs "ClauseGlassLaw" 74 y_L_number := ⟨tin_2 (List.mem_of_getElem? (i := 167) rfl) rfl, tin_2 (List.mem_of_getElem? (i := 168) rfl) rfl, tin_1 (List.mem_of_getElem? (i := 0) rfl) rfl, by decide +kernel, by decide +kernel⟩
theorem cv_L_25 : mj_cv "ClauseGlassLaw" 25 y_C_number 3 := ⟨Or.inl (tin_2 (List.mem_of_getElem? (i := 170) rfl) rfl), tin_2 (List.mem_of_getElem? (i := 171) rfl) rfl, tin_2 (List.mem_of_getElem? (i := 172) rfl) rfl, tin_1 (List.mem_of_getElem? (i := 1) rfl) rfl, ⟨F_C, 4, rfl⟩, by decide +kernel, by decide +kernel⟩
theorem cs_L_77 : mj_cs "ClauseGlassLaw" 77 y_L_made := ⟨tin_2 (List.mem_of_getElem? (i := 178) rfl) rfl, tin_2 (List.mem_of_getElem? (i := 179) rfl) rfl, tin_1 (List.mem_of_getElem? (i := 0) rfl) rfl, by decide +kernel, by decide +kernel⟩
theorem cv_L_28 : mj_cv "ClauseGlassLaw" 28 y_C_made 3 := ⟨Or.inl (tin_2 (List.mem_of_getElem? (i := 181) rfl) rfl), tin_2 (List.mem_of_getElem? (i := 182) rfl) rfl, tin_2 (List.mem_of_getElem? (i := 183) rfl) rfl, tin_1 (List.mem_of_getElem? (i := 1) rfl) rfl, ⟨F_C, 4, rfl⟩, by decide +kernel, by decide +kernel⟩
theorem cv_C_94 : mj_cv "ClauseGlass" 94 y_C_needPatternOf 3 := ⟨Or.inl (tin_2 (List.mem_of_getElem? (i := 191) rfl) rfl), tin_2 (List.mem_of_getElem? (i := 193) rfl) rfl, tin_s (List.mem_of_getElem? (i := 30) rfl) rfl, tin_1 (List.mem_of_getElem? (i := 1) rfl) rfl, ⟨F_C, 4, rfl⟩, by decide +kernel, by decide +kernel⟩
theorem cv_C_172 : mj_cv "ClauseGlass" 172 y_C_needPattern 3 := ⟨Or.inl (tin_2 (List.mem_of_getElem? (i := 195) rfl) rfl), tin_2 (List.mem_of_getElem? (i := 197) rfl) rfl, tin_s (List.mem_of_getElem? (i := 31) rfl) rfl, tin_1 (List.mem_of_getElem? (i := 1) rfl) rfl, ⟨F_C, 4, rfl⟩, by decide +kernel, by decide +kernel⟩
theorem cs_L_81 : mj_cs "ClauseGlassLaw" 81 y_L_begin := ⟨tin_2 (List.mem_of_getElem? (i := 209) rfl) rfl, tin_2 (List.mem_of_getElem? (i := 210) rfl) rfl, tin_1 (List.mem_of_getElem? (i := 0) rfl) rfl, by decide +kernel, by decide +kernel⟩
theorem cv_L_32 : mj_cv "ClauseGlassLaw" 32 y_C_begin 3 := ⟨Or.inl (tin_2 (List.mem_of_getElem? (i := 212) rfl) rfl), tin_2 (List.mem_of_getElem? (i := 213) rfl) rfl, tin_2 (List.mem_of_getElem? (i := 214) rfl) rfl, tin_1 (List.mem_of_getElem? (i := 1) rfl) rfl, ⟨F_C, 4, rfl⟩, by decide +kernel, by decide +kernel⟩
theorem cs_L_85 : mj_cs "ClauseGlassLaw" 85 y_L_clause := ⟨tin_2 (List.mem_of_getElem? (i := 217) rfl) rfl, tin_2 (List.mem_of_getElem? (i := 218) rfl) rfl, tin_1 (List.mem_of_getElem? (i := 0) rfl) rfl, by decide +kernel, by decide +kernel⟩
theorem cv_L_36 : mj_cv "ClauseGlassLaw" 36 y_C_clause 3 := ⟨Or.inl (tin_2 (List.mem_of_getElem? (i := 220) rfl) rfl), tin_2 (List.mem_of_getElem? (i := 221) rfl) rfl, tin_2 (List.mem_of_getElem? (i := 222) rfl) rfl, tin_1 (List.mem_of_getElem? (i := 1) rfl) rfl, ⟨F_C, 4, rfl⟩, by decide +kernel, by decide +kernel⟩
theorem cv_H_58 : mj_cv "ClauseGlass$Sheet" 58 y_H_layPart 1 := ⟨Or.inl (tin_2 (List.mem_of_getElem? (i := 230) rfl) rfl), tin_2 (List.mem_of_getElem? (i := 232) rfl) rfl, tin_s (List.mem_of_getElem? (i := 35) rfl) rfl, tin_1 (List.mem_of_getElem? (i := 4) rfl) rfl, ⟨F_H, 12, rfl⟩, by decide +kernel, by decide +kernel⟩
theorem cv_H_81 : mj_cv "ClauseGlass$Sheet" 81 y_H_placeBelow 1 := ⟨Or.inl (tin_2 (List.mem_of_getElem? (i := 238) rfl) rfl), tin_3 (List.mem_of_getElem? (i := 0) rfl) rfl, tin_s (List.mem_of_getElem? (i := 37) rfl) rfl, tin_1 (List.mem_of_getElem? (i := 4) rfl) rfl, ⟨F_H, 12, rfl⟩, by decide +kernel, by decide +kernel⟩
theorem cs_L_88 : mj_cs "ClauseGlassLaw" 88 y_L_takes := ⟨tin_3 (List.mem_of_getElem? (i := 4) rfl) rfl, tin_3 (List.mem_of_getElem? (i := 5) rfl) rfl, tin_1 (List.mem_of_getElem? (i := 0) rfl) rfl, by decide +kernel, by decide +kernel⟩
theorem cv_L_40 : mj_cv "ClauseGlassLaw" 40 y_C_takes 3 := ⟨Or.inl (tin_3 (List.mem_of_getElem? (i := 7) rfl) rfl), tin_3 (List.mem_of_getElem? (i := 8) rfl) rfl, tin_3 (List.mem_of_getElem? (i := 9) rfl) rfl, tin_1 (List.mem_of_getElem? (i := 1) rfl) rfl, ⟨F_C, 4, rfl⟩, by decide +kernel, by decide +kernel⟩
theorem cs_L_96 : mj_cs "ClauseGlassLaw" 96 y_L_covers := ⟨tin_3 (List.mem_of_getElem? (i := 12) rfl) rfl, tin_3 (List.mem_of_getElem? (i := 13) rfl) rfl, tin_1 (List.mem_of_getElem? (i := 0) rfl) rfl, by decide +kernel, by decide +kernel⟩
theorem cv_L_43 : mj_cv "ClauseGlassLaw" 43 y_C_covers 3 := ⟨Or.inl (tin_3 (List.mem_of_getElem? (i := 15) rfl) rfl), tin_3 (List.mem_of_getElem? (i := 16) rfl) rfl, tin_3 (List.mem_of_getElem? (i := 17) rfl) rfl, tin_1 (List.mem_of_getElem? (i := 1) rfl) rfl, ⟨F_C, 4, rfl⟩, by decide +kernel, by decide +kernel⟩
theorem cv_C_135 : mj_cv "ClauseGlass" 135 y_C_layPair 3 := ⟨Or.inl (tin_3 (List.mem_of_getElem? (i := 19) rfl) rfl), tin_3 (List.mem_of_getElem? (i := 21) rfl) rfl, tin_s (List.mem_of_getElem? (i := 38) rfl) rfl, tin_1 (List.mem_of_getElem? (i := 1) rfl) rfl, ⟨F_C, 4, rfl⟩, by decide +kernel, by decide +kernel⟩
theorem cs_L_100 : mj_cs "ClauseGlassLaw" 100 y_L_meets := ⟨tin_3 (List.mem_of_getElem? (i := 23) rfl) rfl, tin_3 (List.mem_of_getElem? (i := 24) rfl) rfl, tin_1 (List.mem_of_getElem? (i := 0) rfl) rfl, by decide +kernel, by decide +kernel⟩
theorem cv_L_47 : mj_cv "ClauseGlassLaw" 47 y_C_meets 3 := ⟨Or.inl (tin_3 (List.mem_of_getElem? (i := 26) rfl) rfl), tin_3 (List.mem_of_getElem? (i := 27) rfl) rfl, tin_3 (List.mem_of_getElem? (i := 28) rfl) rfl, tin_1 (List.mem_of_getElem? (i := 1) rfl) rfl, ⟨F_C, 4, rfl⟩, by decide +kernel, by decide +kernel⟩
theorem cs_L_103 : mj_cs "ClauseGlassLaw" 103 y_L_lives := ⟨tin_3 (List.mem_of_getElem? (i := 32) rfl) rfl, tin_3 (List.mem_of_getElem? (i := 33) rfl) rfl, tin_1 (List.mem_of_getElem? (i := 0) rfl) rfl, by decide +kernel, by decide +kernel⟩
theorem cv_L_50 : mj_cv "ClauseGlassLaw" 50 y_C_lives 3 := ⟨Or.inl (tin_3 (List.mem_of_getElem? (i := 35) rfl) rfl), tin_3 (List.mem_of_getElem? (i := 36) rfl) rfl, tin_3 (List.mem_of_getElem? (i := 37) rfl) rfl, tin_1 (List.mem_of_getElem? (i := 1) rfl) rfl, ⟨F_C, 4, rfl⟩, by decide +kernel, by decide +kernel⟩
theorem ci_L_56 : mj_ci "ClauseGlassLaw" 56 y_M_init := ⟨Or.inl (tin_3 (List.mem_of_getElem? (i := 42) rfl) rfl), tin_3 (List.mem_of_getElem? (i := 43) rfl) rfl, tin_1 (List.mem_of_getElem? (i := 5) rfl) rfl, by decide +kernel, by decide +kernel, rfl⟩
theorem cv_L_63 : mj_cv "ClauseGlassLaw" 63 y_M_thrown 4 := ⟨Or.inl (tin_3 (List.mem_of_getElem? (i := 156) rfl) rfl), tin_3 (List.mem_of_getElem? (i := 157) rfl) rfl, tin_3 (List.mem_of_getElem? (i := 158) rfl) rfl, tin_1 (List.mem_of_getElem? (i := 5) rfl) rfl, ⟨F_M, 36, rfl⟩, by decide +kernel, by decide +kernel⟩
theorem cv_L_62 : mj_cv "ClauseGlassLaw" 62 y_M_sort 4 := ⟨Or.inl (tin_3 (List.mem_of_getElem? (i := 160) rfl) rfl), tin_3 (List.mem_of_getElem? (i := 161) rfl) rfl, tin_3 (List.mem_of_getElem? (i := 162) rfl) rfl, tin_1 (List.mem_of_getElem? (i := 5) rfl) rfl, ⟨F_M, 36, rfl⟩, by decide +kernel, by decide +kernel⟩
theorem cv_L_69 : mj_cv "ClauseGlassLaw" 69 y_M_con 4 := ⟨Or.inl (tin_3 (List.mem_of_getElem? (i := 164) rfl) rfl), tin_3 (List.mem_of_getElem? (i := 165) rfl) rfl, tin_3 (List.mem_of_getElem? (i := 166) rfl) rfl, tin_1 (List.mem_of_getElem? (i := 5) rfl) rfl, ⟨F_M, 36, rfl⟩, by decide +kernel, by decide +kernel⟩
theorem cv_M_93 : mj_cv "ClauseGlassModel" 93 y_M_isSort 4 := ⟨Or.inl (tin_3 (List.mem_of_getElem? (i := 168) rfl) rfl), tin_3 (List.mem_of_getElem? (i := 170) rfl) rfl, tin_s (List.mem_of_getElem? (i := 39) rfl) rfl, tin_1 (List.mem_of_getElem? (i := 5) rfl) rfl, ⟨F_M, 36, rfl⟩, by decide +kernel, by decide +kernel⟩
theorem cv_L_73 : mj_cv "ClauseGlassLaw" 73 y_M_any 4 := ⟨Or.inl (tin_3 (List.mem_of_getElem? (i := 172) rfl) rfl), tin_3 (List.mem_of_getElem? (i := 173) rfl) rfl, tin_3 (List.mem_of_getElem? (i := 174) rfl) rfl, tin_1 (List.mem_of_getElem? (i := 5) rfl) rfl, ⟨F_M, 36, rfl⟩, by decide +kernel, by decide +kernel⟩
theorem cv_M_100 : mj_cv "ClauseGlassModel" 100 y_M_pattern 4 := ⟨Or.inl (tin_3 (List.mem_of_getElem? (i := 176) rfl) rfl), tin_3 (List.mem_of_getElem? (i := 178) rfl) rfl, tin_s (List.mem_of_getElem? (i := 40) rfl) rfl, tin_1 (List.mem_of_getElem? (i := 5) rfl) rfl, ⟨F_M, 36, rfl⟩, by decide +kernel, by decide +kernel⟩
theorem cv_L_76 : mj_cv "ClauseGlassLaw" 76 y_M_number 4 := ⟨Or.inl (tin_3 (List.mem_of_getElem? (i := 180) rfl) rfl), tin_3 (List.mem_of_getElem? (i := 181) rfl) rfl, tin_3 (List.mem_of_getElem? (i := 182) rfl) rfl, tin_1 (List.mem_of_getElem? (i := 5) rfl) rfl, ⟨F_M, 36, rfl⟩, by decide +kernel, by decide +kernel⟩
theorem cv_L_80 : mj_cv "ClauseGlassLaw" 80 y_M_made 4 := ⟨Or.inl (tin_3 (List.mem_of_getElem? (i := 184) rfl) rfl), tin_3 (List.mem_of_getElem? (i := 185) rfl) rfl, tin_3 (List.mem_of_getElem? (i := 186) rfl) rfl, tin_1 (List.mem_of_getElem? (i := 5) rfl) rfl, ⟨F_M, 36, rfl⟩, by decide +kernel, by decide +kernel⟩
theorem cv_M_104 : mj_cv "ClauseGlassModel" 104 y_M_isPattern 4 := ⟨Or.inl (tin_3 (List.mem_of_getElem? (i := 188) rfl) rfl), tin_3 (List.mem_of_getElem? (i := 190) rfl) rfl, tin_s (List.mem_of_getElem? (i := 41) rfl) rfl, tin_1 (List.mem_of_getElem? (i := 5) rfl) rfl, ⟨F_M, 36, rfl⟩, by decide +kernel, by decide +kernel⟩
theorem cv_L_84 : mj_cv "ClauseGlassLaw" 84 y_M_begin 4 := ⟨Or.inl (tin_3 (List.mem_of_getElem? (i := 192) rfl) rfl), tin_3 (List.mem_of_getElem? (i := 193) rfl) rfl, tin_3 (List.mem_of_getElem? (i := 194) rfl) rfl, tin_1 (List.mem_of_getElem? (i := 5) rfl) rfl, ⟨F_M, 36, rfl⟩, by decide +kernel, by decide +kernel⟩
theorem cv_L_87 : mj_cv "ClauseGlassLaw" 87 y_M_clause 4 := ⟨Or.inl (tin_3 (List.mem_of_getElem? (i := 196) rfl) rfl), tin_3 (List.mem_of_getElem? (i := 197) rfl) rfl, tin_3 (List.mem_of_getElem? (i := 198) rfl) rfl, tin_1 (List.mem_of_getElem? (i := 5) rfl) rfl, ⟨F_M, 36, rfl⟩, by decide +kernel, by decide +kernel⟩
theorem cv_M_165 : mj_cv "ClauseGlassModel" 165 y_M_reaches 4 := ⟨Or.inl (tin_3 (List.mem_of_getElem? (i := 200) rfl) rfl), tin_3 (List.mem_of_getElem? (i := 202) rfl) rfl, tin_s (List.mem_of_getElem? (i := 42) rfl) rfl, tin_1 (List.mem_of_getElem? (i := 5) rfl) rfl, ⟨F_M, 36, rfl⟩, by decide +kernel, by decide +kernel⟩
theorem cv_M_162 : mj_cv "ClauseGlassModel" 162 y_M_has 4 := ⟨Or.inl (tin_3 (List.mem_of_getElem? (i := 204) rfl) rfl), tin_3 (List.mem_of_getElem? (i := 206) rfl) rfl, tin_s (List.mem_of_getElem? (i := 43) rfl) rfl, tin_1 (List.mem_of_getElem? (i := 5) rfl) rfl, ⟨F_M, 36, rfl⟩, by decide +kernel, by decide +kernel⟩
theorem cv_M_153 : mj_cv "ClauseGlassModel" 153 y_M_live 4 := ⟨Or.inl (tin_3 (List.mem_of_getElem? (i := 208) rfl) rfl), tin_3 (List.mem_of_getElem? (i := 210) rfl) rfl, tin_s (List.mem_of_getElem? (i := 44) rfl) rfl, tin_1 (List.mem_of_getElem? (i := 5) rfl) rfl, ⟨F_M, 36, rfl⟩, by decide +kernel, by decide +kernel⟩
theorem cv_M_113 : mj_cv "ClauseGlassModel" 113 y_M_isUsed 4 := ⟨Or.inl (tin_3 (List.mem_of_getElem? (i := 212) rfl) rfl), tin_3 (List.mem_of_getElem? (i := 214) rfl) rfl, tin_s (List.mem_of_getElem? (i := 45) rfl) rfl, tin_1 (List.mem_of_getElem? (i := 5) rfl) rfl, ⟨F_M, 36, rfl⟩, by decide +kernel, by decide +kernel⟩
theorem cv_M_149 : mj_cv "ClauseGlassModel" 149 y_M_gather 4 := ⟨Or.inl (tin_3 (List.mem_of_getElem? (i := 216) rfl) rfl), tin_3 (List.mem_of_getElem? (i := 218) rfl) rfl, tin_s (List.mem_of_getElem? (i := 46) rfl) rfl, tin_1 (List.mem_of_getElem? (i := 5) rfl) rfl, ⟨F_M, 36, rfl⟩, by decide +kernel, by decide +kernel⟩
theorem cv_M_156 : mj_cv "ClauseGlassModel" 156 y_M_look 4 := ⟨Or.inl (tin_3 (List.mem_of_getElem? (i := 220) rfl) rfl), tin_3 (List.mem_of_getElem? (i := 222) rfl) rfl, tin_s (List.mem_of_getElem? (i := 47) rfl) rfl, tin_1 (List.mem_of_getElem? (i := 5) rfl) rfl, ⟨F_M, 36, rfl⟩, by decide +kernel, by decide +kernel⟩
theorem cv_M_125 : mj_cv "ClauseGlassModel" 125 y_M_node 4 := ⟨Or.inl (tin_3 (List.mem_of_getElem? (i := 224) rfl) rfl), tin_3 (List.mem_of_getElem? (i := 226) rfl) rfl, tin_s (List.mem_of_getElem? (i := 48) rfl) rfl, tin_1 (List.mem_of_getElem? (i := 5) rfl) rfl, ⟨F_M, 36, rfl⟩, by decide +kernel, by decide +kernel⟩
theorem cv_M_139 : mj_cv "ClauseGlassModel" 139 y_M_fill 4 := ⟨Or.inl (tin_3 (List.mem_of_getElem? (i := 228) rfl) rfl), tin_3 (List.mem_of_getElem? (i := 230) rfl) rfl, tin_s (List.mem_of_getElem? (i := 49) rfl) rfl, tin_1 (List.mem_of_getElem? (i := 5) rfl) rfl, ⟨F_M, 36, rfl⟩, by decide +kernel, by decide +kernel⟩
theorem cv_M_122 : mj_cv "ClauseGlassModel" 122 y_M_isTried 4 := ⟨Or.inl (tin_3 (List.mem_of_getElem? (i := 232) rfl) rfl), tin_3 (List.mem_of_getElem? (i := 234) rfl) rfl, tin_s (List.mem_of_getElem? (i := 50) rfl) rfl, tin_1 (List.mem_of_getElem? (i := 5) rfl) rfl, ⟨F_M, 36, rfl⟩, by decide +kernel, by decide +kernel⟩
theorem cv_M_132 : mj_cv "ClauseGlassModel" 132 y_M_fit 4 := ⟨Or.inl (tin_3 (List.mem_of_getElem? (i := 236) rfl) rfl), tin_3 (List.mem_of_getElem? (i := 238) rfl) rfl, tin_s (List.mem_of_getElem? (i := 51) rfl) rfl, tin_1 (List.mem_of_getElem? (i := 5) rfl) rfl, ⟨F_M, 36, rfl⟩, by decide +kernel, by decide +kernel⟩
theorem cv_M_159 : mj_cv "ClauseGlassModel" 159 y_M_options 4 := ⟨Or.inl (tin_4 (List.mem_of_getElem? (i := 0) rfl) rfl), tin_4 (List.mem_of_getElem? (i := 2) rfl) rfl, tin_s (List.mem_of_getElem? (i := 52) rfl) rfl, tin_1 (List.mem_of_getElem? (i := 5) rfl) rfl, ⟨F_M, 36, rfl⟩, by decide +kernel, by decide +kernel⟩
theorem cv_L_90 : mj_cv "ClauseGlassLaw" 90 y_M_takes 4 := ⟨Or.inl (tin_4 (List.mem_of_getElem? (i := 4) rfl) rfl), tin_4 (List.mem_of_getElem? (i := 5) rfl) rfl, tin_4 (List.mem_of_getElem? (i := 6) rfl) rfl, tin_1 (List.mem_of_getElem? (i := 5) rfl) rfl, ⟨F_M, 36, rfl⟩, by decide +kernel, by decide +kernel⟩
theorem cv_L_95 : mj_cv "ClauseGlassLaw" 95 y_M_open 4 := ⟨Or.inl (tin_4 (List.mem_of_getElem? (i := 8) rfl) rfl), tin_4 (List.mem_of_getElem? (i := 9) rfl) rfl, tin_4 (List.mem_of_getElem? (i := 10) rfl) rfl, tin_1 (List.mem_of_getElem? (i := 5) rfl) rfl, ⟨F_M, 36, rfl⟩, by decide +kernel, by decide +kernel⟩
theorem cv_L_99 : mj_cv "ClauseGlassLaw" 99 y_M_covers 4 := ⟨Or.inl (tin_4 (List.mem_of_getElem? (i := 12) rfl) rfl), tin_4 (List.mem_of_getElem? (i := 13) rfl) rfl, tin_4 (List.mem_of_getElem? (i := 14) rfl) rfl, tin_1 (List.mem_of_getElem? (i := 5) rfl) rfl, ⟨F_M, 36, rfl⟩, by decide +kernel, by decide +kernel⟩
theorem cv_M_168 : mj_cv "ClauseGlassModel" 168 y_M_areLike 4 := ⟨Or.inl (tin_4 (List.mem_of_getElem? (i := 16) rfl) rfl), tin_4 (List.mem_of_getElem? (i := 18) rfl) rfl, tin_s (List.mem_of_getElem? (i := 53) rfl) rfl, tin_1 (List.mem_of_getElem? (i := 5) rfl) rfl, ⟨F_M, 36, rfl⟩, by decide +kernel, by decide +kernel⟩
theorem cv_L_102 : mj_cv "ClauseGlassLaw" 102 y_M_meets 4 := ⟨Or.inl (tin_4 (List.mem_of_getElem? (i := 20) rfl) rfl), tin_4 (List.mem_of_getElem? (i := 21) rfl) rfl, tin_4 (List.mem_of_getElem? (i := 22) rfl) rfl, tin_1 (List.mem_of_getElem? (i := 5) rfl) rfl, ⟨F_M, 36, rfl⟩, by decide +kernel, by decide +kernel⟩
theorem cv_L_105 : mj_cv "ClauseGlassLaw" 105 y_M_lives 4 := ⟨Or.inl (tin_4 (List.mem_of_getElem? (i := 24) rfl) rfl), tin_4 (List.mem_of_getElem? (i := 25) rfl) rfl, tin_4 (List.mem_of_getElem? (i := 26) rfl) rfl, tin_1 (List.mem_of_getElem? (i := 5) rfl) rfl, ⟨F_M, 36, rfl⟩, by decide +kernel, by decide +kernel⟩
theorem cv_L_109 : mj_cv "ClauseGlassLaw" 109 y_M_count 4 := ⟨Or.inl (tin_4 (List.mem_of_getElem? (i := 28) rfl) rfl), tin_4 (List.mem_of_getElem? (i := 29) rfl) rfl, tin_4 (List.mem_of_getElem? (i := 30) rfl) rfl, tin_1 (List.mem_of_getElem? (i := 5) rfl) rfl, ⟨F_M, 36, rfl⟩, by decide +kernel, by decide +kernel⟩
theorem ci_C_9 : mj_ci "ClauseGlass" 9 y_S_init := ⟨Or.inr ⟨"ClauseGlass", tin_1 (List.mem_of_getElem? (i := 23) rfl) rfl⟩, tin_1 (List.mem_of_getElem? (i := 24) rfl) rfl, tin_1 (List.mem_of_getElem? (i := 2) rfl) rfl, by decide +kernel, by decide +kernel, rfl⟩
theorem ci_C_18 : mj_ci "ClauseGlass" 18 y_P_init := ⟨Or.inr ⟨"ClauseGlass", tin_1 (List.mem_of_getElem? (i := 64) rfl) rfl⟩, tin_1 (List.mem_of_getElem? (i := 65) rfl) rfl, tin_1 (List.mem_of_getElem? (i := 3) rfl) rfl, by decide +kernel, by decide +kernel, rfl⟩
theorem ci_C_25 : mj_ci "ClauseGlass" 25 y_H_init := ⟨Or.inr ⟨"ClauseGlass", tin_1 (List.mem_of_getElem? (i := 98) rfl) rfl⟩, tin_1 (List.mem_of_getElem? (i := 99) rfl) rfl, tin_1 (List.mem_of_getElem? (i := 4) rfl) rfl, by decide +kernel, by decide +kernel, rfl⟩
theorem cv_C_131 : mj_cv "ClauseGlass" 131 y_H_leavesSome 1 := ⟨Or.inr ⟨"ClauseGlass", tin_1 (List.mem_of_getElem? (i := 166) rfl) rfl⟩, tin_1 (List.mem_of_getElem? (i := 168) rfl) rfl, tin_s (List.mem_of_getElem? (i := 1) rfl) rfl, tin_1 (List.mem_of_getElem? (i := 4) rfl) rfl, ⟨F_H, 12, rfl⟩, by decide +kernel, by decide +kernel⟩
theorem cv_H_100 : mj_cv "ClauseGlass$Sheet" 100 y_S_isSortLiving 2 := ⟨Or.inr ⟨"ClauseGlass", tin_1 (List.mem_of_getElem? (i := 170) rfl) rfl⟩, tin_1 (List.mem_of_getElem? (i := 172) rfl) rfl, tin_s (List.mem_of_getElem? (i := 2) rfl) rfl, tin_1 (List.mem_of_getElem? (i := 2) rfl) rfl, ⟨F_S, 9, rfl⟩, by decide +kernel, by decide +kernel⟩
theorem cv_H_131 : mj_cv "ClauseGlass$Sheet" 131 y_S_livingConsOf 2 := ⟨Or.inr ⟨"ClauseGlass", tin_1 (List.mem_of_getElem? (i := 204) rfl) rfl⟩, tin_1 (List.mem_of_getElem? (i := 206) rfl) rfl, tin_s (List.mem_of_getElem? (i := 7) rfl) rfl, tin_1 (List.mem_of_getElem? (i := 2) rfl) rfl, ⟨F_S, 9, rfl⟩, by decide +kernel, by decide +kernel⟩
theorem cv_C_151 : mj_cv "ClauseGlass" 151 y_H_reachedRows 1 := ⟨Or.inr ⟨"ClauseGlass", tin_1 (List.mem_of_getElem? (i := 220) rfl) rfl⟩, tin_1 (List.mem_of_getElem? (i := 222) rfl) rfl, tin_s (List.mem_of_getElem? (i := 10) rfl) rfl, tin_1 (List.mem_of_getElem? (i := 4) rfl) rfl, ⟨F_H, 12, rfl⟩, by decide +kernel, by decide +kernel⟩
theorem cv_H_110 : mj_cv "ClauseGlass$Sheet" 110 y_S_isConLiving 2 := ⟨Or.inr ⟨"ClauseGlass", tin_1 (List.mem_of_getElem? (i := 232) rfl) rfl⟩, tin_1 (List.mem_of_getElem? (i := 234) rfl) rfl, tin_s (List.mem_of_getElem? (i := 13) rfl) rfl, tin_1 (List.mem_of_getElem? (i := 2) rfl) rfl, ⟨F_S, 9, rfl⟩, by decide +kernel, by decide +kernel⟩
theorem cv_C_46 : mj_cv "ClauseGlass" 46 y_S_addSort 2 := ⟨Or.inr ⟨"ClauseGlass", tin_2 (List.mem_of_getElem? (i := 85) rfl) rfl⟩, tin_2 (List.mem_of_getElem? (i := 87) rfl) rfl, tin_s (List.mem_of_getElem? (i := 17) rfl) rfl, tin_1 (List.mem_of_getElem? (i := 2) rfl) rfl, ⟨F_S, 9, rfl⟩, by decide +kernel, by decide +kernel⟩
theorem cv_C_162 : mj_cv "ClauseGlass" 162 y_S_hasSort 2 := ⟨Or.inr ⟨"ClauseGlass", tin_2 (List.mem_of_getElem? (i := 101) rfl) rfl⟩, tin_2 (List.mem_of_getElem? (i := 103) rfl) rfl, tin_s (List.mem_of_getElem? (i := 19) rfl) rfl, tin_1 (List.mem_of_getElem? (i := 2) rfl) rfl, ⟨F_S, 9, rfl⟩, by decide +kernel, by decide +kernel⟩
theorem cv_C_66 : mj_cv "ClauseGlass" 66 y_S_addCon 2 := ⟨Or.inr ⟨"ClauseGlass", tin_2 (List.mem_of_getElem? (i := 124) rfl) rfl⟩, tin_2 (List.mem_of_getElem? (i := 126) rfl) rfl, tin_s (List.mem_of_getElem? (i := 20) rfl) rfl, tin_1 (List.mem_of_getElem? (i := 2) rfl) rfl, ⟨F_S, 9, rfl⟩, by decide +kernel, by decide +kernel⟩
theorem cv_C_73 : mj_cv "ClauseGlass" 73 y_P_addAny 0 := ⟨Or.inr ⟨"ClauseGlass", tin_2 (List.mem_of_getElem? (i := 159) rfl) rfl⟩, tin_2 (List.mem_of_getElem? (i := 161) rfl) rfl, tin_s (List.mem_of_getElem? (i := 26) rfl) rfl, tin_1 (List.mem_of_getElem? (i := 3) rfl) rfl, ⟨F_P, 7, rfl⟩, by decide +kernel, by decide +kernel⟩
theorem cv_C_77 : mj_cv "ClauseGlass" 77 y_P_addNumber 0 := ⟨Or.inr ⟨"ClauseGlass", tin_2 (List.mem_of_getElem? (i := 174) rfl) rfl⟩, tin_2 (List.mem_of_getElem? (i := 176) rfl) rfl, tin_s (List.mem_of_getElem? (i := 28) rfl) rfl, tin_1 (List.mem_of_getElem? (i := 3) rfl) rfl, ⟨F_P, 7, rfl⟩, by decide +kernel, by decide +kernel⟩
theorem cv_C_80 : mj_cv "ClauseGlass" 80 y_S_hasCon 2 := ⟨Or.inr ⟨"ClauseGlass", tin_2 (List.mem_of_getElem? (i := 185) rfl) rfl⟩, tin_2 (List.mem_of_getElem? (i := 187) rfl) rfl, tin_s (List.mem_of_getElem? (i := 29) rfl) rfl, tin_1 (List.mem_of_getElem? (i := 2) rfl) rfl, ⟨F_S, 9, rfl⟩, by decide +kernel, by decide +kernel⟩
theorem cv_C_90 : mj_cv "ClauseGlass" 90 y_S_partSort 2 := ⟨Or.inr ⟨"ClauseGlass", tin_2 (List.mem_of_getElem? (i := 190) rfl) rfl⟩, tin_2 (List.mem_of_getElem? (i := 138) rfl) rfl, tin_s (List.mem_of_getElem? (i := 23) rfl) rfl, tin_1 (List.mem_of_getElem? (i := 2) rfl) rfl, ⟨F_S, 9, rfl⟩, by decide +kernel, by decide +kernel⟩
theorem cv_C_167 : mj_cv "ClauseGlass" 167 y_P_hasPattern 0 := ⟨Or.inr ⟨"ClauseGlass", tin_2 (List.mem_of_getElem? (i := 199) rfl) rfl⟩, tin_2 (List.mem_of_getElem? (i := 201) rfl) rfl, tin_s (List.mem_of_getElem? (i := 32) rfl) rfl, tin_1 (List.mem_of_getElem? (i := 3) rfl) rfl, ⟨F_P, 7, rfl⟩, by decide +kernel, by decide +kernel⟩
theorem cv_C_104 : mj_cv "ClauseGlass" 104 y_P_addMade 0 := ⟨Or.inr ⟨"ClauseGlass", tin_2 (List.mem_of_getElem? (i := 205) rfl) rfl⟩, tin_2 (List.mem_of_getElem? (i := 207) rfl) rfl, tin_s (List.mem_of_getElem? (i := 33) rfl) rfl, tin_1 (List.mem_of_getElem? (i := 3) rfl) rfl, ⟨F_P, 7, rfl⟩, by decide +kernel, by decide +kernel⟩
theorem cv_C_108 : mj_cv "ClauseGlass" 108 y_H_clear 1 := ⟨Or.inr ⟨"ClauseGlass", tin_2 (List.mem_of_getElem? (i := 216) rfl) rfl⟩, tin_1 (List.mem_of_getElem? (i := 106) rfl) rfl, tin_s (List.mem_of_getElem? (i := 0) rfl) rfl, tin_1 (List.mem_of_getElem? (i := 4) rfl) rfl, ⟨F_H, 12, rfl⟩, by decide +kernel, by decide +kernel⟩
theorem cv_C_123 : mj_cv "ClauseGlass" 123 y_H_addRow 1 := ⟨Or.inr ⟨"ClauseGlass", tin_2 (List.mem_of_getElem? (i := 226) rfl) rfl⟩, tin_2 (List.mem_of_getElem? (i := 228) rfl) rfl, tin_s (List.mem_of_getElem? (i := 34) rfl) rfl, tin_1 (List.mem_of_getElem? (i := 4) rfl) rfl, ⟨F_H, 12, rfl⟩, by decide +kernel, by decide +kernel⟩
theorem cv_H_77 : mj_cv "ClauseGlass$Sheet" 77 y_P_partOf 0 := ⟨Or.inr ⟨"ClauseGlass", tin_2 (List.mem_of_getElem? (i := 234) rfl) rfl⟩, tin_2 (List.mem_of_getElem? (i := 236) rfl) rfl, tin_s (List.mem_of_getElem? (i := 36) rfl) rfl, tin_1 (List.mem_of_getElem? (i := 3) rfl) rfl, ⟨F_P, 7, rfl⟩, by decide +kernel, by decide +kernel⟩
theorem cv_H_85 : mj_cv "ClauseGlass$Sheet" 85 y_S_partSort 2 := ⟨Or.inr ⟨"ClauseGlass", tin_3 (List.mem_of_getElem? (i := 2) rfl) rfl⟩, tin_2 (List.mem_of_getElem? (i := 138) rfl) rfl, tin_s (List.mem_of_getElem? (i := 23) rfl) rfl, tin_1 (List.mem_of_getElem? (i := 2) rfl) rfl, ⟨F_S, 9, rfl⟩, by decide +kernel, by decide +kernel⟩
theorem cv_C_126 : mj_cv "ClauseGlass" 126 y_H_reaches 1 := ⟨Or.inr ⟨"ClauseGlass", tin_3 (List.mem_of_getElem? (i := 3) rfl) rfl⟩, tin_1 (List.mem_of_getElem? (i := 226) rfl) rfl, tin_s (List.mem_of_getElem? (i := 11) rfl) rfl, tin_1 (List.mem_of_getElem? (i := 4) rfl) rfl, ⟨F_H, 12, rfl⟩, by decide +kernel, by decide +kernel⟩
theorem cv_C_138 : mj_cv "ClauseGlass" 138 y_H_hasValue 1 := ⟨Or.inr ⟨"ClauseGlass", tin_3 (List.mem_of_getElem? (i := 30) rfl) rfl⟩, tin_1 (List.mem_of_getElem? (i := 230) rfl) rfl, tin_s (List.mem_of_getElem? (i := 12) rfl) rfl, tin_1 (List.mem_of_getElem? (i := 4) rfl) rfl, ⟨F_H, 12, rfl⟩, by decide +kernel, by decide +kernel⟩
theorem cv_C_141 : mj_cv "ClauseGlass" 141 y_H_agree 1 := ⟨Or.inr ⟨"ClauseGlass", tin_3 (List.mem_of_getElem? (i := 31) rfl) rfl⟩, tin_2 (List.mem_of_getElem? (i := 2) rfl) rfl, tin_s (List.mem_of_getElem? (i := 15) rfl) rfl, tin_1 (List.mem_of_getElem? (i := 4) rfl) rfl, ⟨F_H, 12, rfl⟩, by decide +kernel, by decide +kernel⟩
theorem cv_C_145 : mj_cv "ClauseGlass" 145 y_S_isSortLiving 2 := ⟨Or.inr ⟨"ClauseGlass", tin_3 (List.mem_of_getElem? (i := 39) rfl) rfl⟩, tin_1 (List.mem_of_getElem? (i := 172) rfl) rfl, tin_s (List.mem_of_getElem? (i := 2) rfl) rfl, tin_1 (List.mem_of_getElem? (i := 2) rfl) rfl, ⟨F_S, 9, rfl⟩, by decide +kernel, by decide +kernel⟩
theorem cw_C_init : mj_cw y_C_init b_C_init 1 none [] := Or.inl ⟨tin_1 (List.mem_of_getElem? (i := 17) rfl) rfl, rfl⟩
theorem cw_S_init : mj_cw y_S_init b_S_init 1 none [] := Or.inl ⟨tin_1 (List.mem_of_getElem? (i := 25) rfl) rfl, rfl⟩
theorem cw_P_init : mj_cw y_P_init b_P_init 1 none [] := Or.inl ⟨tin_1 (List.mem_of_getElem? (i := 66) rfl) rfl, rfl⟩
theorem cw_H_init : mj_cw y_H_init b_H_init 5 none [] := Or.inl ⟨tin_1 (List.mem_of_getElem? (i := 100) rfl) rfl, rfl⟩
theorem cw_H_clear : mj_cw y_H_clear b_H_clear 2 none [] := Or.inl ⟨tin_1 (List.mem_of_getElem? (i := 107) rfl) rfl, rfl⟩
theorem cw_C_open : mj_cw y_C_open b_C_open 1 (some .boolean) [] := Or.inl ⟨tin_1 (List.mem_of_getElem? (i := 165) rfl) rfl, rfl⟩
theorem cw_H_leavesSome : mj_cw y_H_leavesSome b_H_leavesSome 1 (some .boolean) [] := Or.inl ⟨tin_1 (List.mem_of_getElem? (i := 169) rfl) rfl, rfl⟩
theorem cw_S_isSortLiving : mj_cw y_S_isSortLiving b_S_isSortLiving 2 (some .boolean) [] := Or.inl ⟨tin_1 (List.mem_of_getElem? (i := 173) rfl) rfl, rfl⟩
theorem cw_H_escapes : mj_cw y_H_escapes b_H_escapes 14 (some .boolean) [] := Or.inl ⟨tin_1 (List.mem_of_getElem? (i := 177) rfl) rfl, rfl⟩
theorem cw_H_rowWithLeastLeft : mj_cw y_H_rowWithLeastLeft b_H_rowWithLeastLeft 8 (some .int) [] := Or.inl ⟨tin_1 (List.mem_of_getElem? (i := 181) rfl) rfl, rfl⟩
theorem cw_JL_bitCount : mj_cw y_JL_bitCount b_JL_bitCount 2 (some .int) [] := Or.inl ⟨tin_1 (List.mem_of_getElem? (i := 185) rfl) rfl, rfl⟩
theorem cw_JL_numberOfTrailingZeros : mj_cw y_JL_numberOfTrailingZeros b_JL_numberOfTrailingZeros 3 (some .int) [] := Or.inl ⟨tin_1 (List.mem_of_getElem? (i := 191) rfl) rfl, rfl⟩
theorem cw_JI_numberOfTrailingZeros : mj_cw y_JI_numberOfTrailingZeros b_JI_numberOfTrailingZeros 2 (some .int) [] := Or.inl ⟨tin_1 (List.mem_of_getElem? (i := 194) rfl) rfl, rfl⟩
theorem cw_H_rowsSilentAt : mj_cw y_H_rowsSilentAt b_H_rowsSilentAt 5 (some .int) [] := Or.inl ⟨tin_1 (List.mem_of_getElem? (i := 199) rfl) rfl, rfl⟩
theorem cw_H_isAsked : mj_cw y_H_isAsked b_H_isAsked 3 (some .boolean) [] := Or.inl ⟨tin_1 (List.mem_of_getElem? (i := 203) rfl) rfl, rfl⟩
theorem cw_S_livingConsOf : mj_cw y_S_livingConsOf b_S_livingConsOf 2 (some .int) [] := Or.inl ⟨tin_1 (List.mem_of_getElem? (i := 207) rfl) rfl, rfl⟩
theorem cw_H_consAskedAt : mj_cw y_H_consAskedAt b_H_consAskedAt 5 (some .int) [] := Or.inl ⟨tin_1 (List.mem_of_getElem? (i := 211) rfl) rfl, rfl⟩
theorem cw_H_rowsAsking : mj_cw y_H_rowsAsking b_H_rowsAsking 6 (some .int) [] := Or.inl ⟨tin_1 (List.mem_of_getElem? (i := 215) rfl) rfl, rfl⟩
theorem cw_C_count : mj_cw y_C_count b_C_count 2 (some .int) [] := Or.inl ⟨tin_1 (List.mem_of_getElem? (i := 219) rfl) rfl, rfl⟩
theorem cw_H_reachedRows : mj_cw y_H_reachedRows b_H_reachedRows 3 (some .int) [] := Or.inl ⟨tin_1 (List.mem_of_getElem? (i := 223) rfl) rfl, rfl⟩
theorem cw_H_reaches : mj_cw y_H_reaches b_H_reaches 2 (some .boolean) [] := Or.inl ⟨tin_1 (List.mem_of_getElem? (i := 227) rfl) rfl, rfl⟩
theorem cw_H_hasValue : mj_cw y_H_hasValue b_H_hasValue 4 (some .boolean) [] := Or.inl ⟨tin_1 (List.mem_of_getElem? (i := 231) rfl) rfl, rfl⟩
theorem cw_S_isConLiving : mj_cw y_S_isConLiving b_S_isConLiving 2 (some .boolean) [] := Or.inl ⟨tin_1 (List.mem_of_getElem? (i := 235) rfl) rfl, rfl⟩
theorem cw_H_rowsBeforeThatAgree : mj_cw y_H_rowsBeforeThatAgree b_H_rowsBeforeThatAgree 4 (some .int) [] := Or.inl ⟨tin_1 (List.mem_of_getElem? (i := 239) rfl) rfl, rfl⟩
theorem cw_H_agree : mj_cw y_H_agree b_H_agree 5 (some .boolean) [] := Or.inl ⟨tin_2 (List.mem_of_getElem? (i := 3) rfl) rfl, rfl⟩
theorem cw_JI_bitCount : mj_cw y_JI_bitCount b_JI_bitCount 1 (some .int) [] := Or.inl ⟨tin_2 (List.mem_of_getElem? (i := 6) rfl) rfl, rfl⟩
theorem cw_L_sort : mj_cw y_L_sort b_L_sort 3 (some .int) [(0, 8, 11, 13)] := Or.inr (tin_2 (List.mem_of_getElem? (i := 12) rfl) rfl)
theorem cw_C_sort : mj_cw y_C_sort b_C_sort 1 (some .int) [] := Or.inl ⟨tin_2 (List.mem_of_getElem? (i := 17) rfl) rfl, rfl⟩
theorem cw_S_addSort : mj_cw y_S_addSort b_S_addSort 2 (some .int) [] := Or.inl ⟨tin_2 (List.mem_of_getElem? (i := 88) rfl) rfl, rfl⟩
theorem cw_L_con : mj_cw y_L_con b_L_con 7 (some .int) [(0, 14, 17, 19), (0, 14, 21, 13)] := Or.inr (tin_2 (List.mem_of_getElem? (i := 91) rfl) rfl)
theorem cw_C_con : mj_cw y_C_con b_C_con 5 (some .int) [] := Or.inl ⟨tin_2 (List.mem_of_getElem? (i := 96) rfl) rfl, rfl⟩
theorem cw_C_needSort : mj_cw y_C_needSort b_C_needSort 2 none [] := Or.inl ⟨tin_2 (List.mem_of_getElem? (i := 100) rfl) rfl, rfl⟩
theorem cw_S_hasSort : mj_cw y_S_hasSort b_S_hasSort 2 (some .boolean) [] := Or.inl ⟨tin_2 (List.mem_of_getElem? (i := 104) rfl) rfl, rfl⟩
theorem cw_S_addCon : mj_cw y_S_addCon b_S_addCon 6 (some .int) [] := Or.inl ⟨tin_2 (List.mem_of_getElem? (i := 127) rfl) rfl, rfl⟩
theorem cw_S_findLiving : mj_cw y_S_findLiving b_S_findLiving 2 none [] := Or.inl ⟨tin_2 (List.mem_of_getElem? (i := 131) rfl) rfl, rfl⟩
theorem cw_S_consWithLivingParts : mj_cw y_S_consWithLivingParts b_S_consWithLivingParts 5 (some .int) [] := Or.inl ⟨tin_2 (List.mem_of_getElem? (i := 135) rfl) rfl, rfl⟩
theorem cw_S_partSort : mj_cw y_S_partSort b_S_partSort 3 (some .int) [] := Or.inl ⟨tin_2 (List.mem_of_getElem? (i := 139) rfl) rfl, rfl⟩
theorem cw_S_sortsWithLivingCons : mj_cw y_S_sortsWithLivingCons b_S_sortsWithLivingCons 3 (some .int) [] := Or.inl ⟨tin_2 (List.mem_of_getElem? (i := 144) rfl) rfl, rfl⟩
theorem cw_L_any : mj_cw y_L_any b_L_any 4 (some .int) [(0, 9, 12, 19), (0, 9, 15, 13)] := Or.inr (tin_2 (List.mem_of_getElem? (i := 148) rfl) rfl)
theorem cw_C_any : mj_cw y_C_any b_C_any 2 (some .int) [] := Or.inl ⟨tin_2 (List.mem_of_getElem? (i := 152) rfl) rfl, rfl⟩
theorem cw_C_needRoomForPattern : mj_cw y_C_needRoomForPattern b_C_needRoomForPattern 2 none [] := Or.inl ⟨tin_2 (List.mem_of_getElem? (i := 156) rfl) rfl, rfl⟩
theorem cw_P_addAny : mj_cw y_P_addAny b_P_addAny 2 (some .int) [] := Or.inl ⟨tin_2 (List.mem_of_getElem? (i := 162) rfl) rfl, rfl⟩
theorem cw_P_addPattern : mj_cw y_P_addPattern b_P_addPattern 6 (some .int) [] := Or.inl ⟨tin_2 (List.mem_of_getElem? (i := 166) rfl) rfl, rfl⟩
theorem cw_L_number : mj_cw y_L_number b_L_number 4 (some .int) [(0, 9, 12, 13)] := Or.inr (tin_2 (List.mem_of_getElem? (i := 169) rfl) rfl)
theorem cw_C_number : mj_cw y_C_number b_C_number 2 (some .int) [] := Or.inl ⟨tin_2 (List.mem_of_getElem? (i := 173) rfl) rfl, rfl⟩
theorem cw_P_addNumber : mj_cw y_P_addNumber b_P_addNumber 2 (some .int) [] := Or.inl ⟨tin_2 (List.mem_of_getElem? (i := 177) rfl) rfl, rfl⟩
theorem cw_L_made : mj_cw y_L_made b_L_made 6 (some .int) [(0, 12, 15, 19), (0, 12, 19, 13)] := Or.inr (tin_2 (List.mem_of_getElem? (i := 180) rfl) rfl)
theorem cw_C_made : mj_cw y_C_made b_C_made 6 (some .int) [] := Or.inl ⟨tin_2 (List.mem_of_getElem? (i := 184) rfl) rfl, rfl⟩
theorem cw_S_hasCon : mj_cw y_S_hasCon b_S_hasCon 2 (some .boolean) [] := Or.inl ⟨tin_2 (List.mem_of_getElem? (i := 188) rfl) rfl, rfl⟩
theorem cw_C_needPatternOf : mj_cw y_C_needPatternOf b_C_needPatternOf 3 none [] := Or.inl ⟨tin_2 (List.mem_of_getElem? (i := 194) rfl) rfl, rfl⟩
theorem cw_C_needPattern : mj_cw y_C_needPattern b_C_needPattern 2 none [] := Or.inl ⟨tin_2 (List.mem_of_getElem? (i := 198) rfl) rfl, rfl⟩
theorem cw_P_hasPattern : mj_cw y_P_hasPattern b_P_hasPattern 2 (some .boolean) [] := Or.inl ⟨tin_2 (List.mem_of_getElem? (i := 202) rfl) rfl, rfl⟩
theorem cw_P_addMade : mj_cw y_P_addMade b_P_addMade 7 (some .int) [] := Or.inl ⟨tin_2 (List.mem_of_getElem? (i := 208) rfl) rfl, rfl⟩
theorem cw_L_begin : mj_cw y_L_begin b_L_begin 3 (some .int) [(0, 5, 8, 19)] := Or.inr (tin_2 (List.mem_of_getElem? (i := 211) rfl) rfl)
theorem cw_C_begin : mj_cw y_C_begin b_C_begin 2 none [] := Or.inl ⟨tin_2 (List.mem_of_getElem? (i := 215) rfl) rfl, rfl⟩
theorem cw_L_clause : mj_cw y_L_clause b_L_clause 4 (some .int) [(0, 16, 19, 19), (0, 16, 22, 13)] := Or.inr (tin_2 (List.mem_of_getElem? (i := 219) rfl) rfl)
theorem cw_C_clause : mj_cw y_C_clause b_C_clause 2 (some .boolean) [] := Or.inl ⟨tin_2 (List.mem_of_getElem? (i := 223) rfl) rfl, rfl⟩
theorem cw_H_addRow : mj_cw y_H_addRow b_H_addRow 2 none [] := Or.inl ⟨tin_2 (List.mem_of_getElem? (i := 229) rfl) rfl, rfl⟩
theorem cw_H_layPart : mj_cw y_H_layPart b_H_layPart 8 none [] := Or.inl ⟨tin_2 (List.mem_of_getElem? (i := 233) rfl) rfl, rfl⟩
theorem cw_P_partOf : mj_cw y_P_partOf b_P_partOf 3 (some .int) [] := Or.inl ⟨tin_2 (List.mem_of_getElem? (i := 237) rfl) rfl, rfl⟩
theorem cw_H_placeBelow : mj_cw y_H_placeBelow b_H_placeBelow 5 (some .int) [] := Or.inl ⟨tin_3 (List.mem_of_getElem? (i := 1) rfl) rfl, rfl⟩
theorem cw_L_takes : mj_cw y_L_takes b_L_takes 4 (some .int) [(0, 16, 19, 19)] := Or.inr (tin_3 (List.mem_of_getElem? (i := 6) rfl) rfl)
theorem cw_C_takes : mj_cw y_C_takes b_C_takes 2 (some .boolean) [] := Or.inl ⟨tin_3 (List.mem_of_getElem? (i := 10) rfl) rfl, rfl⟩
theorem cw_L_covers : mj_cw y_L_covers b_L_covers 5 (some .int) [(0, 17, 20, 19)] := Or.inr (tin_3 (List.mem_of_getElem? (i := 14) rfl) rfl)
theorem cw_C_covers : mj_cw y_C_covers b_C_covers 3 (some .boolean) [] := Or.inl ⟨tin_3 (List.mem_of_getElem? (i := 18) rfl) rfl, rfl⟩
theorem cw_C_layPair : mj_cw y_C_layPair b_C_layPair 3 none [] := Or.inl ⟨tin_3 (List.mem_of_getElem? (i := 22) rfl) rfl, rfl⟩
theorem cw_L_meets : mj_cw y_L_meets b_L_meets 5 (some .int) [(0, 17, 20, 19)] := Or.inr (tin_3 (List.mem_of_getElem? (i := 25) rfl) rfl)
theorem cw_C_meets : mj_cw y_C_meets b_C_meets 3 (some .boolean) [] := Or.inl ⟨tin_3 (List.mem_of_getElem? (i := 29) rfl) rfl, rfl⟩
theorem cw_L_lives : mj_cw y_L_lives b_L_lives 4 (some .int) [(0, 16, 19, 19)] := Or.inr (tin_3 (List.mem_of_getElem? (i := 34) rfl) rfl)
theorem cw_C_lives : mj_cw y_C_lives b_C_lives 2 (some .boolean) [] := Or.inl ⟨tin_3 (List.mem_of_getElem? (i := 38) rfl) rfl, rfl⟩
theorem cw_M_init : mj_cw y_M_init b_M_init 1 none [] := Or.inl ⟨tin_3 (List.mem_of_getElem? (i := 44) rfl) rfl, rfl⟩
theorem cw_M_thrown : mj_cw y_M_thrown b_M_thrown 1 (some .int) [] := Or.inl ⟨tin_3 (List.mem_of_getElem? (i := 159) rfl) rfl, rfl⟩
theorem cw_M_sort : mj_cw y_M_sort b_M_sort 1 (some .int) [] := Or.inl ⟨tin_3 (List.mem_of_getElem? (i := 163) rfl) rfl, rfl⟩
theorem cw_M_con : mj_cw y_M_con b_M_con 6 (some .int) [] := Or.inl ⟨tin_3 (List.mem_of_getElem? (i := 167) rfl) rfl, rfl⟩
theorem cw_M_isSort : mj_cw y_M_isSort b_M_isSort 2 (some .boolean) [] := Or.inl ⟨tin_3 (List.mem_of_getElem? (i := 171) rfl) rfl, rfl⟩
theorem cw_M_any : mj_cw y_M_any b_M_any 2 (some .int) [] := Or.inl ⟨tin_3 (List.mem_of_getElem? (i := 175) rfl) rfl, rfl⟩
theorem cw_M_pattern : mj_cw y_M_pattern b_M_pattern 7 (some .int) [] := Or.inl ⟨tin_3 (List.mem_of_getElem? (i := 179) rfl) rfl, rfl⟩
theorem cw_M_number : mj_cw y_M_number b_M_number 2 (some .int) [] := Or.inl ⟨tin_3 (List.mem_of_getElem? (i := 183) rfl) rfl, rfl⟩
theorem cw_M_made : mj_cw y_M_made b_M_made 7 (some .int) [] := Or.inl ⟨tin_3 (List.mem_of_getElem? (i := 187) rfl) rfl, rfl⟩
theorem cw_M_isPattern : mj_cw y_M_isPattern b_M_isPattern 2 (some .boolean) [] := Or.inl ⟨tin_3 (List.mem_of_getElem? (i := 191) rfl) rfl, rfl⟩
theorem cw_M_begin : mj_cw y_M_begin b_M_begin 2 none [] := Or.inl ⟨tin_3 (List.mem_of_getElem? (i := 195) rfl) rfl, rfl⟩
theorem cw_M_clause : mj_cw y_M_clause b_M_clause 5 (some .boolean) [] := Or.inl ⟨tin_3 (List.mem_of_getElem? (i := 199) rfl) rfl, rfl⟩
theorem cw_M_reaches : mj_cw y_M_reaches b_M_reaches 3 (some .boolean) [] := Or.inl ⟨tin_3 (List.mem_of_getElem? (i := 203) rfl) rfl, rfl⟩
theorem cw_M_has : mj_cw y_M_has b_M_has 3 (some .boolean) [] := Or.inl ⟨tin_3 (List.mem_of_getElem? (i := 207) rfl) rfl, rfl⟩
theorem cw_M_live : mj_cw y_M_live b_M_live 5 none [] := Or.inl ⟨tin_3 (List.mem_of_getElem? (i := 211) rfl) rfl, rfl⟩
theorem cw_M_isUsed : mj_cw y_M_isUsed b_M_isUsed 2 (some .boolean) [] := Or.inl ⟨tin_3 (List.mem_of_getElem? (i := 215) rfl) rfl, rfl⟩
theorem cw_M_gather : mj_cw y_M_gather b_M_gather 3 none [] := Or.inl ⟨tin_3 (List.mem_of_getElem? (i := 219) rfl) rfl, rfl⟩
theorem cw_M_look : mj_cw y_M_look b_M_look 5 (some .int) [] := Or.inl ⟨tin_3 (List.mem_of_getElem? (i := 223) rfl) rfl, rfl⟩
theorem cw_M_node : mj_cw y_M_node b_M_node 2 (some .int) [] := Or.inl ⟨tin_3 (List.mem_of_getElem? (i := 227) rfl) rfl, rfl⟩
theorem cw_M_fill : mj_cw y_M_fill b_M_fill 5 none [] := Or.inl ⟨tin_3 (List.mem_of_getElem? (i := 231) rfl) rfl, rfl⟩
theorem cw_M_isTried : mj_cw y_M_isTried b_M_isTried 3 (some .boolean) [] := Or.inl ⟨tin_3 (List.mem_of_getElem? (i := 235) rfl) rfl, rfl⟩
theorem cw_M_fit : mj_cw y_M_fit b_M_fit 5 (some .int) [] := Or.inl ⟨tin_3 (List.mem_of_getElem? (i := 239) rfl) rfl, rfl⟩
theorem cw_M_options : mj_cw y_M_options b_M_options 4 (some .int) [] := Or.inl ⟨tin_4 (List.mem_of_getElem? (i := 3) rfl) rfl, rfl⟩
theorem cw_M_takes : mj_cw y_M_takes b_M_takes 2 (some .boolean) [] := Or.inl ⟨tin_4 (List.mem_of_getElem? (i := 7) rfl) rfl, rfl⟩
theorem cw_M_open : mj_cw y_M_open b_M_open 2 (some .boolean) [] := Or.inl ⟨tin_4 (List.mem_of_getElem? (i := 11) rfl) rfl, rfl⟩
theorem cw_M_covers : mj_cw y_M_covers b_M_covers 3 (some .boolean) [] := Or.inl ⟨tin_4 (List.mem_of_getElem? (i := 15) rfl) rfl, rfl⟩
theorem cw_M_areLike : mj_cw y_M_areLike b_M_areLike 3 (some .boolean) [] := Or.inl ⟨tin_4 (List.mem_of_getElem? (i := 19) rfl) rfl, rfl⟩
theorem cw_M_meets : mj_cw y_M_meets b_M_meets 3 (some .boolean) [] := Or.inl ⟨tin_4 (List.mem_of_getElem? (i := 23) rfl) rfl, rfl⟩
theorem cw_M_lives : mj_cw y_M_lives b_M_lives 2 (some .boolean) [] := Or.inl ⟨tin_4 (List.mem_of_getElem? (i := 27) rfl) rfl, rfl⟩
theorem cw_M_count : mj_cw y_M_count b_M_count 4 (some .int) [] := Or.inl ⟨tin_4 (List.mem_of_getElem? (i := 31) rfl) rfl, rfl⟩
