/-! bits -/
def iB (x : Int32) (k : Nat) : Bool := x.toBitVec.getLsbD k
def lB (x : Int64) (k : Nat) : Bool := x.toBitVec.getLsbD k
theorem iB_or (x y : Int32) (k : Nat) : iB (x ||| y) k = (iB x k || iB y k) := by
  unfold iB; rw [Int32.toBitVec_or, BitVec.getLsbD_or]
theorem iB_and (x y : Int32) (k : Nat) : iB (x &&& y) k = (iB x k && iB y k) := by
  unfold iB; rw [Int32.toBitVec_and, BitVec.getLsbD_and]
theorem lB_or (x y : Int64) (k : Nat) : lB (x ||| y) k = (lB x k || lB y k) := by
  unfold lB; rw [Int64.toBitVec_or, BitVec.getLsbD_or]
theorem lB_and (x y : Int64) (k : Nat) : lB (x &&& y) k = (lB x k && lB y k) := by
  unfold lB; rw [Int64.toBitVec_and, BitVec.getLsbD_and]
theorem iB_xor (x y : Int32) (k : Nat) : iB (x ^^^ y) k = (iB x k ^^ iB y k) := by
  unfold iB; rw [Int32.toBitVec_xor, BitVec.getLsbD_xor]
theorem lB_xor (x y : Int64) (k : Nat) : lB (x ^^^ y) k = (lB x k ^^ lB y k) := by
  unfold lB; rw [Int64.toBitVec_xor, BitVec.getLsbD_xor]
theorem iB_m1 {k : Nat} (h : k < 32) : iB (-1) k = true := by
  have e : (-1 : Int32).toBitVec = BitVec.allOnes 32 := by decide
  unfold iB; rw [e, BitVec.getLsbD_allOnes]; exact decide_eq_true h
theorem lB_m1 {k : Nat} (h : k < 64) : lB (-1) k = true := by
  have e : (-1 : Int64).toBitVec = BitVec.allOnes 64 := by decide
  unfold lB; rw [e, BitVec.getLsbD_allOnes]; exact decide_eq_true h
theorem iB_ge {x : Int32} {k : Nat} (h : 32 ≤ k) : iB x k = false := BitVec.getLsbD_of_ge _ _ h
theorem lB_ge {x : Int64} {k : Nat} (h : 64 ≤ k) : lB x k = false := BitVec.getLsbD_of_ge _ _ h
theorem iB_an (x y : Int32) (k : Nat) : iB (x &&& (y ^^^ -1)) k = (iB x k && !iB y k) := by
  rw [iB_and, iB_xor]
  by_cases h : k < 32
  · rw [iB_m1 h, Bool.xor_true]
  · rw [iB_ge (x := x) (by omega)]; rfl
theorem lB_an (x y : Int64) (k : Nat) : lB (x &&& (y ^^^ -1)) k = (lB x k && !lB y k) := by
  rw [lB_and, lB_xor]
  by_cases h : k < 64
  · rw [lB_m1 h, Bool.xor_true]
  · rw [lB_ge (x := x) (by omega)]; rfl
theorem iB_0 (k : Nat) : iB 0 k = false := by
  have e : (0 : Int32).toBitVec = 0#32 := by decide
  unfold iB; rw [e, BitVec.getLsbD_zero]
theorem lB_0 (k : Nat) : lB 0 k = false := by
  have e : (0 : Int64).toBitVec = 0#64 := by decide
  unfold lB; rw [e, BitVec.getLsbD_zero]
theorem iB_ext {x y : Int32} (h : ∀ k, k < 32 → iB x k = iB y k) : x = y := Int32.toBitVec_inj.mp (BitVec.eq_of_getLsbD_eq (fun i hi => h i hi))
theorem lB_ext {x y : Int64} (h : ∀ k, k < 64 → lB x k = lB y k) : x = y := Int64.toBitVec_inj.mp (BitVec.eq_of_getLsbD_eq (fun i hi => h i hi))
theorem iB_ne0 {x : Int32} (h : x ≠ 0) : ∃ k, k < 32 ∧ iB x k = true := Classical.byContradiction fun g => h (iB_ext (fun k hk => by
  rw [iB_0]
  cases e : iB x k with
  | false => rfl
  | true => exact absurd ⟨k, hk, e⟩ g))
theorem lB_ne0 {x : Int64} (h : x ≠ 0) : ∃ k, k < 64 ∧ lB x k = true := Classical.byContradiction fun g => h (lB_ext (fun k hk => by
  rw [lB_0]
  cases e : lB x k with
  | false => rfl
  | true => exact absurd ⟨k, hk, e⟩ g))
theorem sh32 : ∀ k, k < 32 → ((nI k &&& 31).toBitVec.smod 32).toNat = k := by decide +kernel
theorem sh64 : ∀ k, k < 64 → (((nI k).toInt64 &&& 63).toBitVec.smod 64).toNat = k := by decide +kernel
theorem iB_one {k j : Nat} (hk : k < 32) : iB (1 <<< (nI k &&& 31)) j = decide (k = j) := by
  have e : ∀ k, k < 32 → (1 <<< (nI k &&& 31) : Int32).toBitVec = BitVec.twoPow 32 k := by decide +kernel
  unfold iB; rw [e k hk, BitVec.getLsbD_twoPow, decide_eq_true hk]; rfl
theorem lB_one {k j : Nat} (hk : k < 64) : lB (1 <<< ((nI k).toInt64 &&& 63)) j = decide (k = j) := by
  have e : ∀ k, k < 64 → (1 <<< ((nI k).toInt64 &&& 63) : Int64).toBitVec = BitVec.twoPow 64 k := by decide +kernel
  unfold lB; rw [e k hk, BitVec.getLsbD_twoPow, decide_eq_true hk]; rfl
theorem iB_low {n j : Nat} (hn : n < 31) : iB (1 <<< (nI n &&& 31) - 1) j = decide (j < n) := by
  have e : ∀ n, n < 31 → (1 <<< (nI n &&& 31) - 1 : Int32).toBitVec = BitVec.ofNat 32 (2 ^ n - 1) := by decide +kernel
  unfold iB; rw [e n hn, BitVec.getLsbD_ofNat, Nat.testBit_two_pow_sub_one]
  by_cases h : j < n
  · rw [decide_eq_true h, decide_eq_true (show j < 32 by omega)]; rfl
  · rw [decide_eq_false h, Bool.and_false]
theorem iB_test {x : Int32} {k : Nat} (hk : k < 32) : ((x >>> (nI k &&& 31)) &&& 1 = 0) ↔ iB x k = false := by
  have e1 : ((x >>> (nI k &&& 31)) &&& 1).toBitVec = BitVec.setWidth 32 (BitVec.ofBool (iB x k)) := by
    rw [Int32.toBitVec_and]
    show _ &&& 1#32 = _
    rw [BitVec.and_one_eq_setWidth_ofBool_getLsbD, Int32.toBitVec_shiftRight]
    show BitVec.setWidth 32 (BitVec.ofBool ((BitVec.sshiftRight x.toBitVec ((nI k &&& 31).toBitVec.smod 32).toNat).getLsbD 0)) = _
    rw [sh32 k hk, BitVec.getLsbD_sshiftRight, if_pos (by omega)]; rfl
  rw [← Int32.toBitVec_inj, e1]
  cases iB x k with
  | true => exact ⟨fun h => absurd h (by decide), fun h => by cases h⟩
  | false => exact ⟨fun _ => rfl, fun _ => by decide⟩
theorem lB_test {x : Int64} {k : Nat} (hk : k < 64) : ((x >>> ((nI k).toInt64 &&& 63)) &&& 1 = 0) ↔ lB x k = false := by
  have e1 : ((x >>> ((nI k).toInt64 &&& 63)) &&& 1).toBitVec = BitVec.setWidth 64 (BitVec.ofBool (lB x k)) := by
    rw [Int64.toBitVec_and]
    show _ &&& 1#64 = _
    rw [BitVec.and_one_eq_setWidth_ofBool_getLsbD, Int64.toBitVec_shiftRight]
    show BitVec.setWidth 64 (BitVec.ofBool ((BitVec.sshiftRight x.toBitVec (((nI k).toInt64 &&& 63).toBitVec.smod 64).toNat).getLsbD 0)) = _
    rw [sh64 k hk, BitVec.getLsbD_sshiftRight, if_pos (by omega)]; rfl
  rw [← Int64.toBitVec_inj, e1]
  cases lB x k with
  | true => exact ⟨fun h => absurd h (by decide), fun h => by cases h⟩
  | false => exact ⟨fun _ => rfl, fun _ => by decide⟩
