/-! how many bits, which is the lowest -/
def nL (x : Int64) : Nat := x.toBitVec.toNat
theorem nL_and (x y : Int64) : nL (x &&& y) = nL x &&& nL y := by
  unfold nL; rw [Int64.toBitVec_and, BitVec.toNat_and]
theorem nL_add (x y : Int64) : nL (x + y) = (nL x + nL y) % 2 ^ 64 := by
  unfold nL; rw [Int64.toBitVec_add, BitVec.toNat_add]
theorem nL_sub {x y : Int64} (h : nL y ≤ nL x) : nL (x - y) = nL x - nL y := by
  unfold nL at *
  rw [Int64.toBitVec_sub, BitVec.toNat_sub_of_le h]
theorem nL_lt (x : Int64) : nL x < 2 ^ 64 := x.toBitVec.isLt
theorem nL_shr (x : Int64) (u : UInt64) : nL ((x.toUInt64 >>> u).toInt64) = nL x >>> (u.toNat % 64) := by
  exact UInt64.toNat_shiftRight x.toUInt64 u
theorem nL_s1 (x : Int64) : nL ((x.toUInt64 >>> (((1 : Int32)).toInt64.toUInt64 &&& Int64.toUInt64 63)).toInt64) = nL x / 2 := by
  rw [nL_shr, show ((((1 : Int32)).toInt64.toUInt64 &&& Int64.toUInt64 63).toNat % 64) = 1 by decide, Nat.shiftRight_eq_div_pow]
theorem nL_s2 (x : Int64) : nL ((x.toUInt64 >>> (((2 : Int32)).toInt64.toUInt64 &&& Int64.toUInt64 63)).toInt64) = nL x / 4 := by
  rw [nL_shr, show ((((2 : Int32)).toInt64.toUInt64 &&& Int64.toUInt64 63).toNat % 64) = 2 by decide, Nat.shiftRight_eq_div_pow]
theorem nL_s4 (x : Int64) : nL ((x.toUInt64 >>> (((4 : Int32)).toInt64.toUInt64 &&& Int64.toUInt64 63)).toInt64) = nL x / 16 := by
  rw [nL_shr, show ((((4 : Int32)).toInt64.toUInt64 &&& Int64.toUInt64 63).toNat % 64) = 4 by decide, Nat.shiftRight_eq_div_pow]
theorem nL_s8 (x : Int64) : nL ((x.toUInt64 >>> (((8 : Int32)).toInt64.toUInt64 &&& Int64.toUInt64 63)).toInt64) = nL x / 256 := by
  rw [nL_shr, show ((((8 : Int32)).toInt64.toUInt64 &&& Int64.toUInt64 63).toNat % 64) = 8 by decide, Nat.shiftRight_eq_div_pow]
theorem nL_s16 (x : Int64) : nL ((x.toUInt64 >>> (((16 : Int32)).toInt64.toUInt64 &&& Int64.toUInt64 63)).toInt64) = nL x / 65536 := by
  rw [nL_shr, show ((((16 : Int32)).toInt64.toUInt64 &&& Int64.toUInt64 63).toNat % 64) = 16 by decide, Nat.shiftRight_eq_div_pow]
theorem nL_s32 (x : Int64) : nL ((x.toUInt64 >>> (((32 : Int32)).toInt64.toUInt64 &&& Int64.toUInt64 63)).toInt64) = nL x / 4294967296 := by
  rw [nL_shr, show ((((32 : Int32)).toInt64.toUInt64 &&& Int64.toUInt64 63).toNat % 64) = 32 by decide, Nat.shiftRight_eq_div_pow]
theorem nL_m1 : nL 6148914691236517205 = 6148914691236517205 := by decide
theorem nL_m2 : nL 3689348814741910323 = 3689348814741910323 := by decide
theorem nL_m4 : nL 1085102592571150095 = 1085102592571150095 := by decide
theorem land_sp {a c u w : Nat} (ha : a < 256) (hc : c < 256) : (a + 256 * u) &&& (c + 256 * w) = (a &&& c) + 256 * (u &&& w) := by
  have hac : a &&& c < 2 ^ 8 := Nat.lt_of_le_of_lt Nat.and_le_left ha
  rw [Nat.add_comm a, Nat.add_comm c, Nat.add_comm (a &&& c)]
  refine Nat.eq_of_testBit_eq fun i => ?_
  show ((2 ^ 8 * u + a) &&& (2 ^ 8 * w + c)).testBit i = (2 ^ 8 * (u &&& w) + (a &&& c)).testBit i
  rw [Nat.testBit_and, Nat.testBit_two_pow_mul_add _ ha, Nat.testBit_two_pow_mul_add _ hc, Nat.testBit_two_pow_mul_add _ hac]
  split
  · rw [Nat.testBit_and]
  · rw [Nat.testBit_and]
def V5 (a b c d e : Nat) : Nat := a + 256 * (b + 256 * (c + 256 * (d + 256 * (e + 256 * 0))))
theorem V5_land {a b c d e m t : Nat} (ha : a < 256) (hb : b < 256) (hc : c < 256) (hd : d < 256) (he : e < 256) (hm : m < 256) : V5 a b c d e &&& (m + 256 * (m + 256 * (m + 256 * (m + 256 * (m + 256 * t))))) = V5 (a &&& m) (b &&& m) (c &&& m) (d &&& m) (e &&& m) := by
  unfold V5
  rw [land_sp ha hm, land_sp hb hm, land_sp hc hm, land_sp hd hm, land_sp he hm, Nat.zero_and]
def p1 (b : Nat) : Nat := b - ((b / 2) &&& 85)
def p2 (b : Nat) : Nat := (p1 b &&& 51) + ((p1 b / 4) &&& 51)
def p3 (b : Nat) : Nat := (p2 b + p2 b / 16) % 16
theorem p_b : ∀ b, b < 256 → ((b / 2) &&& 85) ≤ b ∧ p1 b < 256 ∧ p2 b ≤ 68 ∧ p2 b / 16 ≤ 4 ∧ p2 b % 16 ≤ 4 ∧ p3 b ≤ 8 := by decide +kernel
theorem sh_1 : ∀ y, y < 128 → ∀ e, e < 2 → ((y + 128 * e) &&& 85) = (y &&& 85) := by decide +kernel
theorem sh_2 : ∀ y, y < 64 → ∀ e, e < 4 → ((y + 64 * e) &&& 51) = (y &&& 51) := by decide +kernel
theorem V5_of {n : Nat} (h : n < 2 ^ 40) : ∃ a b c d e, a < 256 ∧ b < 256 ∧ c < 256 ∧ d < 256 ∧ e < 256 ∧ n = V5 a b c d e := by
  refine ⟨n % 256, n / 256 % 256, n / 65536 % 256, n / 16777216 % 256, n / 4294967296 % 256, by omega, by omega, by omega, by omega, by omega, ?_⟩
  unfold V5
  omega
theorem V5_1 {a b c d e : Nat} (ha : a < 256) (hb : b < 256) (hc : c < 256) (hd : d < 256) (he : e < 256) : V5 a b c d e - (V5 a b c d e / 2 &&& 6148914691236517205) = V5 (p1 a) (p1 b) (p1 c) (p1 d) (p1 e) ∧ (V5 a b c d e / 2 &&& 6148914691236517205) ≤ V5 a b c d e := by
  have e1 : V5 a b c d e / 2 = V5 (a / 2 + 128 * (b % 2)) (b / 2 + 128 * (c % 2)) (c / 2 + 128 * (d % 2)) (d / 2 + 128 * (e % 2)) (e / 2 + 128 * 0) := by unfold V5; omega
  have e2 : (6148914691236517205 : Nat) = 85 + 256 * (85 + 256 * (85 + 256 * (85 + 256 * (85 + 256 * 5592405)))) := rfl
  rw [e1, e2, V5_land (by omega) (by omega) (by omega) (by omega) (by omega) (by omega), sh_1 _ (by omega) _ (by omega), sh_1 _ (by omega) _ (by omega), sh_1 _ (by omega) _ (by omega), sh_1 _ (by omega) _ (by omega), sh_1 _ (by omega) _ (by omega)]
  have qa := (p_b a ha).1
  have qb := (p_b b hb).1
  have qc := (p_b c hc).1
  have qd := (p_b d hd).1
  have qe := (p_b e he).1
  unfold p1 V5
  omega
theorem V5_2 {a b c d e : Nat} (ha : a < 256) (hb : b < 256) (hc : c < 256) (hd : d < 256) (he : e < 256) : (V5 a b c d e &&& 3689348814741910323) + (V5 a b c d e / 4 &&& 3689348814741910323) = V5 ((a &&& 51) + (a / 4 &&& 51)) ((b &&& 51) + (b / 4 &&& 51)) ((c &&& 51) + (c / 4 &&& 51)) ((d &&& 51) + (d / 4 &&& 51)) ((e &&& 51) + (e / 4 &&& 51)) := by
  have e1 : V5 a b c d e / 4 = V5 (a / 4 + 64 * (b % 4)) (b / 4 + 64 * (c % 4)) (c / 4 + 64 * (d % 4)) (d / 4 + 64 * (e % 4)) (e / 4 + 64 * 0) := by unfold V5; omega
  have e2 : (3689348814741910323 : Nat) = 51 + 256 * (51 + 256 * (51 + 256 * (51 + 256 * (51 + 256 * 3355443)))) := rfl
  rw [e1, e2, V5_land ha hb hc hd he (by omega), V5_land (by omega) (by omega) (by omega) (by omega) (by omega) (by omega), sh_2 _ (by omega) _ (by omega), sh_2 _ (by omega) _ (by omega), sh_2 _ (by omega) _ (by omega), sh_2 _ (by omega) _ (by omega), sh_2 _ (by omega) _ (by omega)]
  unfold V5
  omega
theorem V5_3 {a b c d e : Nat} (ha : a ≤ 68 ∧ a / 16 ≤ 4 ∧ a % 16 ≤ 4) (hb : b ≤ 68 ∧ b / 16 ≤ 4 ∧ b % 16 ≤ 4) (hc : c ≤ 68 ∧ c / 16 ≤ 4 ∧ c % 16 ≤ 4) (hd : d ≤ 68 ∧ d / 16 ≤ 4 ∧ d % 16 ≤ 4) (he : e ≤ 68 ∧ e / 16 ≤ 4 ∧ e % 16 ≤ 4) : (V5 a b c d e + V5 a b c d e / 16) &&& 1085102592571150095 = V5 ((a + a / 16) % 16) ((b + b / 16) % 16) ((c + c / 16) % 16) ((d + d / 16) % 16) ((e + e / 16) % 16) := by
  have e1 : V5 a b c d e + V5 a b c d e / 16 = V5 (a + a / 16 + 16 * (b % 16)) (b + b / 16 + 16 * (c % 16)) (c + c / 16 + 16 * (d % 16)) (d + d / 16 + 16 * (e % 16)) (e + e / 16) := by unfold V5; omega
  have e2 : (1085102592571150095 : Nat) = 15 + 256 * (15 + 256 * (15 + 256 * (15 + 256 * (15 + 256 * 986895)))) := rfl
  have e3 : ∀ x, x &&& 15 = x % 16 := fun x => Nat.and_two_pow_sub_one_eq_mod x 4
  rw [e1, e2, V5_land (by omega) (by omega) (by omega) (by omega) (by omega) (by omega), e3, e3, e3, e3, e3]
  unfold V5
  omega
theorem V5_s16 {a b c d e : Nat} (ha : a ≤ 32) (hb : b ≤ 32) (hc : c ≤ 32) (hd : d ≤ 32) (he : e ≤ 32) : (V5 a b c d e + V5 a b c d e / 65536) % 2 ^ 64 = V5 (a + c) (b + d) (c + e) d e := by
  have q : V5 a b c d e / 65536 = c + 256 * d + 65536 * e := by unfold V5; omega
  rw [q]
  have q2 : V5 a b c d e + (c + 256 * d + 65536 * e) = V5 (a + c) (b + d) (c + e) d e := by unfold V5; omega
  rw [q2]
  refine Nat.mod_eq_of_lt ?_
  unfold V5
  omega
theorem V5_s32 {a b c d e : Nat} (ha : a ≤ 32) (hb : b ≤ 32) (hc : c ≤ 32) (hd : d ≤ 32) (he : e ≤ 32) : (V5 a b c d e + V5 a b c d e / 4294967296) % 2 ^ 64 = V5 (a + e) b c d e := by
  have q : V5 a b c d e / 4294967296 = e := by unfold V5; omega
  rw [q]
  have q2 : V5 a b c d e + e = V5 (a + e) b c d e := by unfold V5; omega
  rw [q2]
  refine Nat.mod_eq_of_lt ?_
  unfold V5
  omega
theorem V5_mod {a b c d e : Nat} : V5 a b c d e % 128 = a % 128 := by
  have q : V5 a b c d e = a + 128 * (2 * (b + 256 * (c + 256 * (d + 256 * (e + 256 * 0))))) := by unfold V5; omega
  rw [q, Nat.add_mul_mod_self_left]
theorem bcL_41 {x : Int64} (h : ∀ k, lB x k = true → k < 40) : bcL x < 41 := by
  have hx : nL x < 2 ^ 40 := by
    refine Nat.lt_pow_two_of_testBit _ (fun i hi => ?_)
    cases e : (nL x).testBit i with
    | false => rfl
    | true => exact absurd (h i e) (by omega)
  obtain ⟨a, b, c, d, e, ha, hb, hc, hd, he, hn⟩ := V5_of hx
  obtain ⟨a0, a1, a2, a3, a4, a5⟩ := p_b a ha
  obtain ⟨b0, b1, b2, b3, b4, b5⟩ := p_b b hb
  obtain ⟨c0, c1, c2, c3, c4, c5⟩ := p_b c hc
  obtain ⟨d0, d1, d2, d3, d4, d5⟩ := p_b d hd
  obtain ⟨e0, e1, e2, e3, e4, e5⟩ := p_b e he
  have s1 : nL (bL1 x) = V5 (p1 a) (p1 b) (p1 c) (p1 d) (p1 e) := by
    obtain ⟨z1, z2⟩ := V5_1 ha hb hc hd he
    have q : nL ((x.toUInt64 >>> (((1 : Int32)).toInt64.toUInt64 &&& Int64.toUInt64 63)).toInt64 &&& 6148914691236517205) = (V5 a b c d e / 2 &&& 6148914691236517205) := by
      rw [nL_and, nL_s1, nL_m1, hn]
    unfold bL1
    rw [nL_sub (by rw [q, hn]; exact z2), q, hn]; exact z1
  have s2 : nL (bL2 (bL1 x)) = V5 (p2 a) (p2 b) (p2 c) (p2 d) (p2 e) := by
    have z := V5_2 a1 b1 c1 d1 e1
    unfold bL2
    rw [nL_add, nL_and, nL_and, nL_s2, nL_m2, s1, z]
    show V5 (p2 a) (p2 b) (p2 c) (p2 d) (p2 e) % 2 ^ 64 = _
    refine Nat.mod_eq_of_lt ?_
    unfold V5
    omega
  have s3 : nL (bL3 (bL2 (bL1 x))) = V5 (p3 a) (p3 b) (p3 c) (p3 d) (p3 e) := by
    have z := V5_3 ⟨a2, a3, a4⟩ ⟨b2, b3, b4⟩ ⟨c2, c3, c4⟩ ⟨d2, d3, d4⟩ ⟨e2, e3, e4⟩
    unfold bL3
    rw [nL_and, nL_add, nL_s4, nL_m4, s2]
    have q : (V5 (p2 a) (p2 b) (p2 c) (p2 d) (p2 e) + V5 (p2 a) (p2 b) (p2 c) (p2 d) (p2 e) / 16) % 2 ^ 64 = V5 (p2 a) (p2 b) (p2 c) (p2 d) (p2 e) + V5 (p2 a) (p2 b) (p2 c) (p2 d) (p2 e) / 16 := by
      refine Nat.mod_eq_of_lt ?_
      unfold V5
      omega
    rw [q]; exact z
  generalize hy : bL3 (bL2 (bL1 x)) = y at s3
  have s6 : nL (bL6 (bL5 (bL4 y))) % 128 < 41 := by
    have t4 : nL (bL4 y) = (nL y + nL y / 256) % 2 ^ 64 := by
      unfold bL4; rw [nL_add, nL_s8]
    have t5 : nL (bL5 (bL4 y)) = (nL (bL4 y) + nL (bL4 y) / 65536) % 2 ^ 64 := by
      unfold bL5; rw [nL_add, nL_s16]
    have t6 : nL (bL6 (bL5 (bL4 y))) = (nL (bL5 (bL4 y)) + nL (bL5 (bL4 y)) / 4294967296) % 2 ^ 64 := by
      unfold bL6; rw [nL_add, nL_s32]
    generalize p3 a = a at *
    generalize p3 b = b at *
    generalize p3 c = c at *
    generalize p3 d = d at *
    generalize p3 e = e at *
    have u4 : nL (bL4 y) = V5 (a + b) (b + c) (c + d) (d + e) e := by rw [t4, s3]; unfold V5; omega
    have u5 : nL (bL5 (bL4 y)) = V5 (a + b + (c + d)) (b + c + (d + e)) (c + d + e) (d + e) e := by rw [t5, u4]; exact V5_s16 (by omega) (by omega) (by omega) (by omega) (by omega)
    have u6 : nL (bL6 (bL5 (bL4 y))) = V5 (a + b + (c + d) + e) (b + c + (d + e)) (c + d + e) (d + e) e := by rw [t6, u5]; exact V5_s32 (by omega) (by omega) (by omega) (by omega) (by omega)
    rw [u6, V5_mod]; omega
  have hb : bcL x = nI (nL (bL6 (bL5 (bL4 y))) % 128) := by
    unfold bcL
    rw [hy]
    generalize bL6 (bL5 (bL4 y)) = u
    refine Int32.toBitVec_inj.mp (BitVec.eq_of_toNat_eq ?_)
    rw [Int32.toBitVec_and, BitVec.toNat_and, Int64.toBitVec_toInt32, BitVec.signExtend_eq_setWidth_of_le _ (by decide), BitVec.toNat_setWidth]
    show (nL u % 2 ^ 32) &&& 127 = _
    rw [show (127 : Nat) = 2 ^ 7 - 1 from rfl, Nat.and_two_pow_sub_one_eq_mod]
    show nL u % 2 ^ 32 % 2 ^ 7 = (BitVec.ofInt 32 (nL u % 128 : Nat)).toNat
    rw [BitVec.ofInt_natCast, BitVec.toNat_ofNat]
    omega
  rw [hb]
  exact nI_lt (b := 41) s6 (by omega)
/-! the lowest bit -/
theorem iB_tb (x : Int32) (k : Nat) : iB x k = x.toBitVec.toNat.testBit k := rfl
theorem lB_tb (x : Int64) (k : Nat) : lB x k = (nL x).testBit k := rfl
theorem low_nat {X k : Nat} (h1 : X.testBit k = true) (h0 : ∀ j, j < k → X.testBit j = false) : ∃ m, X = 2 ^ k * (2 * m + 1) := by
  have e0 : X % 2 ^ k = 0 := by
    refine Nat.eq_of_testBit_eq fun i => ?_
    rw [Nat.testBit_mod_two_pow, Nat.zero_testBit]
    by_cases hi : i < k
    · rw [h0 i hi, Bool.and_false]
    · rw [decide_eq_false hi, Bool.false_and]
  have e1 : X = 2 ^ k * (X / 2 ^ k) := by
    have := Nat.div_add_mod X (2 ^ k)
    rw [e0, Nat.add_zero] at this; exact this.symm
  have e2 : X / 2 ^ k % 2 = 1 := by
    have : (X / 2 ^ k).testBit 0 = true := by rw [Nat.testBit_div_two_pow, Nat.zero_add]; exact h1
    rw [Nat.testBit_zero, decide_eq_true_eq] at this; exact this
  exact ⟨X / 2 ^ k / 2, by rw [show 2 * (X / 2 ^ k / 2) + 1 = X / 2 ^ k by omega]; exact e1⟩
theorem low_bits {x : Int32} {k : Nat} (hk : k < 32) (h1 : iB x k = true) (h0 : ∀ j, j < k → iB x j = false) : (x ^^^ (-1)) &&& (x - 1) = nI (2 ^ k - 1) := by
  obtain ⟨m, hm⟩ := low_nat (X := x.toBitVec.toNat) h1 h0
  have hp2 : 0 < 2 ^ k := Nat.two_pow_pos k
  have hX : (x - 1).toBitVec.toNat = 2 ^ k * (2 * m) + (2 ^ k - 1) := by
    rw [Int32.toBitVec_sub, BitVec.toNat_sub_of_le (by
      show 1 ≤ x.toBitVec.toNat
      rw [hm]; exact Nat.mul_pos hp2 (by omega))]
    show x.toBitVec.toNat - 1 = _
    rw [hm, Nat.mul_add, Nat.mul_one]; omega
  refine iB_ext fun j hj => ?_
  have hr : iB (nI (2 ^ k - 1)) j = decide (j < k) := by
    have hlt : 2 ^ k - 1 < 2 ^ 32 := by
      have := Nat.pow_le_pow_right (n := 2) (by decide) (show k ≤ 32 by omega)
      omega
    show (BitVec.ofInt 32 ((2 ^ k - 1 : Nat) : Int)).toNat.testBit j = _
    rw [BitVec.ofInt_natCast, BitVec.toNat_ofNat, Nat.mod_eq_of_lt hlt, Nat.testBit_two_pow_sub_one]
  rw [iB_and, iB_xor, iB_m1 hj, Bool.xor_true, hr]
  rcases Nat.lt_trichotomy j k with q | q | q
  · rw [h0 j q, decide_eq_true q, iB_tb, hX, Nat.testBit_two_pow_mul_add _ (by omega), if_pos q, Nat.testBit_two_pow_sub_one, decide_eq_true q]; rfl
  · subst q
    rw [h1, decide_eq_false (by omega)]; rfl
  · have e1 : iB (x - 1) j = iB x j := by
      have e0 : x.toBitVec.toNat = 2 ^ k * (2 * m + 1) + 0 := hm
      rw [iB_tb, iB_tb, hX, e0, Nat.testBit_two_pow_mul_add _ (by omega), Nat.testBit_two_pow_mul_add _ hp2, if_neg (by omega), if_neg (by omega)]
      obtain ⟨i, hi⟩ : ∃ i, j - k = i + 1 := ⟨j - k - 1, by omega⟩
      rw [hi, Nat.testBit_succ, Nat.testBit_succ, show 2 * m / 2 = m by omega, show (2 * m + 1) / 2 = m by omega]
    rw [e1, decide_eq_false (by omega), Bool.not_and_self]
theorem ntz_ok : ∀ k, k < 32 → ntz (nI (2 ^ k - 1)) = nI k := by decide +kernel
theorem toI32_B {x : Int64} {j : Nat} (hj : j < 32) : iB x.toInt32 j = lB x j := by
  show x.toInt32.toBitVec.getLsbD j = _
  rw [Int64.toBitVec_toInt32, BitVec.signExtend_eq_setWidth_of_le _ (by decide), BitVec.getLsbD_setWidth, decide_eq_true hj, Bool.true_and]; rfl
theorem shr32_B {x : Int64} {j : Nat} (hj : j < 32) : iB ((x.toUInt64 >>> (((32 : Int32)).toInt64.toUInt64 &&& Int64.toUInt64 63)).toInt64).toInt32 j = lB x (32 + j) := by
  rw [toI32_B hj, lB_tb, nL_s32, lB_tb, show (4294967296 : Nat) = 2 ^ 32 from rfl, Nat.testBit_div_two_pow, Nat.add_comm]
def pcn (n : Nat) : Nat → Nat
  | 0 => 0
  | k + 1 => pcn n k + (n / 2 ^ k) % 2
theorem bcI_12 : ∀ a, a < 64 → ∀ b, b < 64 → bcI (nI (64 * a + b)) = nI (pcn (64 * a + b) 12) := by decide +kernel
theorem pcn_rcnt {n : Nat} {P : Nat → Prop} (h : ∀ i, n.testBit i = true ↔ P i) : ∀ k, pcn n k = rcnt P k := by
  intro k
  induction k with
  | zero => rfl
  | succ k ih =>
    have e : (n / 2 ^ k).testBit 0 = n.testBit k := by rw [Nat.testBit_div_two_pow, Nat.zero_add]
    rw [Nat.testBit_zero] at e
    show pcn n k + n / 2 ^ k % 2 = _
    by_cases hP : P k
    · rw [rcnt_y hP, ih]
      rw [(h k).mpr hP, decide_eq_true_eq] at e
      rw [e]
    · rw [rcnt_n hP, ih]
      have : n.testBit k ≠ true := fun z => hP ((h k).mp z)
      rw [← e] at this
      rw [ne_eq, decide_eq_true_eq] at this
      omega
theorem bcI_cnt {x : Int32} {P : Nat → Prop} (h : ∀ i, iB x i = true ↔ P i) (h12 : ∀ i, P i → i < 12) : bcI x = nI (rcnt P 12) := by
  have hn : x.toBitVec.toNat < 2 ^ 12 := by
    refine Nat.lt_pow_two_of_testBit _ (fun i hi => ?_)
    cases e : x.toBitVec.toNat.testBit i with
    | false => rfl
    | true => exact absurd (h12 i ((h i).mp e)) (by omega)
  have hx : x = nI x.toBitVec.toNat := by
    refine Int32.toBitVec_inj.mp (BitVec.eq_of_toNat_eq ?_)
    show _ = (BitVec.ofInt 32 (x.toBitVec.toNat : Int)).toNat
    rw [BitVec.ofInt_natCast, BitVec.toNat_ofNat, Nat.mod_eq_of_lt (by omega)]
  have e := bcI_12 (x.toBitVec.toNat / 64) (by omega) (x.toBitVec.toNat % 64) (by omega)
  rw [show 64 * (x.toBitVec.toNat / 64) + x.toBitVec.toNat % 64 = x.toBitVec.toNat by omega, ← hx] at e
  rw [e, pcn_rcnt h]
