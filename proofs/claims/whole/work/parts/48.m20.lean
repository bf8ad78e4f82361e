/-! the JDK's bit methods -/
def bL1 (x : Int64) : Int64 := x - ((x.toUInt64 >>> (((1 : Int32)).toInt64.toUInt64 &&& Int64.toUInt64 63)).toInt64 &&& 6148914691236517205)
def bL2 (x : Int64) : Int64 := (x &&& 3689348814741910323) + ((x.toUInt64 >>> (((2 : Int32)).toInt64.toUInt64 &&& Int64.toUInt64 63)).toInt64 &&& 3689348814741910323)
def bL3 (x : Int64) : Int64 := (x + (x.toUInt64 >>> (((4 : Int32)).toInt64.toUInt64 &&& Int64.toUInt64 63)).toInt64) &&& 1085102592571150095
def bL4 (x : Int64) : Int64 := x + (x.toUInt64 >>> (((8 : Int32)).toInt64.toUInt64 &&& Int64.toUInt64 63)).toInt64
def bL5 (x : Int64) : Int64 := x + (x.toUInt64 >>> (((16 : Int32)).toInt64.toUInt64 &&& Int64.toUInt64 63)).toInt64
def bL6 (x : Int64) : Int64 := x + (x.toUInt64 >>> (((32 : Int32)).toInt64.toUInt64 &&& Int64.toUInt64 63)).toInt64
def bcL (x : Int64) : Int32 := (bL6 (bL5 (bL4 (bL3 (bL2 (bL1 x)))))).toInt32 &&& 127
set_option maxHeartbeats 600000 in
set_option maxRecDepth 100000 in
theorem c_JL_bitCount {A : mj_H} {d : Nat} (x : Int64) {post : mj_O → mj_H → Prop} (k : post (.inl (some (.int (bcL x)))) A) : mj_G y_JL_bitCount b_JL_bitCount 2 (some .int) [] d none 0 [(0, .long x)] [] A post := by
  refine G_lload_n 0 d_JL_bitCount_0 rfl ?_
  refine G_lload_n 0 d_JL_bitCount_1 rfl ?_
  refine G_iconst (v := 1) d_JL_bitCount_2 (by decide) ?_
  refine G_lushr d_JL_bitCount_3 ?_
  refine G_ldc2 (v := 6148914691236517205) d_JL_bitCount_4 (tin_1 (List.mem_of_getElem? (i := 186) rfl) rfl) ?_
  refine G_land d_JL_bitCount_7 ?_
  refine G_lsub d_JL_bitCount_8 ?_
  rw [show x - (((x.toUInt64 >>> ((1 : Int32).toInt64.toUInt64 &&& Int64.toUInt64 63)).toInt64) &&& 6148914691236517205) = bL1 x from rfl]
  refine G_lstore_n (ls' := [(0, .long (bL1 x))]) d_JL_bitCount_9 (by decide) rfl ?_
  refine G_lload_n 0 d_JL_bitCount_10 rfl ?_
  refine G_ldc2 (v := 3689348814741910323) d_JL_bitCount_11 (tin_1 (List.mem_of_getElem? (i := 187) rfl) rfl) ?_
  refine G_land d_JL_bitCount_14 ?_
  refine G_lload_n 0 d_JL_bitCount_15 rfl ?_
  refine G_iconst (v := 2) d_JL_bitCount_16 (by decide) ?_
  refine G_lushr d_JL_bitCount_17 ?_
  refine G_ldc2 (v := 3689348814741910323) d_JL_bitCount_18 (tin_1 (List.mem_of_getElem? (i := 187) rfl) rfl) ?_
  refine G_land d_JL_bitCount_21 ?_
  refine G_ladd d_JL_bitCount_22 ?_
  rw [show ((bL1 x) &&& 3689348814741910323) + ((((bL1 x).toUInt64 >>> ((2 : Int32).toInt64.toUInt64 &&& Int64.toUInt64 63)).toInt64) &&& 3689348814741910323) = bL2 (bL1 x) from rfl]
  refine G_lstore_n (ls' := [(0, .long (bL2 (bL1 x)))]) d_JL_bitCount_23 (by decide) rfl ?_
  refine G_lload_n 0 d_JL_bitCount_24 rfl ?_
  refine G_lload_n 0 d_JL_bitCount_25 rfl ?_
  refine G_iconst (v := 4) d_JL_bitCount_26 (by decide) ?_
  refine G_lushr d_JL_bitCount_27 ?_
  refine G_ladd d_JL_bitCount_28 ?_
  refine G_ldc2 (v := 1085102592571150095) d_JL_bitCount_29 (tin_1 (List.mem_of_getElem? (i := 188) rfl) rfl) ?_
  refine G_land d_JL_bitCount_32 ?_
  rw [show ((bL2 (bL1 x)) + (((bL2 (bL1 x)).toUInt64 >>> ((4 : Int32).toInt64.toUInt64 &&& Int64.toUInt64 63)).toInt64)) &&& 1085102592571150095 = bL3 (bL2 (bL1 x)) from rfl]
  refine G_lstore_n (ls' := [(0, .long (bL3 (bL2 (bL1 x))))]) d_JL_bitCount_33 (by decide) rfl ?_
  refine G_lload_n 0 d_JL_bitCount_34 rfl ?_
  refine G_lload_n 0 d_JL_bitCount_35 rfl ?_
  refine G_bipush (v := 8) d_JL_bitCount_36 (by decide) ?_
  refine G_lushr d_JL_bitCount_38 ?_
  refine G_ladd d_JL_bitCount_39 ?_
  rw [show (bL3 (bL2 (bL1 x))) + (((bL3 (bL2 (bL1 x))).toUInt64 >>> ((8 : Int32).toInt64.toUInt64 &&& Int64.toUInt64 63)).toInt64) = bL4 (bL3 (bL2 (bL1 x))) from rfl]
  refine G_lstore_n (ls' := [(0, .long (bL4 (bL3 (bL2 (bL1 x)))))]) d_JL_bitCount_40 (by decide) rfl ?_
  refine G_lload_n 0 d_JL_bitCount_41 rfl ?_
  refine G_lload_n 0 d_JL_bitCount_42 rfl ?_
  refine G_bipush (v := 16) d_JL_bitCount_43 (by decide) ?_
  refine G_lushr d_JL_bitCount_45 ?_
  refine G_ladd d_JL_bitCount_46 ?_
  rw [show (bL4 (bL3 (bL2 (bL1 x)))) + (((bL4 (bL3 (bL2 (bL1 x)))).toUInt64 >>> ((16 : Int32).toInt64.toUInt64 &&& Int64.toUInt64 63)).toInt64) = bL5 (bL4 (bL3 (bL2 (bL1 x)))) from rfl]
  refine G_lstore_n (ls' := [(0, .long (bL5 (bL4 (bL3 (bL2 (bL1 x))))))]) d_JL_bitCount_47 (by decide) rfl ?_
  refine G_lload_n 0 d_JL_bitCount_48 rfl ?_
  refine G_lload_n 0 d_JL_bitCount_49 rfl ?_
  refine G_bipush (v := 32) d_JL_bitCount_50 (by decide) ?_
  refine G_lushr d_JL_bitCount_52 ?_
  refine G_ladd d_JL_bitCount_53 ?_
  rw [show (bL5 (bL4 (bL3 (bL2 (bL1 x))))) + (((bL5 (bL4 (bL3 (bL2 (bL1 x))))).toUInt64 >>> ((32 : Int32).toInt64.toUInt64 &&& Int64.toUInt64 63)).toInt64) = bL6 (bL5 (bL4 (bL3 (bL2 (bL1 x))))) from rfl]
  refine G_lstore_n (ls' := [(0, .long (bL6 (bL5 (bL4 (bL3 (bL2 (bL1 x)))))))]) d_JL_bitCount_54 (by decide) rfl ?_
  refine G_lload_n 0 d_JL_bitCount_55 rfl ?_
  refine G_l2i d_JL_bitCount_56 ?_
  refine G_bipush (v := 127) d_JL_bitCount_57 (by decide) ?_
  refine G_iand d_JL_bitCount_59 ?_
  exact G_iret d_JL_bitCount_60 rfl k
def bcI (x : Int32) : Int32 :=
  let y := x - ((x.toUInt32 >>> (((1 : Int32)).toUInt32 &&& Int32.toUInt32 31)).toInt32 &&& 1431655765)
  let z := (y &&& 858993459) + ((y.toUInt32 >>> (((2 : Int32)).toUInt32 &&& Int32.toUInt32 31)).toInt32 &&& 858993459)
  let u := (z + (z.toUInt32 >>> (((4 : Int32)).toUInt32 &&& Int32.toUInt32 31)).toInt32) &&& 252645135
  let v := u + (u.toUInt32 >>> (((8 : Int32)).toUInt32 &&& Int32.toUInt32 31)).toInt32
  let t := v + (v.toUInt32 >>> (((16 : Int32)).toUInt32 &&& Int32.toUInt32 31)).toInt32
  t &&& 63
set_option maxHeartbeats 600000 in
set_option maxRecDepth 100000 in
theorem c_JI_bitCount {A : mj_H} {d : Nat} (x : Int32) {post : mj_O → mj_H → Prop} (k : post (.inl (some (.int (bcI x)))) A) : mj_G y_JI_bitCount b_JI_bitCount 1 (some .int) [] d none 0 [(0, .int x)] [] A post := by
  refine G_iload_n 0 d_JI_bitCount_0 rfl ?_
  refine G_iload_n 0 d_JI_bitCount_1 rfl ?_
  refine G_iconst (v := 1) d_JI_bitCount_2 (by decide) ?_
  refine G_iushr d_JI_bitCount_3 ?_
  refine G_ldcw (v := 1431655765) d_JI_bitCount_4 (tin_2 (List.mem_of_getElem? (i := 7) rfl) rfl) ?_
  refine G_iand d_JI_bitCount_7 ?_
  refine G_isub d_JI_bitCount_8 ?_
  refine G_istore_n (ls' := [(0, .int (x - (((x.toUInt32 >>> ((1 : Int32).toUInt32 &&& Int32.toUInt32 31)).toInt32) &&& 1431655765)))]) d_JI_bitCount_9 (by decide) rfl ?_
  refine G_iload_n 0 d_JI_bitCount_10 rfl ?_
  refine G_ldcw (v := 858993459) d_JI_bitCount_11 (tin_2 (List.mem_of_getElem? (i := 8) rfl) rfl) ?_
  refine G_iand d_JI_bitCount_14 ?_
  refine G_iload_n 0 d_JI_bitCount_15 rfl ?_
  refine G_iconst (v := 2) d_JI_bitCount_16 (by decide) ?_
  refine G_iushr d_JI_bitCount_17 ?_
  refine G_ldcw (v := 858993459) d_JI_bitCount_18 (tin_2 (List.mem_of_getElem? (i := 8) rfl) rfl) ?_
  refine G_iand d_JI_bitCount_21 ?_
  refine G_iadd d_JI_bitCount_22 ?_
  refine G_istore_n (ls' := [(0, .int (((x - (((x.toUInt32 >>> ((1 : Int32).toUInt32 &&& Int32.toUInt32 31)).toInt32) &&& 1431655765)) &&& 858993459) + ((((x - (((x.toUInt32 >>> ((1 : Int32).toUInt32 &&& Int32.toUInt32 31)).toInt32) &&& 1431655765)).toUInt32 >>> ((2 : Int32).toUInt32 &&& Int32.toUInt32 31)).toInt32) &&& 858993459)))]) d_JI_bitCount_23 (by decide) rfl ?_
  refine G_iload_n 0 d_JI_bitCount_24 rfl ?_
  refine G_iload_n 0 d_JI_bitCount_25 rfl ?_
  refine G_iconst (v := 4) d_JI_bitCount_26 (by decide) ?_
  refine G_iushr d_JI_bitCount_27 ?_
  refine G_iadd d_JI_bitCount_28 ?_
  refine G_ldcw (v := 252645135) d_JI_bitCount_29 (tin_2 (List.mem_of_getElem? (i := 9) rfl) rfl) ?_
  refine G_iand d_JI_bitCount_32 ?_
  refine G_istore_n (ls' := [(0, .int (((((x - (((x.toUInt32 >>> ((1 : Int32).toUInt32 &&& Int32.toUInt32 31)).toInt32) &&& 1431655765)) &&& 858993459) + ((((x - (((x.toUInt32 >>> ((1 : Int32).toUInt32 &&& Int32.toUInt32 31)).toInt32) &&& 1431655765)).toUInt32 >>> ((2 : Int32).toUInt32 &&& Int32.toUInt32 31)).toInt32) &&& 858993459)) + (((((x - (((x.toUInt32 >>> ((1 : Int32).toUInt32 &&& Int32.toUInt32 31)).toInt32) &&& 1431655765)) &&& 858993459) + ((((x - (((x.toUInt32 >>> ((1 : Int32).toUInt32 &&& Int32.toUInt32 31)).toInt32) &&& 1431655765)).toUInt32 >>> ((2 : Int32).toUInt32 &&& Int32.toUInt32 31)).toInt32) &&& 858993459)).toUInt32 >>> ((4 : Int32).toUInt32 &&& Int32.toUInt32 31)).toInt32)) &&& 252645135))]) d_JI_bitCount_33 (by decide) rfl ?_
  refine G_iload_n 0 d_JI_bitCount_34 rfl ?_
  refine G_iload_n 0 d_JI_bitCount_35 rfl ?_
  refine G_bipush (v := 8) d_JI_bitCount_36 (by decide) ?_
  refine G_iushr d_JI_bitCount_38 ?_
  refine G_iadd d_JI_bitCount_39 ?_
  refine G_istore_n (ls' := [(0, .int ((((((x - (((x.toUInt32 >>> ((1 : Int32).toUInt32 &&& Int32.toUInt32 31)).toInt32) &&& 1431655765)) &&& 858993459) + ((((x - (((x.toUInt32 >>> ((1 : Int32).toUInt32 &&& Int32.toUInt32 31)).toInt32) &&& 1431655765)).toUInt32 >>> ((2 : Int32).toUInt32 &&& Int32.toUInt32 31)).toInt32) &&& 858993459)) + (((((x - (((x.toUInt32 >>> ((1 : Int32).toUInt32 &&& Int32.toUInt32 31)).toInt32) &&& 1431655765)) &&& 858993459) + ((((x - (((x.toUInt32 >>> ((1 : Int32).toUInt32 &&& Int32.toUInt32 31)).toInt32) &&& 1431655765)).toUInt32 >>> ((2 : Int32).toUInt32 &&& Int32.toUInt32 31)).toInt32) &&& 858993459)).toUInt32 >>> ((4 : Int32).toUInt32 &&& Int32.toUInt32 31)).toInt32)) &&& 252645135) + (((((((x - (((x.toUInt32 >>> ((1 : Int32).toUInt32 &&& Int32.toUInt32 31)).toInt32) &&& 1431655765)) &&& 858993459) + ((((x - (((x.toUInt32 >>> ((1 : Int32).toUInt32 &&& Int32.toUInt32 31)).toInt32) &&& 1431655765)).toUInt32 >>> ((2 : Int32).toUInt32 &&& Int32.toUInt32 31)).toInt32) &&& 858993459)) + (((((x - (((x.toUInt32 >>> ((1 : Int32).toUInt32 &&& Int32.toUInt32 31)).toInt32) &&& 1431655765)) &&& 858993459) + ((((x - (((x.toUInt32 >>> ((1 : Int32).toUInt32 &&& Int32.toUInt32 31)).toInt32) &&& 1431655765)).toUInt32 >>> ((2 : Int32).toUInt32 &&& Int32.toUInt32 31)).toInt32) &&& 858993459)).toUInt32 >>> ((4 : Int32).toUInt32 &&& Int32.toUInt32 31)).toInt32)) &&& 252645135).toUInt32 >>> ((8 : Int32).toUInt32 &&& Int32.toUInt32 31)).toInt32)))]) d_JI_bitCount_40 (by decide) rfl ?_
  refine G_iload_n 0 d_JI_bitCount_41 rfl ?_
  refine G_iload_n 0 d_JI_bitCount_42 rfl ?_
  refine G_bipush (v := 16) d_JI_bitCount_43 (by decide) ?_
  refine G_iushr d_JI_bitCount_45 ?_
  refine G_iadd d_JI_bitCount_46 ?_
  refine G_istore_n (ls' := [(0, .int (((((((x - (((x.toUInt32 >>> ((1 : Int32).toUInt32 &&& Int32.toUInt32 31)).toInt32) &&& 1431655765)) &&& 858993459) + ((((x - (((x.toUInt32 >>> ((1 : Int32).toUInt32 &&& Int32.toUInt32 31)).toInt32) &&& 1431655765)).toUInt32 >>> ((2 : Int32).toUInt32 &&& Int32.toUInt32 31)).toInt32) &&& 858993459)) + (((((x - (((x.toUInt32 >>> ((1 : Int32).toUInt32 &&& Int32.toUInt32 31)).toInt32) &&& 1431655765)) &&& 858993459) + ((((x - (((x.toUInt32 >>> ((1 : Int32).toUInt32 &&& Int32.toUInt32 31)).toInt32) &&& 1431655765)).toUInt32 >>> ((2 : Int32).toUInt32 &&& Int32.toUInt32 31)).toInt32) &&& 858993459)).toUInt32 >>> ((4 : Int32).toUInt32 &&& Int32.toUInt32 31)).toInt32)) &&& 252645135) + (((((((x - (((x.toUInt32 >>> ((1 : Int32).toUInt32 &&& Int32.toUInt32 31)).toInt32) &&& 1431655765)) &&& 858993459) + ((((x - (((x.toUInt32 >>> ((1 : Int32).toUInt32 &&& Int32.toUInt32 31)).toInt32) &&& 1431655765)).toUInt32 >>> ((2 : Int32).toUInt32 &&& Int32.toUInt32 31)).toInt32) &&& 858993459)) + (((((x - (((x.toUInt32 >>> ((1 : Int32).toUInt32 &&& Int32.toUInt32 31)).toInt32) &&& 1431655765)) &&& 858993459) + ((((x - (((x.toUInt32 >>> ((1 : Int32).toUInt32 &&& Int32.toUInt32 31)).toInt32) &&& 1431655765)).toUInt32 >>> ((2 : Int32).toUInt32 &&& Int32.toUInt32 31)).toInt32) &&& 858993459)).toUInt32 >>> ((4 : Int32).toUInt32 &&& Int32.toUInt32 31)).toInt32)) &&& 252645135).toUInt32 >>> ((8 : Int32).toUInt32 &&& Int32.toUInt32 31)).toInt32)) + ((((((((x - (((x.toUInt32 >>> ((1 : Int32).toUInt32 &&& Int32.toUInt32 31)).toInt32) &&& 1431655765)) &&& 858993459) + ((((x - (((x.toUInt32 >>> ((1 : Int32).toUInt32 &&& Int32.toUInt32 31)).toInt32) &&& 1431655765)).toUInt32 >>> ((2 : Int32).toUInt32 &&& Int32.toUInt32 31)).toInt32) &&& 858993459)) + (((((x - (((x.toUInt32 >>> ((1 : Int32).toUInt32 &&& Int32.toUInt32 31)).toInt32) &&& 1431655765)) &&& 858993459) + ((((x - (((x.toUInt32 >>> ((1 : Int32).toUInt32 &&& Int32.toUInt32 31)).toInt32) &&& 1431655765)).toUInt32 >>> ((2 : Int32).toUInt32 &&& Int32.toUInt32 31)).toInt32) &&& 858993459)).toUInt32 >>> ((4 : Int32).toUInt32 &&& Int32.toUInt32 31)).toInt32)) &&& 252645135) + (((((((x - (((x.toUInt32 >>> ((1 : Int32).toUInt32 &&& Int32.toUInt32 31)).toInt32) &&& 1431655765)) &&& 858993459) + ((((x - (((x.toUInt32 >>> ((1 : Int32).toUInt32 &&& Int32.toUInt32 31)).toInt32) &&& 1431655765)).toUInt32 >>> ((2 : Int32).toUInt32 &&& Int32.toUInt32 31)).toInt32) &&& 858993459)) + (((((x - (((x.toUInt32 >>> ((1 : Int32).toUInt32 &&& Int32.toUInt32 31)).toInt32) &&& 1431655765)) &&& 858993459) + ((((x - (((x.toUInt32 >>> ((1 : Int32).toUInt32 &&& Int32.toUInt32 31)).toInt32) &&& 1431655765)).toUInt32 >>> ((2 : Int32).toUInt32 &&& Int32.toUInt32 31)).toInt32) &&& 858993459)).toUInt32 >>> ((4 : Int32).toUInt32 &&& Int32.toUInt32 31)).toInt32)) &&& 252645135).toUInt32 >>> ((8 : Int32).toUInt32 &&& Int32.toUInt32 31)).toInt32)).toUInt32 >>> ((16 : Int32).toUInt32 &&& Int32.toUInt32 31)).toInt32)))]) d_JI_bitCount_47 (by decide) rfl ?_
  refine G_iload_n 0 d_JI_bitCount_48 rfl ?_
  refine G_bipush (v := 63) d_JI_bitCount_49 (by decide) ?_
  refine G_iand d_JI_bitCount_51 ?_
  exact G_iret d_JI_bitCount_52 rfl k
def nt1 (n x : Int32) : Int32 := n + (x.toUInt32 >>> (((1 : Int32)).toUInt32 &&& Int32.toUInt32 31)).toInt32
def nt4 (n x : Int32) : Int32 := if x ≤ 4 then nt1 n x else nt1 (n + 2) ((x.toUInt32 >>> (((2 : Int32)).toUInt32 &&& Int32.toUInt32 31)).toInt32)
def nt16 (n x : Int32) : Int32 := if x ≤ 16 then nt4 n x else nt4 (n + 4) ((x.toUInt32 >>> (((4 : Int32)).toUInt32 &&& Int32.toUInt32 31)).toInt32)
def nt256 (n x : Int32) : Int32 := if x ≤ 256 then nt16 n x else nt16 (n + 8) ((x.toUInt32 >>> (((8 : Int32)).toUInt32 &&& Int32.toUInt32 31)).toInt32)
def ntB (n x : Int32) : Int32 := if x ≤ 65536 then nt256 n x else nt256 (n + 16) ((x.toUInt32 >>> (((16 : Int32)).toUInt32 &&& Int32.toUInt32 31)).toInt32)
def ntz (x : Int32) : Int32 := if x > 0 then ntB 1 x else x &&& 32
set_option maxHeartbeats 600000 in
set_option maxRecDepth 100000 in
theorem c_JI_ntz {A : mj_H} {d : Nat} {x y : Int32} (hy : (x ^^^ (-1)) &&& (x - 1) = y) {post : mj_O → mj_H → Prop} (k : post (.inl (some (.int (ntz y)))) A) : mj_G y_JI_numberOfTrailingZeros b_JI_numberOfTrailingZeros 2 (some .int) [] d none 0 [(0, .int x)] [] A post := by
  refine G_iload_n 0 d_JI_numberOfTrailingZeros_0 rfl ?_
  refine G_iconst (v := (-1)) d_JI_numberOfTrailingZeros_1 (by decide) ?_
  refine G_ixor d_JI_numberOfTrailingZeros_2 ?_
  refine G_iload_n 0 d_JI_numberOfTrailingZeros_3 rfl ?_
  refine G_iconst (v := 1) d_JI_numberOfTrailingZeros_4 (by decide) ?_
  refine G_isub d_JI_numberOfTrailingZeros_5 ?_
  refine G_iand d_JI_numberOfTrailingZeros_6 ?_
  rw [hy]
  refine G_istore_n (ls' := [(0, .int y)]) d_JI_numberOfTrailingZeros_7 (by decide) rfl ?_
  refine G_iload_n 0 d_JI_numberOfTrailingZeros_8 rfl ?_
  refine G_ifgt 17 d_JI_numberOfTrailingZeros_9 (by decide) (fun h9 => ?_) (fun h9 => ?_)
  · unfold ntz at k
    rw [if_pos h9] at k
    refine G_iconst (v := 1) d_JI_numberOfTrailingZeros_17 (by decide) ?_
    refine G_istore_n (ls' := [(1, .int 1), (0, .int y)]) d_JI_numberOfTrailingZeros_18 (by decide) rfl ?_
    refine G_iload_n 1 d_JI_numberOfTrailingZeros_19 rfl ?_
    refine G_ldcw (v := 65536) d_JI_numberOfTrailingZeros_20 (tin_1 (List.mem_of_getElem? (i := 195) rfl) rfl) ?_
    refine G_icle 34 d_JI_numberOfTrailingZeros_23 (by decide) (fun h23 => ?_) (fun h23 => ?_)
    · unfold ntB at k
      rw [if_pos h23] at k
      refine G_iload_n 1 d_JI_numberOfTrailingZeros_34 rfl ?_
      refine G_sipush (v := 256) d_JI_numberOfTrailingZeros_35 (by decide) ?_
      refine G_icle 49 d_JI_numberOfTrailingZeros_38 (by decide) (fun h38 => ?_) (fun h38 => ?_)
      · unfold nt256 at k
        rw [if_pos h38] at k
        refine G_iload_n 1 d_JI_numberOfTrailingZeros_49 rfl ?_
        refine G_bipush (v := 16) d_JI_numberOfTrailingZeros_50 (by decide) ?_
        refine G_icle 62 d_JI_numberOfTrailingZeros_52 (by decide) (fun h52 => ?_) (fun h52 => ?_)
        · unfold nt16 at k
          rw [if_pos h52] at k
          refine G_iload_n 1 d_JI_numberOfTrailingZeros_62 rfl ?_
          refine G_iconst (v := 4) d_JI_numberOfTrailingZeros_63 (by decide) ?_
          refine G_icle 74 d_JI_numberOfTrailingZeros_64 (by decide) (fun h64 => ?_) (fun h64 => ?_)
          · unfold nt4 at k
            rw [if_pos h64] at k
            refine G_iload_n 0 d_JI_numberOfTrailingZeros_74 rfl ?_
            refine G_iload_n 1 d_JI_numberOfTrailingZeros_75 rfl ?_
            refine G_iconst (v := 1) d_JI_numberOfTrailingZeros_76 (by decide) ?_
            refine G_iushr d_JI_numberOfTrailingZeros_77 ?_
            refine G_iadd d_JI_numberOfTrailingZeros_78 ?_
            exact G_iret d_JI_numberOfTrailingZeros_79 rfl k
          · unfold nt4 at k
            rw [if_neg h64] at k
            refine G_iinc 0 (v := 1 + 2) (ls' := [(1, .int (1 + 2)), (0, .int y)]) d_JI_numberOfTrailingZeros_67 rfl rfl (by decide) rfl ?_
            refine G_iload_n 1 d_JI_numberOfTrailingZeros_70 rfl ?_
            refine G_iconst (v := 2) d_JI_numberOfTrailingZeros_71 (by decide) ?_
            refine G_iushr d_JI_numberOfTrailingZeros_72 ?_
            refine G_istore_n (ls' := [(0, .int ((y.toUInt32 >>> ((2 : Int32).toUInt32 &&& Int32.toUInt32 31)).toInt32)), (1, .int (1 + 2))]) d_JI_numberOfTrailingZeros_73 (by decide) rfl ?_
            refine G_iload_n 1 d_JI_numberOfTrailingZeros_74 rfl ?_
            refine G_iload_n 0 d_JI_numberOfTrailingZeros_75 rfl ?_
            refine G_iconst (v := 1) d_JI_numberOfTrailingZeros_76 (by decide) ?_
            refine G_iushr d_JI_numberOfTrailingZeros_77 ?_
            refine G_iadd d_JI_numberOfTrailingZeros_78 ?_
            exact G_iret d_JI_numberOfTrailingZeros_79 rfl k
        · unfold nt16 at k
          rw [if_neg h52] at k
          refine G_iinc 0 (v := 1 + 4) (ls' := [(1, .int (1 + 4)), (0, .int y)]) d_JI_numberOfTrailingZeros_55 rfl rfl (by decide) rfl ?_
          refine G_iload_n 1 d_JI_numberOfTrailingZeros_58 rfl ?_
          refine G_iconst (v := 4) d_JI_numberOfTrailingZeros_59 (by decide) ?_
          refine G_iushr d_JI_numberOfTrailingZeros_60 ?_
          refine G_istore_n (ls' := [(0, .int ((y.toUInt32 >>> ((4 : Int32).toUInt32 &&& Int32.toUInt32 31)).toInt32)), (1, .int (1 + 4))]) d_JI_numberOfTrailingZeros_61 (by decide) rfl ?_
          refine G_iload_n 0 d_JI_numberOfTrailingZeros_62 rfl ?_
          refine G_iconst (v := 4) d_JI_numberOfTrailingZeros_63 (by decide) ?_
          refine G_icle 74 d_JI_numberOfTrailingZeros_64 (by decide) (fun h64 => ?_) (fun h64 => ?_)
          · unfold nt4 at k
            rw [if_pos h64] at k
            refine G_iload_n 1 d_JI_numberOfTrailingZeros_74 rfl ?_
            refine G_iload_n 0 d_JI_numberOfTrailingZeros_75 rfl ?_
            refine G_iconst (v := 1) d_JI_numberOfTrailingZeros_76 (by decide) ?_
            refine G_iushr d_JI_numberOfTrailingZeros_77 ?_
            refine G_iadd d_JI_numberOfTrailingZeros_78 ?_
            exact G_iret d_JI_numberOfTrailingZeros_79 rfl k
          · unfold nt4 at k
            rw [if_neg h64] at k
            refine G_iinc 1 (v := 1 + 4 + 2) (ls' := [(1, .int (1 + 4 + 2)), (0, .int ((y.toUInt32 >>> ((4 : Int32).toUInt32 &&& Int32.toUInt32 31)).toInt32))]) d_JI_numberOfTrailingZeros_67 rfl rfl (by decide) rfl ?_
            refine G_iload_n 1 d_JI_numberOfTrailingZeros_70 rfl ?_
            refine G_iconst (v := 2) d_JI_numberOfTrailingZeros_71 (by decide) ?_
            refine G_iushr d_JI_numberOfTrailingZeros_72 ?_
            refine G_istore_n (ls' := [(0, .int ((((y.toUInt32 >>> ((4 : Int32).toUInt32 &&& Int32.toUInt32 31)).toInt32).toUInt32 >>> ((2 : Int32).toUInt32 &&& Int32.toUInt32 31)).toInt32)), (1, .int (1 + 4 + 2))]) d_JI_numberOfTrailingZeros_73 (by decide) rfl ?_
            refine G_iload_n 1 d_JI_numberOfTrailingZeros_74 rfl ?_
            refine G_iload_n 0 d_JI_numberOfTrailingZeros_75 rfl ?_
            refine G_iconst (v := 1) d_JI_numberOfTrailingZeros_76 (by decide) ?_
            refine G_iushr d_JI_numberOfTrailingZeros_77 ?_
            refine G_iadd d_JI_numberOfTrailingZeros_78 ?_
            exact G_iret d_JI_numberOfTrailingZeros_79 rfl k
      · unfold nt256 at k
        rw [if_neg h38] at k
        refine G_iinc 0 (v := 1 + 8) (ls' := [(1, .int (1 + 8)), (0, .int y)]) d_JI_numberOfTrailingZeros_41 rfl rfl (by decide) rfl ?_
        refine G_iload_n 1 d_JI_numberOfTrailingZeros_44 rfl ?_
        refine G_bipush (v := 8) d_JI_numberOfTrailingZeros_45 (by decide) ?_
        refine G_iushr d_JI_numberOfTrailingZeros_47 ?_
        refine G_istore_n (ls' := [(0, .int ((y.toUInt32 >>> ((8 : Int32).toUInt32 &&& Int32.toUInt32 31)).toInt32)), (1, .int (1 + 8))]) d_JI_numberOfTrailingZeros_48 (by decide) rfl ?_
        refine G_iload_n 0 d_JI_numberOfTrailingZeros_49 rfl ?_
        refine G_bipush (v := 16) d_JI_numberOfTrailingZeros_50 (by decide) ?_
        refine G_icle 62 d_JI_numberOfTrailingZeros_52 (by decide) (fun h52 => ?_) (fun h52 => ?_)
        · unfold nt16 at k
          rw [if_pos h52] at k
          refine G_iload_n 0 d_JI_numberOfTrailingZeros_62 rfl ?_
          refine G_iconst (v := 4) d_JI_numberOfTrailingZeros_63 (by decide) ?_
          refine G_icle 74 d_JI_numberOfTrailingZeros_64 (by decide) (fun h64 => ?_) (fun h64 => ?_)
          · unfold nt4 at k
            rw [if_pos h64] at k
            refine G_iload_n 1 d_JI_numberOfTrailingZeros_74 rfl ?_
            refine G_iload_n 0 d_JI_numberOfTrailingZeros_75 rfl ?_
            refine G_iconst (v := 1) d_JI_numberOfTrailingZeros_76 (by decide) ?_
            refine G_iushr d_JI_numberOfTrailingZeros_77 ?_
            refine G_iadd d_JI_numberOfTrailingZeros_78 ?_
            exact G_iret d_JI_numberOfTrailingZeros_79 rfl k
          · unfold nt4 at k
            rw [if_neg h64] at k
            refine G_iinc 1 (v := 1 + 8 + 2) (ls' := [(1, .int (1 + 8 + 2)), (0, .int ((y.toUInt32 >>> ((8 : Int32).toUInt32 &&& Int32.toUInt32 31)).toInt32))]) d_JI_numberOfTrailingZeros_67 rfl rfl (by decide) rfl ?_
            refine G_iload_n 1 d_JI_numberOfTrailingZeros_70 rfl ?_
            refine G_iconst (v := 2) d_JI_numberOfTrailingZeros_71 (by decide) ?_
            refine G_iushr d_JI_numberOfTrailingZeros_72 ?_
            refine G_istore_n (ls' := [(0, .int ((((y.toUInt32 >>> ((8 : Int32).toUInt32 &&& Int32.toUInt32 31)).toInt32).toUInt32 >>> ((2 : Int32).toUInt32 &&& Int32.toUInt32 31)).toInt32)), (1, .int (1 + 8 + 2))]) d_JI_numberOfTrailingZeros_73 (by decide) rfl ?_
            refine G_iload_n 1 d_JI_numberOfTrailingZeros_74 rfl ?_
            refine G_iload_n 0 d_JI_numberOfTrailingZeros_75 rfl ?_
            refine G_iconst (v := 1) d_JI_numberOfTrailingZeros_76 (by decide) ?_
            refine G_iushr d_JI_numberOfTrailingZeros_77 ?_
            refine G_iadd d_JI_numberOfTrailingZeros_78 ?_
            exact G_iret d_JI_numberOfTrailingZeros_79 rfl k
        · unfold nt16 at k
          rw [if_neg h52] at k
          refine G_iinc 1 (v := 1 + 8 + 4) (ls' := [(1, .int (1 + 8 + 4)), (0, .int ((y.toUInt32 >>> ((8 : Int32).toUInt32 &&& Int32.toUInt32 31)).toInt32))]) d_JI_numberOfTrailingZeros_55 rfl rfl (by decide) rfl ?_
          refine G_iload_n 1 d_JI_numberOfTrailingZeros_58 rfl ?_
          refine G_iconst (v := 4) d_JI_numberOfTrailingZeros_59 (by decide) ?_
          refine G_iushr d_JI_numberOfTrailingZeros_60 ?_
          refine G_istore_n (ls' := [(0, .int ((((y.toUInt32 >>> ((8 : Int32).toUInt32 &&& Int32.toUInt32 31)).toInt32).toUInt32 >>> ((4 : Int32).toUInt32 &&& Int32.toUInt32 31)).toInt32)), (1, .int (1 + 8 + 4))]) d_JI_numberOfTrailingZeros_61 (by decide) rfl ?_
          refine G_iload_n 0 d_JI_numberOfTrailingZeros_62 rfl ?_
          refine G_iconst (v := 4) d_JI_numberOfTrailingZeros_63 (by decide) ?_
          refine G_icle 74 d_JI_numberOfTrailingZeros_64 (by decide) (fun h64 => ?_) (fun h64 => ?_)
          · unfold nt4 at k
            rw [if_pos h64] at k
            refine G_iload_n 1 d_JI_numberOfTrailingZeros_74 rfl ?_
            refine G_iload_n 0 d_JI_numberOfTrailingZeros_75 rfl ?_
            refine G_iconst (v := 1) d_JI_numberOfTrailingZeros_76 (by decide) ?_
            refine G_iushr d_JI_numberOfTrailingZeros_77 ?_
            refine G_iadd d_JI_numberOfTrailingZeros_78 ?_
            exact G_iret d_JI_numberOfTrailingZeros_79 rfl k
          · unfold nt4 at k
            rw [if_neg h64] at k
            refine G_iinc 1 (v := 1 + 8 + 4 + 2) (ls' := [(1, .int (1 + 8 + 4 + 2)), (0, .int ((((y.toUInt32 >>> ((8 : Int32).toUInt32 &&& Int32.toUInt32 31)).toInt32).toUInt32 >>> ((4 : Int32).toUInt32 &&& Int32.toUInt32 31)).toInt32))]) d_JI_numberOfTrailingZeros_67 rfl rfl (by decide) rfl ?_
            refine G_iload_n 1 d_JI_numberOfTrailingZeros_70 rfl ?_
            refine G_iconst (v := 2) d_JI_numberOfTrailingZeros_71 (by decide) ?_
            refine G_iushr d_JI_numberOfTrailingZeros_72 ?_
            refine G_istore_n (ls' := [(0, .int ((((((y.toUInt32 >>> ((8 : Int32).toUInt32 &&& Int32.toUInt32 31)).toInt32).toUInt32 >>> ((4 : Int32).toUInt32 &&& Int32.toUInt32 31)).toInt32).toUInt32 >>> ((2 : Int32).toUInt32 &&& Int32.toUInt32 31)).toInt32)), (1, .int (1 + 8 + 4 + 2))]) d_JI_numberOfTrailingZeros_73 (by decide) rfl ?_
            refine G_iload_n 1 d_JI_numberOfTrailingZeros_74 rfl ?_
            refine G_iload_n 0 d_JI_numberOfTrailingZeros_75 rfl ?_
            refine G_iconst (v := 1) d_JI_numberOfTrailingZeros_76 (by decide) ?_
            refine G_iushr d_JI_numberOfTrailingZeros_77 ?_
            refine G_iadd d_JI_numberOfTrailingZeros_78 ?_
            exact G_iret d_JI_numberOfTrailingZeros_79 rfl k
    · unfold ntB at k
      rw [if_neg h23] at k
      refine G_iinc 0 (v := 1 + 16) (ls' := [(1, .int (1 + 16)), (0, .int y)]) d_JI_numberOfTrailingZeros_26 rfl rfl (by decide) rfl ?_
      refine G_iload_n 1 d_JI_numberOfTrailingZeros_29 rfl ?_
      refine G_bipush (v := 16) d_JI_numberOfTrailingZeros_30 (by decide) ?_
      refine G_iushr d_JI_numberOfTrailingZeros_32 ?_
      refine G_istore_n (ls' := [(0, .int ((y.toUInt32 >>> ((16 : Int32).toUInt32 &&& Int32.toUInt32 31)).toInt32)), (1, .int (1 + 16))]) d_JI_numberOfTrailingZeros_33 (by decide) rfl ?_
      refine G_iload_n 0 d_JI_numberOfTrailingZeros_34 rfl ?_
      refine G_sipush (v := 256) d_JI_numberOfTrailingZeros_35 (by decide) ?_
      refine G_icle 49 d_JI_numberOfTrailingZeros_38 (by decide) (fun h38 => ?_) (fun h38 => ?_)
      · unfold nt256 at k
        rw [if_pos h38] at k
        refine G_iload_n 0 d_JI_numberOfTrailingZeros_49 rfl ?_
        refine G_bipush (v := 16) d_JI_numberOfTrailingZeros_50 (by decide) ?_
        refine G_icle 62 d_JI_numberOfTrailingZeros_52 (by decide) (fun h52 => ?_) (fun h52 => ?_)
        · unfold nt16 at k
          rw [if_pos h52] at k
          refine G_iload_n 0 d_JI_numberOfTrailingZeros_62 rfl ?_
          refine G_iconst (v := 4) d_JI_numberOfTrailingZeros_63 (by decide) ?_
          refine G_icle 74 d_JI_numberOfTrailingZeros_64 (by decide) (fun h64 => ?_) (fun h64 => ?_)
          · unfold nt4 at k
            rw [if_pos h64] at k
            refine G_iload_n 1 d_JI_numberOfTrailingZeros_74 rfl ?_
            refine G_iload_n 0 d_JI_numberOfTrailingZeros_75 rfl ?_
            refine G_iconst (v := 1) d_JI_numberOfTrailingZeros_76 (by decide) ?_
            refine G_iushr d_JI_numberOfTrailingZeros_77 ?_
            refine G_iadd d_JI_numberOfTrailingZeros_78 ?_
            exact G_iret d_JI_numberOfTrailingZeros_79 rfl k
          · unfold nt4 at k
            rw [if_neg h64] at k
            refine G_iinc 1 (v := 1 + 16 + 2) (ls' := [(1, .int (1 + 16 + 2)), (0, .int ((y.toUInt32 >>> ((16 : Int32).toUInt32 &&& Int32.toUInt32 31)).toInt32))]) d_JI_numberOfTrailingZeros_67 rfl rfl (by decide) rfl ?_
            refine G_iload_n 1 d_JI_numberOfTrailingZeros_70 rfl ?_
            refine G_iconst (v := 2) d_JI_numberOfTrailingZeros_71 (by decide) ?_
            refine G_iushr d_JI_numberOfTrailingZeros_72 ?_
            refine G_istore_n (ls' := [(0, .int ((((y.toUInt32 >>> ((16 : Int32).toUInt32 &&& Int32.toUInt32 31)).toInt32).toUInt32 >>> ((2 : Int32).toUInt32 &&& Int32.toUInt32 31)).toInt32)), (1, .int (1 + 16 + 2))]) d_JI_numberOfTrailingZeros_73 (by decide) rfl ?_
            refine G_iload_n 1 d_JI_numberOfTrailingZeros_74 rfl ?_
            refine G_iload_n 0 d_JI_numberOfTrailingZeros_75 rfl ?_
            refine G_iconst (v := 1) d_JI_numberOfTrailingZeros_76 (by decide) ?_
            refine G_iushr d_JI_numberOfTrailingZeros_77 ?_
            refine G_iadd d_JI_numberOfTrailingZeros_78 ?_
            exact G_iret d_JI_numberOfTrailingZeros_79 rfl k
        · unfold nt16 at k
          rw [if_neg h52] at k
          refine G_iinc 1 (v := 1 + 16 + 4) (ls' := [(1, .int (1 + 16 + 4)), (0, .int ((y.toUInt32 >>> ((16 : Int32).toUInt32 &&& Int32.toUInt32 31)).toInt32))]) d_JI_numberOfTrailingZeros_55 rfl rfl (by decide) rfl ?_
          refine G_iload_n 1 d_JI_numberOfTrailingZeros_58 rfl ?_
          refine G_iconst (v := 4) d_JI_numberOfTrailingZeros_59 (by decide) ?_
          refine G_iushr d_JI_numberOfTrailingZeros_60 ?_
          refine G_istore_n (ls' := [(0, .int ((((y.toUInt32 >>> ((16 : Int32).toUInt32 &&& Int32.toUInt32 31)).toInt32).toUInt32 >>> ((4 : Int32).toUInt32 &&& Int32.toUInt32 31)).toInt32)), (1, .int (1 + 16 + 4))]) d_JI_numberOfTrailingZeros_61 (by decide) rfl ?_
          refine G_iload_n 0 d_JI_numberOfTrailingZeros_62 rfl ?_
          refine G_iconst (v := 4) d_JI_numberOfTrailingZeros_63 (by decide) ?_
          refine G_icle 74 d_JI_numberOfTrailingZeros_64 (by decide) (fun h64 => ?_) (fun h64 => ?_)
          · unfold nt4 at k
            rw [if_pos h64] at k
            refine G_iload_n 1 d_JI_numberOfTrailingZeros_74 rfl ?_
            refine G_iload_n 0 d_JI_numberOfTrailingZeros_75 rfl ?_
            refine G_iconst (v := 1) d_JI_numberOfTrailingZeros_76 (by decide) ?_
            refine G_iushr d_JI_numberOfTrailingZeros_77 ?_
            refine G_iadd d_JI_numberOfTrailingZeros_78 ?_
            exact G_iret d_JI_numberOfTrailingZeros_79 rfl k
          · unfold nt4 at k
            rw [if_neg h64] at k
            refine G_iinc 1 (v := 1 + 16 + 4 + 2) (ls' := [(1, .int (1 + 16 + 4 + 2)), (0, .int ((((y.toUInt32 >>> ((16 : Int32).toUInt32 &&& Int32.toUInt32 31)).toInt32).toUInt32 >>> ((4 : Int32).toUInt32 &&& Int32.toUInt32 31)).toInt32))]) d_JI_numberOfTrailingZeros_67 rfl rfl (by decide) rfl ?_
            refine G_iload_n 1 d_JI_numberOfTrailingZeros_70 rfl ?_
            refine G_iconst (v := 2) d_JI_numberOfTrailingZeros_71 (by decide) ?_
            refine G_iushr d_JI_numberOfTrailingZeros_72 ?_
            refine G_istore_n (ls' := [(0, .int ((((((y.toUInt32 >>> ((16 : Int32).toUInt32 &&& Int32.toUInt32 31)).toInt32).toUInt32 >>> ((4 : Int32).toUInt32 &&& Int32.toUInt32 31)).toInt32).toUInt32 >>> ((2 : Int32).toUInt32 &&& Int32.toUInt32 31)).toInt32)), (1, .int (1 + 16 + 4 + 2))]) d_JI_numberOfTrailingZeros_73 (by decide) rfl ?_
            refine G_iload_n 1 d_JI_numberOfTrailingZeros_74 rfl ?_
            refine G_iload_n 0 d_JI_numberOfTrailingZeros_75 rfl ?_
            refine G_iconst (v := 1) d_JI_numberOfTrailingZeros_76 (by decide) ?_
            refine G_iushr d_JI_numberOfTrailingZeros_77 ?_
            refine G_iadd d_JI_numberOfTrailingZeros_78 ?_
            exact G_iret d_JI_numberOfTrailingZeros_79 rfl k
      · unfold nt256 at k
        rw [if_neg h38] at k
        refine G_iinc 1 (v := 1 + 16 + 8) (ls' := [(1, .int (1 + 16 + 8)), (0, .int ((y.toUInt32 >>> ((16 : Int32).toUInt32 &&& Int32.toUInt32 31)).toInt32))]) d_JI_numberOfTrailingZeros_41 rfl rfl (by decide) rfl ?_
        refine G_iload_n 1 d_JI_numberOfTrailingZeros_44 rfl ?_
        refine G_bipush (v := 8) d_JI_numberOfTrailingZeros_45 (by decide) ?_
        refine G_iushr d_JI_numberOfTrailingZeros_47 ?_
        refine G_istore_n (ls' := [(0, .int ((((y.toUInt32 >>> ((16 : Int32).toUInt32 &&& Int32.toUInt32 31)).toInt32).toUInt32 >>> ((8 : Int32).toUInt32 &&& Int32.toUInt32 31)).toInt32)), (1, .int (1 + 16 + 8))]) d_JI_numberOfTrailingZeros_48 (by decide) rfl ?_
        refine G_iload_n 0 d_JI_numberOfTrailingZeros_49 rfl ?_
        refine G_bipush (v := 16) d_JI_numberOfTrailingZeros_50 (by decide) ?_
        refine G_icle 62 d_JI_numberOfTrailingZeros_52 (by decide) (fun h52 => ?_) (fun h52 => ?_)
        · unfold nt16 at k
          rw [if_pos h52] at k
          refine G_iload_n 0 d_JI_numberOfTrailingZeros_62 rfl ?_
          refine G_iconst (v := 4) d_JI_numberOfTrailingZeros_63 (by decide) ?_
          refine G_icle 74 d_JI_numberOfTrailingZeros_64 (by decide) (fun h64 => ?_) (fun h64 => ?_)
          · unfold nt4 at k
            rw [if_pos h64] at k
            refine G_iload_n 1 d_JI_numberOfTrailingZeros_74 rfl ?_
            refine G_iload_n 0 d_JI_numberOfTrailingZeros_75 rfl ?_
            refine G_iconst (v := 1) d_JI_numberOfTrailingZeros_76 (by decide) ?_
            refine G_iushr d_JI_numberOfTrailingZeros_77 ?_
            refine G_iadd d_JI_numberOfTrailingZeros_78 ?_
            exact G_iret d_JI_numberOfTrailingZeros_79 rfl k
          · unfold nt4 at k
            rw [if_neg h64] at k
            refine G_iinc 1 (v := 1 + 16 + 8 + 2) (ls' := [(1, .int (1 + 16 + 8 + 2)), (0, .int ((((y.toUInt32 >>> ((16 : Int32).toUInt32 &&& Int32.toUInt32 31)).toInt32).toUInt32 >>> ((8 : Int32).toUInt32 &&& Int32.toUInt32 31)).toInt32))]) d_JI_numberOfTrailingZeros_67 rfl rfl (by decide) rfl ?_
            refine G_iload_n 1 d_JI_numberOfTrailingZeros_70 rfl ?_
            refine G_iconst (v := 2) d_JI_numberOfTrailingZeros_71 (by decide) ?_
            refine G_iushr d_JI_numberOfTrailingZeros_72 ?_
            refine G_istore_n (ls' := [(0, .int ((((((y.toUInt32 >>> ((16 : Int32).toUInt32 &&& Int32.toUInt32 31)).toInt32).toUInt32 >>> ((8 : Int32).toUInt32 &&& Int32.toUInt32 31)).toInt32).toUInt32 >>> ((2 : Int32).toUInt32 &&& Int32.toUInt32 31)).toInt32)), (1, .int (1 + 16 + 8 + 2))]) d_JI_numberOfTrailingZeros_73 (by decide) rfl ?_
            refine G_iload_n 1 d_JI_numberOfTrailingZeros_74 rfl ?_
            refine G_iload_n 0 d_JI_numberOfTrailingZeros_75 rfl ?_
            refine G_iconst (v := 1) d_JI_numberOfTrailingZeros_76 (by decide) ?_
            refine G_iushr d_JI_numberOfTrailingZeros_77 ?_
            refine G_iadd d_JI_numberOfTrailingZeros_78 ?_
            exact G_iret d_JI_numberOfTrailingZeros_79 rfl k
        · unfold nt16 at k
          rw [if_neg h52] at k
          refine G_iinc 1 (v := 1 + 16 + 8 + 4) (ls' := [(1, .int (1 + 16 + 8 + 4)), (0, .int ((((y.toUInt32 >>> ((16 : Int32).toUInt32 &&& Int32.toUInt32 31)).toInt32).toUInt32 >>> ((8 : Int32).toUInt32 &&& Int32.toUInt32 31)).toInt32))]) d_JI_numberOfTrailingZeros_55 rfl rfl (by decide) rfl ?_
          refine G_iload_n 1 d_JI_numberOfTrailingZeros_58 rfl ?_
          refine G_iconst (v := 4) d_JI_numberOfTrailingZeros_59 (by decide) ?_
          refine G_iushr d_JI_numberOfTrailingZeros_60 ?_
          refine G_istore_n (ls' := [(0, .int ((((((y.toUInt32 >>> ((16 : Int32).toUInt32 &&& Int32.toUInt32 31)).toInt32).toUInt32 >>> ((8 : Int32).toUInt32 &&& Int32.toUInt32 31)).toInt32).toUInt32 >>> ((4 : Int32).toUInt32 &&& Int32.toUInt32 31)).toInt32)), (1, .int (1 + 16 + 8 + 4))]) d_JI_numberOfTrailingZeros_61 (by decide) rfl ?_
          refine G_iload_n 0 d_JI_numberOfTrailingZeros_62 rfl ?_
          refine G_iconst (v := 4) d_JI_numberOfTrailingZeros_63 (by decide) ?_
          refine G_icle 74 d_JI_numberOfTrailingZeros_64 (by decide) (fun h64 => ?_) (fun h64 => ?_)
          · unfold nt4 at k
            rw [if_pos h64] at k
            refine G_iload_n 1 d_JI_numberOfTrailingZeros_74 rfl ?_
            refine G_iload_n 0 d_JI_numberOfTrailingZeros_75 rfl ?_
            refine G_iconst (v := 1) d_JI_numberOfTrailingZeros_76 (by decide) ?_
            refine G_iushr d_JI_numberOfTrailingZeros_77 ?_
            refine G_iadd d_JI_numberOfTrailingZeros_78 ?_
            exact G_iret d_JI_numberOfTrailingZeros_79 rfl k
          · unfold nt4 at k
            rw [if_neg h64] at k
            refine G_iinc 1 (v := 1 + 16 + 8 + 4 + 2) (ls' := [(1, .int (1 + 16 + 8 + 4 + 2)), (0, .int ((((((y.toUInt32 >>> ((16 : Int32).toUInt32 &&& Int32.toUInt32 31)).toInt32).toUInt32 >>> ((8 : Int32).toUInt32 &&& Int32.toUInt32 31)).toInt32).toUInt32 >>> ((4 : Int32).toUInt32 &&& Int32.toUInt32 31)).toInt32))]) d_JI_numberOfTrailingZeros_67 rfl rfl (by decide) rfl ?_
            refine G_iload_n 1 d_JI_numberOfTrailingZeros_70 rfl ?_
            refine G_iconst (v := 2) d_JI_numberOfTrailingZeros_71 (by decide) ?_
            refine G_iushr d_JI_numberOfTrailingZeros_72 ?_
            refine G_istore_n (ls' := [(0, .int ((((((((y.toUInt32 >>> ((16 : Int32).toUInt32 &&& Int32.toUInt32 31)).toInt32).toUInt32 >>> ((8 : Int32).toUInt32 &&& Int32.toUInt32 31)).toInt32).toUInt32 >>> ((4 : Int32).toUInt32 &&& Int32.toUInt32 31)).toInt32).toUInt32 >>> ((2 : Int32).toUInt32 &&& Int32.toUInt32 31)).toInt32)), (1, .int (1 + 16 + 8 + 4 + 2))]) d_JI_numberOfTrailingZeros_73 (by decide) rfl ?_
            refine G_iload_n 1 d_JI_numberOfTrailingZeros_74 rfl ?_
            refine G_iload_n 0 d_JI_numberOfTrailingZeros_75 rfl ?_
            refine G_iconst (v := 1) d_JI_numberOfTrailingZeros_76 (by decide) ?_
            refine G_iushr d_JI_numberOfTrailingZeros_77 ?_
            refine G_iadd d_JI_numberOfTrailingZeros_78 ?_
            exact G_iret d_JI_numberOfTrailingZeros_79 rfl k
  · unfold ntz at k
    rw [if_neg h9] at k
    refine G_iload_n 0 d_JI_numberOfTrailingZeros_12 rfl ?_
    refine G_bipush (v := 32) d_JI_numberOfTrailingZeros_13 (by decide) ?_
    refine G_iand d_JI_numberOfTrailingZeros_15 ?_
    exact G_iret d_JI_numberOfTrailingZeros_16 rfl k
