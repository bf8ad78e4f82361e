section
-- ===== PART A: goes FIRST, ahead of the names: the tables' words, and 'selects' of the private methods out of them =====
/-- a private method of a class that the tables say can be made, by its rows of tables_1 -/
def lw_okq (q : MethodName × Nat) : Prop := (q.1.cls ≠ "java/lang/invoke/MethodHandle" ∧ q.1.cls ≠ "java/lang/invoke/VarHandle") ∧ Cond.instantiable q.1.cls q.2 ∈ tables_1 ∧ Cond.privateMethod q.1 ∈ tables_1 ∧ Cond.instanceMethod q.1 ∈ tables_1
theorem lw_p0 : lw_okq (⟨"ClauseGlass$Sheet", "clear", "(I)V"⟩, 12) := ⟨⟨by decide +kernel, by decide +kernel⟩, List.mem_of_getElem? (i := 97) (by decide +kernel), List.mem_of_getElem? (i := 105) (by decide +kernel), List.mem_of_getElem? (i := 106) (by decide +kernel)⟩
theorem lw_p1 : lw_okq (⟨"ClauseGlass$Sheet", "leavesSome", "()Z"⟩, 12) := ⟨⟨by decide +kernel, by decide +kernel⟩, List.mem_of_getElem? (i := 97) (by decide +kernel), List.mem_of_getElem? (i := 167) (by decide +kernel), List.mem_of_getElem? (i := 168) (by decide +kernel)⟩
theorem lw_p2 : lw_okq (⟨"ClauseGlass$Sorts", "isSortLiving", "(I)Z"⟩, 9) := ⟨⟨by decide +kernel, by decide +kernel⟩, List.mem_of_getElem? (i := 22) (by decide +kernel), List.mem_of_getElem? (i := 171) (by decide +kernel), List.mem_of_getElem? (i := 172) (by decide +kernel)⟩
theorem lw_p3 : lw_okq (⟨"ClauseGlass$Sheet", "escapes", "(IJI)Z"⟩, 12) := ⟨⟨by decide +kernel, by decide +kernel⟩, List.mem_of_getElem? (i := 97) (by decide +kernel), List.mem_of_getElem? (i := 175) (by decide +kernel), List.mem_of_getElem? (i := 176) (by decide +kernel)⟩
theorem lw_p4 : lw_okq (⟨"ClauseGlass$Sheet", "rowWithLeastLeft", "(IJ)I"⟩, 12) := ⟨⟨by decide +kernel, by decide +kernel⟩, List.mem_of_getElem? (i := 97) (by decide +kernel), List.mem_of_getElem? (i := 179) (by decide +kernel), List.mem_of_getElem? (i := 180) (by decide +kernel)⟩
theorem lw_p5 : lw_okq (⟨"ClauseGlass$Sheet", "rowsSilentAt", "(II)I"⟩, 12) := ⟨⟨by decide +kernel, by decide +kernel⟩, List.mem_of_getElem? (i := 97) (by decide +kernel), List.mem_of_getElem? (i := 197) (by decide +kernel), List.mem_of_getElem? (i := 198) (by decide +kernel)⟩
theorem lw_p6 : lw_okq (⟨"ClauseGlass$Sheet", "isAsked", "(II)Z"⟩, 12) := ⟨⟨by decide +kernel, by decide +kernel⟩, List.mem_of_getElem? (i := 97) (by decide +kernel), List.mem_of_getElem? (i := 201) (by decide +kernel), List.mem_of_getElem? (i := 202) (by decide +kernel)⟩
theorem lw_p7 : lw_okq (⟨"ClauseGlass$Sorts", "livingConsOf", "(I)I"⟩, 9) := ⟨⟨by decide +kernel, by decide +kernel⟩, List.mem_of_getElem? (i := 22) (by decide +kernel), List.mem_of_getElem? (i := 205) (by decide +kernel), List.mem_of_getElem? (i := 206) (by decide +kernel)⟩
theorem lw_p8 : lw_okq (⟨"ClauseGlass$Sheet", "consAskedAt", "(II)I"⟩, 12) := ⟨⟨by decide +kernel, by decide +kernel⟩, List.mem_of_getElem? (i := 97) (by decide +kernel), List.mem_of_getElem? (i := 209) (by decide +kernel), List.mem_of_getElem? (i := 210) (by decide +kernel)⟩
theorem lw_p9 : lw_okq (⟨"ClauseGlass$Sheet", "rowsAsking", "(III)I"⟩, 12) := ⟨⟨by decide +kernel, by decide +kernel⟩, List.mem_of_getElem? (i := 97) (by decide +kernel), List.mem_of_getElem? (i := 213) (by decide +kernel), List.mem_of_getElem? (i := 214) (by decide +kernel)⟩
theorem lw_p10 : lw_okq (⟨"ClauseGlass$Sheet", "reachedRows", "()I"⟩, 12) := ⟨⟨by decide +kernel, by decide +kernel⟩, List.mem_of_getElem? (i := 97) (by decide +kernel), List.mem_of_getElem? (i := 221) (by decide +kernel), List.mem_of_getElem? (i := 222) (by decide +kernel)⟩
theorem lw_p11 : lw_okq (⟨"ClauseGlass$Sheet", "reaches", "(I)Z"⟩, 12) := ⟨⟨by decide +kernel, by decide +kernel⟩, List.mem_of_getElem? (i := 97) (by decide +kernel), List.mem_of_getElem? (i := 225) (by decide +kernel), List.mem_of_getElem? (i := 226) (by decide +kernel)⟩
theorem lw_p12 : lw_okq (⟨"ClauseGlass$Sheet", "hasValue", "(I)Z"⟩, 12) := ⟨⟨by decide +kernel, by decide +kernel⟩, List.mem_of_getElem? (i := 97) (by decide +kernel), List.mem_of_getElem? (i := 229) (by decide +kernel), List.mem_of_getElem? (i := 230) (by decide +kernel)⟩
theorem lw_p13 : lw_okq (⟨"ClauseGlass$Sorts", "isConLiving", "(I)Z"⟩, 9) := ⟨⟨by decide +kernel, by decide +kernel⟩, List.mem_of_getElem? (i := 22) (by decide +kernel), List.mem_of_getElem? (i := 233) (by decide +kernel), List.mem_of_getElem? (i := 234) (by decide +kernel)⟩
theorem lw_p14 : lw_okq (⟨"ClauseGlass$Sheet", "rowsBeforeThatAgree", "(I)I"⟩, 12) := ⟨⟨by decide +kernel, by decide +kernel⟩, List.mem_of_getElem? (i := 97) (by decide +kernel), List.mem_of_getElem? (i := 237) (by decide +kernel), List.mem_of_getElem? (i := 238) (by decide +kernel)⟩
theorem lw_p15 : lw_okq (⟨"ClauseGlass$Sheet", "agree", "(II)Z"⟩, 12) := ⟨⟨by decide +kernel, by decide +kernel⟩, List.mem_of_getElem? (i := 97) (by decide +kernel), List.mem_of_getElem? (i := 241) (by decide +kernel), List.mem_of_getElem? (i := 242) (by decide +kernel)⟩
def lw_privs_1 : List (MethodName × Nat) := [(⟨"ClauseGlass$Sheet", "clear", "(I)V"⟩, 12), (⟨"ClauseGlass$Sheet", "leavesSome", "()Z"⟩, 12), (⟨"ClauseGlass$Sorts", "isSortLiving", "(I)Z"⟩, 9), (⟨"ClauseGlass$Sheet", "escapes", "(IJI)Z"⟩, 12), (⟨"ClauseGlass$Sheet", "rowWithLeastLeft", "(IJ)I"⟩, 12), (⟨"ClauseGlass$Sheet", "rowsSilentAt", "(II)I"⟩, 12), (⟨"ClauseGlass$Sheet", "isAsked", "(II)Z"⟩, 12), (⟨"ClauseGlass$Sorts", "livingConsOf", "(I)I"⟩, 9), (⟨"ClauseGlass$Sheet", "consAskedAt", "(II)I"⟩, 12), (⟨"ClauseGlass$Sheet", "rowsAsking", "(III)I"⟩, 12), (⟨"ClauseGlass$Sheet", "reachedRows", "()I"⟩, 12), (⟨"ClauseGlass$Sheet", "reaches", "(I)Z"⟩, 12), (⟨"ClauseGlass$Sheet", "hasValue", "(I)Z"⟩, 12), (⟨"ClauseGlass$Sorts", "isConLiving", "(I)Z"⟩, 9), (⟨"ClauseGlass$Sheet", "rowsBeforeThatAgree", "(I)I"⟩, 12), (⟨"ClauseGlass$Sheet", "agree", "(II)Z"⟩, 12)]
theorem lw_r1 : ∀ q ∈ lw_privs_1, lw_okq q := List.forall_mem_cons.mpr ⟨lw_p0, List.forall_mem_cons.mpr ⟨lw_p1, List.forall_mem_cons.mpr ⟨lw_p2, List.forall_mem_cons.mpr ⟨lw_p3, List.forall_mem_cons.mpr ⟨lw_p4, List.forall_mem_cons.mpr ⟨lw_p5, List.forall_mem_cons.mpr ⟨lw_p6, List.forall_mem_cons.mpr ⟨lw_p7, List.forall_mem_cons.mpr ⟨lw_p8, List.forall_mem_cons.mpr ⟨lw_p9, List.forall_mem_cons.mpr ⟨lw_p10, List.forall_mem_cons.mpr ⟨lw_p11, List.forall_mem_cons.mpr ⟨lw_p12, List.forall_mem_cons.mpr ⟨lw_p13, List.forall_mem_cons.mpr ⟨lw_p14, List.forall_mem_cons.mpr ⟨lw_p15, fun _ h => absurd h List.not_mem_nil⟩⟩⟩⟩⟩⟩⟩⟩⟩⟩⟩⟩⟩⟩⟩⟩
theorem lw_p16 : lw_okq (⟨"java/lang/Throwable", "fillInStackTrace", "(I)Ljava/lang/Throwable;"⟩, 6) := ⟨⟨by decide +kernel, by decide +kernel⟩, List.mem_of_getElem? (i := 296) (by decide +kernel), List.mem_of_getElem? (i := 294) (by decide +kernel), List.mem_of_getElem? (i := 295) (by decide +kernel)⟩
theorem lw_p17 : lw_okq (⟨"ClauseGlass$Sorts", "addSort", "()I"⟩, 9) := ⟨⟨by decide +kernel, by decide +kernel⟩, List.mem_of_getElem? (i := 22) (by decide +kernel), List.mem_of_getElem? (i := 326) (by decide +kernel), List.mem_of_getElem? (i := 327) (by decide +kernel)⟩
theorem lw_p18 : lw_okq (⟨"ClauseGlass$Sorts", "findLiving", "()V"⟩, 9) := ⟨⟨by decide +kernel, by decide +kernel⟩, List.mem_of_getElem? (i := 22) (by decide +kernel), List.mem_of_getElem? (i := 330) (by decide +kernel), List.mem_of_getElem? (i := 331) (by decide +kernel)⟩
theorem lw_p19 : lw_okq (⟨"ClauseGlass$Sorts", "consWithLivingParts", "()I"⟩, 9) := ⟨⟨by decide +kernel, by decide +kernel⟩, List.mem_of_getElem? (i := 22) (by decide +kernel), List.mem_of_getElem? (i := 334) (by decide +kernel), List.mem_of_getElem? (i := 335) (by decide +kernel)⟩
theorem lw_p20 : lw_okq (⟨"ClauseGlass$Sorts", "partSort", "(II)I"⟩, 9) := ⟨⟨by decide +kernel, by decide +kernel⟩, List.mem_of_getElem? (i := 22) (by decide +kernel), List.mem_of_getElem? (i := 338) (by decide +kernel), List.mem_of_getElem? (i := 339) (by decide +kernel)⟩
theorem lw_p21 : lw_okq (⟨"ClauseGlass$Sorts", "sortsWithLivingCons", "()I"⟩, 9) := ⟨⟨by decide +kernel, by decide +kernel⟩, List.mem_of_getElem? (i := 22) (by decide +kernel), List.mem_of_getElem? (i := 343) (by decide +kernel), List.mem_of_getElem? (i := 344) (by decide +kernel)⟩
theorem lw_p22 : lw_okq (⟨"ClauseGlass", "needSort", "(I)V"⟩, 4) := ⟨⟨by decide +kernel, by decide +kernel⟩, List.mem_of_getElem? (i := 14) (by decide +kernel), List.mem_of_getElem? (i := 356) (by decide +kernel), List.mem_of_getElem? (i := 357) (by decide +kernel)⟩
theorem lw_p23 : lw_okq (⟨"ClauseGlass$Sorts", "hasSort", "(I)Z"⟩, 9) := ⟨⟨by decide +kernel, by decide +kernel⟩, List.mem_of_getElem? (i := 22) (by decide +kernel), List.mem_of_getElem? (i := 360) (by decide +kernel), List.mem_of_getElem? (i := 361) (by decide +kernel)⟩
theorem lw_p24 : lw_okq (⟨"ClauseGlass$Sorts", "addCon", "(IIII)I"⟩, 9) := ⟨⟨by decide +kernel, by decide +kernel⟩, List.mem_of_getElem? (i := 22) (by decide +kernel), List.mem_of_getElem? (i := 383) (by decide +kernel), List.mem_of_getElem? (i := 384) (by decide +kernel)⟩
theorem lw_p25 : lw_okq (⟨"ClauseGlass", "needRoomForPattern", "(I)V"⟩, 4) := ⟨⟨by decide +kernel, by decide +kernel⟩, List.mem_of_getElem? (i := 14) (by decide +kernel), List.mem_of_getElem? (i := 394) (by decide +kernel), List.mem_of_getElem? (i := 395) (by decide +kernel)⟩
theorem lw_p26 : lw_okq (⟨"ClauseGlass$Patterns", "addAny", "(I)I"⟩, 7) := ⟨⟨by decide +kernel, by decide +kernel⟩, List.mem_of_getElem? (i := 63) (by decide +kernel), List.mem_of_getElem? (i := 400) (by decide +kernel), List.mem_of_getElem? (i := 401) (by decide +kernel)⟩
theorem lw_p27 : lw_okq (⟨"ClauseGlass$Patterns", "addPattern", "(IIII)I"⟩, 7) := ⟨⟨by decide +kernel, by decide +kernel⟩, List.mem_of_getElem? (i := 63) (by decide +kernel), List.mem_of_getElem? (i := 404) (by decide +kernel), List.mem_of_getElem? (i := 405) (by decide +kernel)⟩
theorem lw_p28 : lw_okq (⟨"ClauseGlass$Patterns", "addNumber", "(I)I"⟩, 7) := ⟨⟨by decide +kernel, by decide +kernel⟩, List.mem_of_getElem? (i := 63) (by decide +kernel), List.mem_of_getElem? (i := 415) (by decide +kernel), List.mem_of_getElem? (i := 416) (by decide +kernel)⟩
theorem lw_p29 : lw_okq (⟨"ClauseGlass$Sorts", "hasCon", "(I)Z"⟩, 9) := ⟨⟨by decide +kernel, by decide +kernel⟩, List.mem_of_getElem? (i := 22) (by decide +kernel), List.mem_of_getElem? (i := 426) (by decide +kernel), List.mem_of_getElem? (i := 427) (by decide +kernel)⟩
theorem lw_p30 : lw_okq (⟨"ClauseGlass", "needPatternOf", "(II)V"⟩, 4) := ⟨⟨by decide +kernel, by decide +kernel⟩, List.mem_of_getElem? (i := 14) (by decide +kernel), List.mem_of_getElem? (i := 432) (by decide +kernel), List.mem_of_getElem? (i := 433) (by decide +kernel)⟩
theorem lw_p31 : lw_okq (⟨"ClauseGlass", "needPattern", "(I)V"⟩, 4) := ⟨⟨by decide +kernel, by decide +kernel⟩, List.mem_of_getElem? (i := 14) (by decide +kernel), List.mem_of_getElem? (i := 436) (by decide +kernel), List.mem_of_getElem? (i := 437) (by decide +kernel)⟩
def lw_privs_2 : List (MethodName × Nat) := [(⟨"java/lang/Throwable", "fillInStackTrace", "(I)Ljava/lang/Throwable;"⟩, 6), (⟨"ClauseGlass$Sorts", "addSort", "()I"⟩, 9), (⟨"ClauseGlass$Sorts", "findLiving", "()V"⟩, 9), (⟨"ClauseGlass$Sorts", "consWithLivingParts", "()I"⟩, 9), (⟨"ClauseGlass$Sorts", "partSort", "(II)I"⟩, 9), (⟨"ClauseGlass$Sorts", "sortsWithLivingCons", "()I"⟩, 9), (⟨"ClauseGlass", "needSort", "(I)V"⟩, 4), (⟨"ClauseGlass$Sorts", "hasSort", "(I)Z"⟩, 9), (⟨"ClauseGlass$Sorts", "addCon", "(IIII)I"⟩, 9), (⟨"ClauseGlass", "needRoomForPattern", "(I)V"⟩, 4), (⟨"ClauseGlass$Patterns", "addAny", "(I)I"⟩, 7), (⟨"ClauseGlass$Patterns", "addPattern", "(IIII)I"⟩, 7), (⟨"ClauseGlass$Patterns", "addNumber", "(I)I"⟩, 7), (⟨"ClauseGlass$Sorts", "hasCon", "(I)Z"⟩, 9), (⟨"ClauseGlass", "needPatternOf", "(II)V"⟩, 4), (⟨"ClauseGlass", "needPattern", "(I)V"⟩, 4)]
theorem lw_r2 : ∀ q ∈ lw_privs_2, lw_okq q := List.forall_mem_cons.mpr ⟨lw_p16, List.forall_mem_cons.mpr ⟨lw_p17, List.forall_mem_cons.mpr ⟨lw_p18, List.forall_mem_cons.mpr ⟨lw_p19, List.forall_mem_cons.mpr ⟨lw_p20, List.forall_mem_cons.mpr ⟨lw_p21, List.forall_mem_cons.mpr ⟨lw_p22, List.forall_mem_cons.mpr ⟨lw_p23, List.forall_mem_cons.mpr ⟨lw_p24, List.forall_mem_cons.mpr ⟨lw_p25, List.forall_mem_cons.mpr ⟨lw_p26, List.forall_mem_cons.mpr ⟨lw_p27, List.forall_mem_cons.mpr ⟨lw_p28, List.forall_mem_cons.mpr ⟨lw_p29, List.forall_mem_cons.mpr ⟨lw_p30, List.forall_mem_cons.mpr ⟨lw_p31, fun _ h => absurd h List.not_mem_nil⟩⟩⟩⟩⟩⟩⟩⟩⟩⟩⟩⟩⟩⟩⟩⟩
theorem lw_p32 : lw_okq (⟨"ClauseGlass$Patterns", "hasPattern", "(I)Z"⟩, 7) := ⟨⟨by decide +kernel, by decide +kernel⟩, List.mem_of_getElem? (i := 63) (by decide +kernel), List.mem_of_getElem? (i := 440) (by decide +kernel), List.mem_of_getElem? (i := 441) (by decide +kernel)⟩
theorem lw_p33 : lw_okq (⟨"ClauseGlass$Patterns", "addMade", "(IIIII)I"⟩, 7) := ⟨⟨by decide +kernel, by decide +kernel⟩, List.mem_of_getElem? (i := 63) (by decide +kernel), List.mem_of_getElem? (i := 446) (by decide +kernel), List.mem_of_getElem? (i := 447) (by decide +kernel)⟩
theorem lw_p34 : lw_okq (⟨"ClauseGlass$Sheet", "addRow", "(I)V"⟩, 12) := ⟨⟨by decide +kernel, by decide +kernel⟩, List.mem_of_getElem? (i := 97) (by decide +kernel), List.mem_of_getElem? (i := 467) (by decide +kernel), List.mem_of_getElem? (i := 468) (by decide +kernel)⟩
theorem lw_p35 : lw_okq (⟨"ClauseGlass$Sheet", "layPart", "(IIII)V"⟩, 12) := ⟨⟨by decide +kernel, by decide +kernel⟩, List.mem_of_getElem? (i := 97) (by decide +kernel), List.mem_of_getElem? (i := 471) (by decide +kernel), List.mem_of_getElem? (i := 472) (by decide +kernel)⟩
theorem lw_p36 : lw_okq (⟨"ClauseGlass$Patterns", "partOf", "(II)I"⟩, 7) := ⟨⟨by decide +kernel, by decide +kernel⟩, List.mem_of_getElem? (i := 63) (by decide +kernel), List.mem_of_getElem? (i := 475) (by decide +kernel), List.mem_of_getElem? (i := 476) (by decide +kernel)⟩
theorem lw_p37 : lw_okq (⟨"ClauseGlass$Sheet", "placeBelow", "(III)I"⟩, 12) := ⟨⟨by decide +kernel, by decide +kernel⟩, List.mem_of_getElem? (i := 97) (by decide +kernel), List.mem_of_getElem? (i := 479) (by decide +kernel), List.mem_of_getElem? (i := 480) (by decide +kernel)⟩
theorem lw_p38 : lw_okq (⟨"ClauseGlass", "layPair", "(II)V"⟩, 4) := ⟨⟨by decide +kernel, by decide +kernel⟩, List.mem_of_getElem? (i := 14) (by decide +kernel), List.mem_of_getElem? (i := 500) (by decide +kernel), List.mem_of_getElem? (i := 501) (by decide +kernel)⟩
theorem lw_p39 : lw_okq (⟨"ClauseGlassModel", "isSort", "(I)Z"⟩, 36) := ⟨⟨by decide +kernel, by decide +kernel⟩, List.mem_of_getElem? (i := 521) (by decide +kernel), List.mem_of_getElem? (i := 649) (by decide +kernel), List.mem_of_getElem? (i := 650) (by decide +kernel)⟩
theorem lw_p40 : lw_okq (⟨"ClauseGlassModel", "pattern", "(IIIIII)I"⟩, 36) := ⟨⟨by decide +kernel, by decide +kernel⟩, List.mem_of_getElem? (i := 521) (by decide +kernel), List.mem_of_getElem? (i := 657) (by decide +kernel), List.mem_of_getElem? (i := 658) (by decide +kernel)⟩
theorem lw_p41 : lw_okq (⟨"ClauseGlassModel", "isPattern", "(I)Z"⟩, 36) := ⟨⟨by decide +kernel, by decide +kernel⟩, List.mem_of_getElem? (i := 521) (by decide +kernel), List.mem_of_getElem? (i := 669) (by decide +kernel), List.mem_of_getElem? (i := 670) (by decide +kernel)⟩
theorem lw_p42 : lw_okq (⟨"ClauseGlassModel", "reaches", "(I)Z"⟩, 36) := ⟨⟨by decide +kernel, by decide +kernel⟩, List.mem_of_getElem? (i := 521) (by decide +kernel), List.mem_of_getElem? (i := 681) (by decide +kernel), List.mem_of_getElem? (i := 682) (by decide +kernel)⟩
theorem lw_p43 : lw_okq (⟨"ClauseGlassModel", "has", "(I)Z"⟩, 36) := ⟨⟨by decide +kernel, by decide +kernel⟩, List.mem_of_getElem? (i := 521) (by decide +kernel), List.mem_of_getElem? (i := 685) (by decide +kernel), List.mem_of_getElem? (i := 686) (by decide +kernel)⟩
theorem lw_p44 : lw_okq (⟨"ClauseGlassModel", "live", "()V"⟩, 36) := ⟨⟨by decide +kernel, by decide +kernel⟩, List.mem_of_getElem? (i := 521) (by decide +kernel), List.mem_of_getElem? (i := 689) (by decide +kernel), List.mem_of_getElem? (i := 690) (by decide +kernel)⟩
theorem lw_p45 : lw_okq (⟨"ClauseGlassModel", "isUsed", "(I)Z"⟩, 36) := ⟨⟨by decide +kernel, by decide +kernel⟩, List.mem_of_getElem? (i := 521) (by decide +kernel), List.mem_of_getElem? (i := 693) (by decide +kernel), List.mem_of_getElem? (i := 694) (by decide +kernel)⟩
theorem lw_p46 : lw_okq (⟨"ClauseGlassModel", "gather", "(I)V"⟩, 36) := ⟨⟨by decide +kernel, by decide +kernel⟩, List.mem_of_getElem? (i := 521) (by decide +kernel), List.mem_of_getElem? (i := 697) (by decide +kernel), List.mem_of_getElem? (i := 698) (by decide +kernel)⟩
theorem lw_p47 : lw_okq (⟨"ClauseGlassModel", "look", "(I)I"⟩, 36) := ⟨⟨by decide +kernel, by decide +kernel⟩, List.mem_of_getElem? (i := 521) (by decide +kernel), List.mem_of_getElem? (i := 701) (by decide +kernel), List.mem_of_getElem? (i := 702) (by decide +kernel)⟩
def lw_privs_3 : List (MethodName × Nat) := [(⟨"ClauseGlass$Patterns", "hasPattern", "(I)Z"⟩, 7), (⟨"ClauseGlass$Patterns", "addMade", "(IIIII)I"⟩, 7), (⟨"ClauseGlass$Sheet", "addRow", "(I)V"⟩, 12), (⟨"ClauseGlass$Sheet", "layPart", "(IIII)V"⟩, 12), (⟨"ClauseGlass$Patterns", "partOf", "(II)I"⟩, 7), (⟨"ClauseGlass$Sheet", "placeBelow", "(III)I"⟩, 12), (⟨"ClauseGlass", "layPair", "(II)V"⟩, 4), (⟨"ClauseGlassModel", "isSort", "(I)Z"⟩, 36), (⟨"ClauseGlassModel", "pattern", "(IIIIII)I"⟩, 36), (⟨"ClauseGlassModel", "isPattern", "(I)Z"⟩, 36), (⟨"ClauseGlassModel", "reaches", "(I)Z"⟩, 36), (⟨"ClauseGlassModel", "has", "(I)Z"⟩, 36), (⟨"ClauseGlassModel", "live", "()V"⟩, 36), (⟨"ClauseGlassModel", "isUsed", "(I)Z"⟩, 36), (⟨"ClauseGlassModel", "gather", "(I)V"⟩, 36), (⟨"ClauseGlassModel", "look", "(I)I"⟩, 36)]
theorem lw_r3 : ∀ q ∈ lw_privs_3, lw_okq q := List.forall_mem_cons.mpr ⟨lw_p32, List.forall_mem_cons.mpr ⟨lw_p33, List.forall_mem_cons.mpr ⟨lw_p34, List.forall_mem_cons.mpr ⟨lw_p35, List.forall_mem_cons.mpr ⟨lw_p36, List.forall_mem_cons.mpr ⟨lw_p37, List.forall_mem_cons.mpr ⟨lw_p38, List.forall_mem_cons.mpr ⟨lw_p39, List.forall_mem_cons.mpr ⟨lw_p40, List.forall_mem_cons.mpr ⟨lw_p41, List.forall_mem_cons.mpr ⟨lw_p42, List.forall_mem_cons.mpr ⟨lw_p43, List.forall_mem_cons.mpr ⟨lw_p44, List.forall_mem_cons.mpr ⟨lw_p45, List.forall_mem_cons.mpr ⟨lw_p46, List.forall_mem_cons.mpr ⟨lw_p47, fun _ h => absurd h List.not_mem_nil⟩⟩⟩⟩⟩⟩⟩⟩⟩⟩⟩⟩⟩⟩⟩⟩
theorem lw_p48 : lw_okq (⟨"ClauseGlassModel", "node", "(I)I"⟩, 36) := ⟨⟨by decide +kernel, by decide +kernel⟩, List.mem_of_getElem? (i := 521) (by decide +kernel), List.mem_of_getElem? (i := 705) (by decide +kernel), List.mem_of_getElem? (i := 706) (by decide +kernel)⟩
theorem lw_p49 : lw_okq (⟨"ClauseGlassModel", "fill", "(II)V"⟩, 36) := ⟨⟨by decide +kernel, by decide +kernel⟩, List.mem_of_getElem? (i := 521) (by decide +kernel), List.mem_of_getElem? (i := 709) (by decide +kernel), List.mem_of_getElem? (i := 710) (by decide +kernel)⟩
theorem lw_p50 : lw_okq (⟨"ClauseGlassModel", "isTried", "(I)Z"⟩, 36) := ⟨⟨by decide +kernel, by decide +kernel⟩, List.mem_of_getElem? (i := 521) (by decide +kernel), List.mem_of_getElem? (i := 713) (by decide +kernel), List.mem_of_getElem? (i := 714) (by decide +kernel)⟩
theorem lw_p51 : lw_okq (⟨"ClauseGlassModel", "fit", "(II)I"⟩, 36) := ⟨⟨by decide +kernel, by decide +kernel⟩, List.mem_of_getElem? (i := 521) (by decide +kernel), List.mem_of_getElem? (i := 717) (by decide +kernel), List.mem_of_getElem? (i := 718) (by decide +kernel)⟩
theorem lw_p52 : lw_okq (⟨"ClauseGlassModel", "options", "(I)I"⟩, 36) := ⟨⟨by decide +kernel, by decide +kernel⟩, List.mem_of_getElem? (i := 521) (by decide +kernel), List.mem_of_getElem? (i := 721) (by decide +kernel), List.mem_of_getElem? (i := 722) (by decide +kernel)⟩
theorem lw_p53 : lw_okq (⟨"ClauseGlassModel", "areLike", "(II)Z"⟩, 36) := ⟨⟨by decide +kernel, by decide +kernel⟩, List.mem_of_getElem? (i := 521) (by decide +kernel), List.mem_of_getElem? (i := 737) (by decide +kernel), List.mem_of_getElem? (i := 738) (by decide +kernel)⟩
def lw_privs_4 : List (MethodName × Nat) := [(⟨"ClauseGlassModel", "node", "(I)I"⟩, 36), (⟨"ClauseGlassModel", "fill", "(II)V"⟩, 36), (⟨"ClauseGlassModel", "isTried", "(I)Z"⟩, 36), (⟨"ClauseGlassModel", "fit", "(II)I"⟩, 36), (⟨"ClauseGlassModel", "options", "(I)I"⟩, 36), (⟨"ClauseGlassModel", "areLike", "(II)Z"⟩, 36)]
theorem lw_r4 : ∀ q ∈ lw_privs_4, lw_okq q := List.forall_mem_cons.mpr ⟨lw_p48, List.forall_mem_cons.mpr ⟨lw_p49, List.forall_mem_cons.mpr ⟨lw_p50, List.forall_mem_cons.mpr ⟨lw_p51, List.forall_mem_cons.mpr ⟨lw_p52, List.forall_mem_cons.mpr ⟨lw_p53, fun _ h => absurd h List.not_mem_nil⟩⟩⟩⟩⟩⟩
def lw_privs : List (MethodName × Nat) := lw_privs_1 ++ (lw_privs_2 ++ (lw_privs_3 ++ (lw_privs_4)))
def lw_tbl : List Cond := k2_sels lw_privs ++ tables_1
theorem lw_privs_ok : ∀ q ∈ lw_privs, lw_okq q := by
  show ∀ q ∈ lw_privs_1 ++ (lw_privs_2 ++ (lw_privs_3 ++ (lw_privs_4))), lw_okq q
  exact List.forall_mem_append.mpr ⟨lw_r1, List.forall_mem_append.mpr ⟨lw_r2, List.forall_mem_append.mpr ⟨lw_r3, lw_r4⟩⟩⟩
-- ===== end of PART A; then your names; then what follows =====
end
section
/-! the words of the tables that any later state keeps -/
def tw_k (w : Cond) : Bool := match w with
  | .arrayClass _ | .fieldLinkNest .. | .methodLinkNest .. | .stringRef .. => true
  | w => w.onTables && (w.keeps || w.faceAtom)
def tw_tbl : List Cond := lw_tbl.filter tw_k
theorem tw_moved {w : Cond} {s U : State} {A A' : Array Value} (hW : s.WarmedH U.vm) (hk : tw_k w = true) (h : w.before A s = true) : w.before A' U = true := by
  have main : (w.onTables && (w.keeps || w.faceAtom)) = true → w.before A' U = true := by
    intro hq
    simp only [Bool.and_eq_true, Bool.or_eq_true] at hq
    have h1 : w.before A (s.setVm U.vm) = true := by
      rcases hq.2 with h2 | h2
      · exact Cond.holds_shifted (State.Shifted.of_warmed hW) w [] h2 h
      · exact Cond.faceAtom_setVm hW.alike w h2 h
    exact va_tabs hq.1 (rfl : (s.setVm U.vm).vm = U.vm) h1
  cases w with
  | arrayClass ty => exact word_at hW (Or.inr ⟨ty, rfl⟩) h
  | fieldLinkNest a i b n d hh => exact va_tabs rfl (rfl : (s.setVm U.vm).vm = U.vm) (Cond.fieldLinkNest_warmed hW h)
  | methodLinkNest a i x hh => exact va_tabs rfl (rfl : (s.setVm U.vm).vm = U.vm) (Cond.methodLinkNest_warmed hW h)
  | stringRef a i t => exact Cond.stringRef_warmed hW h
  | _ => exact main hk
theorem tw_in {w : Cond} (h : w ∈ tw_tbl) : tw_k w = true := (List.mem_filter.mp h).2
/-! abstract cells: arrays by a tag (0 int, 1 long, 2 boolean, 3 int[]), objects by the number of their class; references are numbers of cells -/
abbrev mj_C : Type := (Nat × vp_A) ⊕ (Nat × List Value)
abbrev mj_H : Type := List mj_C × Nat × Nat
abbrev mj_O : Type := Option Value ⊕ Nat
def mj_v (ad : Nat → Nat) (v : Value) : Value := match v with
  | .ref k => .ref (ad k)
  | w => w
def mj_A (ad : Nat → Nat) (x : vp_A) : vp_A := (x.1, match x.2 with
  | .inr (.inr (.inr (.inr f))) => .inr (.inr (.inr (.inr (fun i => (f i).map ad))))
  | y => y)
def mj_E (ad : Nat → Nat) (cy : ClassId) (c : mj_C) : va_E := match c with
  | .inl q => .inl (cy, mj_A ad q.2)
  | .inr q => .inr (q.1, q.2.map (mj_v ad))
def mj_W (ad : Nat → Nat) (cy : Nat → ClassId) (A : List mj_C) : va_W := A.mapIdx (fun k c => (ad k, mj_E ad (cy k) c))
theorem mj_W_get {ad : Nat → Nat} {cy : Nat → ClassId} {A : List mj_C} {k : Nat} {c : mj_C} (h : A[k]? = some c) : (mj_W ad cy A)[k]? = some (ad k, mj_E ad (cy k) c) := by
  simp [mj_W, h]
theorem mj_W_set {ad : Nat → Nat} {cy : Nat → ClassId} {A : List mj_C} {k : Nat} {c : mj_C} : (mj_W ad cy A).set k (ad k, mj_E ad (cy k) c) = mj_W ad cy (A.set k c) := by
  simp [mj_W, List.mapIdx_set]
theorem mj_W_len {ad : Nat → Nat} {cy : Nat → ClassId} {A : List mj_C} : (mj_W ad cy A).length = A.length := by simp [mj_W]
def mj_rv (n : Nat) (v : Value) : Prop := ∀ j, v = .ref j → j < n
/-- every reference that the cell holds is below n -/
def mj_rf (n : Nat) (c : mj_C) : Prop := match c with
  | .inl q => (match q.2.2 with
    | .inr (.inr (.inr (.inr f))) => ∀ i j, f i = some j → j < n
    | _ => True)
  | .inr q => ∀ v ∈ q.2, mj_rv n v
theorem mj_v_ext {ad ad' : Nat → Nat} {n : Nat} {v : Value} (h : mj_rv n v) (he : ∀ k, k < n → ad' k = ad k) : mj_v ad' v = mj_v ad v := by
  cases v with
  | ref j => show Value.ref (ad' j) = Value.ref (ad j); rw [he j (h j rfl)]
  | _ => rfl
theorem mj_E_ext {ad ad' : Nat → Nat} {n : Nat} {cy : ClassId} {c : mj_C} (h : mj_rf n c) (he : ∀ k, k < n → ad' k = ad k) : mj_E ad' cy c = mj_E ad cy c := by
  rcases c with ⟨tg, m, x⟩ | ⟨ci, fs⟩
  · rcases x with f | f | f | f | f
    · rfl
    · rfl
    · rfl
    · rfl
    · show Sum.inl (cy, (m, _)) = Sum.inl (cy, (m, _))
      have hf : (fun i => (f i).map ad') = fun i => (f i).map ad := by
        funext i
        cases hfi : f i with
        | none => rfl
        | some j => show some (ad' j) = some (ad j); rw [he j (h i j hfi)]
      simp only [hf]
  · show Sum.inr (ci, fs.map (mj_v ad')) = Sum.inr (ci, fs.map (mj_v ad))
    have : fs.map (mj_v ad') = fs.map (mj_v ad) := List.map_congr_left (fun v hv => mj_v_ext (h v hv) he)
    rw [this]
theorem mj_W_push {ad : Nat → Nat} {cy : Nat → ClassId} {A : List mj_C} {q : Nat} {cA : ClassId} {c : mj_C} (hA : ∀ (k : Nat) (c : mj_C), A[k]? = some c → mj_rf A.length c) (hc : mj_rf A.length c) :
    mj_W ad cy A ++ [(q, mj_E ad cA c)] = mj_W (va_up ad A.length q) (va_up cy A.length cA) (A ++ [c]) := by
  unfold mj_W
  rw [List.mapIdx_concat]
  have he : ∀ k, k < A.length → va_up ad A.length q k = ad k := fun k hk => va_up_ne ad q (Nat.ne_of_lt hk)
  congr 1
  · apply List.ext_getElem?
    intro k
    rw [List.getElem?_mapIdx, List.getElem?_mapIdx]
    cases hk : A[k]? with
    | none => rfl
    | some d =>
      have hlt : k < A.length := by
        rcases Nat.lt_or_ge k A.length with h | h
        · exact h
        · rw [List.getElem?_eq_none h] at hk; cases hk
      show some (ad k, mj_E ad (cy k) d) = some (va_up ad A.length q k, mj_E (va_up ad A.length q) (va_up cy A.length cA k) d)
      rw [he k hlt, va_up_ne cy cA (Nat.ne_of_lt hlt), mj_E_ext (hA k d hk) he]
  · rw [va_up_self, va_up_self, mj_E_ext hc he]
def mj_ty (t : Nat) : FieldType := match t with
  | 0 => .int
  | 1 => .long
  | 2 => .boolean
  | _ => .array .int
end
section
def R_P : String := "ClauseGlass$Patterns"
def F_P : u_T := fun k => match k with
  | 0 => ("ClauseGlass$Patterns", "patternCount", "I", false)
  | 1 => ("ClauseGlass$Patterns", "kind", "[I", true)
  | 2 => ("ClauseGlass$Patterns", "sort", "[I", true)
  | 3 => ("ClauseGlass$Patterns", "top", "[I", true)
  | 4 => ("ClauseGlass$Patterns", "first", "[I", true)
  | 5 => ("ClauseGlass$Patterns", "second", "[I", true)
  | _ => ("ClauseGlass$Patterns", "size", "[I", true)
def t_P : Nat → FieldType := fun k => match k with
  | 0 => .int
  | 1 => (.array .int)
  | 2 => (.array .int)
  | 3 => (.array .int)
  | 4 => (.array .int)
  | 5 => (.array .int)
  | _ => (.array .int)
set_option maxRecDepth 100000 in
theorem n_P : ∀ a, a < 7 → ∀ b, b < 7 → a ≠ b → (F_P a).2.1 ≠ (F_P b).2.1 := by decide +kernel
theorem tk_P : ∀ k, k < 7 → parseFieldDescriptor (F_P k).2.2.1 = some (t_P k) := by decide +kernel
theorem dk_P : ∀ k, k < 7 → (F_P k).1 = R_P := by decide +kernel
set_option maxRecDepth 100000 in
theorem i_P : ∀ w ∈ u_ws R_P F_P 7, w ∈ tw_tbl := by decide +kernel
def R_H : String := "ClauseGlass$Sheet"
def F_H : u_T := fun k => match k with
  | 0 => ("ClauseGlass$Sheet", "sorts", "LClauseGlass$Sorts;", true)
  | 1 => ("ClauseGlass$Sheet", "patterns", "LClauseGlass$Patterns;", true)
  | 2 => ("ClauseGlass$Sheet", "sort", "I", false)
  | 3 => ("ClauseGlass$Sheet", "rowCount", "I", false)
  | 4 => ("ClauseGlass$Sheet", "placeCount", "I", false)
  | 5 => ("ClauseGlass$Sheet", "size", "I", false)
  | 6 => ("ClauseGlass$Sheet", "asked", "[J", true)
  | 7 => ("ClauseGlass$Sheet", "asks", "[[I", true)
  | 8 => ("ClauseGlass$Sheet", "placeSort", "[I", true)
  | 9 => ("ClauseGlass$Sheet", "placeAbove", "[I", true)
  | 10 => ("ClauseGlass$Sheet", "conAbove", "[I", true)
  | _ => ("ClauseGlass$Sheet", "partAbove", "[I", true)
def t_H : Nat → FieldType := fun k => match k with
  | 0 => (.object "ClauseGlass$Sorts")
  | 1 => (.object "ClauseGlass$Patterns")
  | 2 => .int
  | 3 => .int
  | 4 => .int
  | 5 => .int
  | 6 => (.array .long)
  | 7 => (.array (.array .int))
  | 8 => (.array .int)
  | 9 => (.array .int)
  | 10 => (.array .int)
  | _ => (.array .int)
set_option maxRecDepth 100000 in
theorem n_H : ∀ a, a < 12 → ∀ b, b < 12 → a ≠ b → (F_H a).2.1 ≠ (F_H b).2.1 := by decide +kernel
theorem tk_H : ∀ k, k < 12 → parseFieldDescriptor (F_H k).2.2.1 = some (t_H k) := by decide +kernel
theorem dk_H : ∀ k, k < 12 → (F_H k).1 = R_H := by decide +kernel
set_option maxRecDepth 100000 in
theorem i_H : ∀ w ∈ u_ws R_H F_H 12, w ∈ tw_tbl := by decide +kernel
def R_S : String := "ClauseGlass$Sorts"
def F_S : u_T := fun k => match k with
  | 0 => ("ClauseGlass$Sorts", "sortCount", "I", false)
  | 1 => ("ClauseGlass$Sorts", "conCount", "I", false)
  | 2 => ("ClauseGlass$Sorts", "livingSorts", "I", false)
  | 3 => ("ClauseGlass$Sorts", "livingCons", "I", false)
  | 4 => ("ClauseGlass$Sorts", "consOf", "[I", true)
  | 5 => ("ClauseGlass$Sorts", "conSort", "[I", true)
  | 6 => ("ClauseGlass$Sorts", "partCount", "[I", true)
  | 7 => ("ClauseGlass$Sorts", "firstSort", "[I", true)
  | _ => ("ClauseGlass$Sorts", "secondSort", "[I", true)
def t_S : Nat → FieldType := fun k => match k with
  | 0 => .int
  | 1 => .int
  | 2 => .int
  | 3 => .int
  | 4 => (.array .int)
  | 5 => (.array .int)
  | 6 => (.array .int)
  | 7 => (.array .int)
  | _ => (.array .int)
set_option maxRecDepth 100000 in
theorem n_S : ∀ a, a < 9 → ∀ b, b < 9 → a ≠ b → (F_S a).2.1 ≠ (F_S b).2.1 := by decide +kernel
theorem tk_S : ∀ k, k < 9 → parseFieldDescriptor (F_S k).2.2.1 = some (t_S k) := by decide +kernel
theorem dk_S : ∀ k, k < 9 → (F_S k).1 = R_S := by decide +kernel
set_option maxRecDepth 100000 in
theorem i_S : ∀ w ∈ u_ws R_S F_S 9, w ∈ tw_tbl := by decide +kernel
def R_C : String := "ClauseGlass"
def F_C : u_T := fun k => match k with
  | 0 => ("ClauseGlass", "sorts", "LClauseGlass$Sorts;", true)
  | 1 => ("ClauseGlass", "patterns", "LClauseGlass$Patterns;", true)
  | 2 => ("ClauseGlass", "clauses", "LClauseGlass$Sheet;", true)
  | _ => ("ClauseGlass", "pair", "LClauseGlass$Sheet;", true)
def t_C : Nat → FieldType := fun k => match k with
  | 0 => (.object "ClauseGlass$Sorts")
  | 1 => (.object "ClauseGlass$Patterns")
  | 2 => (.object "ClauseGlass$Sheet")
  | _ => (.object "ClauseGlass$Sheet")
set_option maxRecDepth 100000 in
theorem n_C : ∀ a, a < 4 → ∀ b, b < 4 → a ≠ b → (F_C a).2.1 ≠ (F_C b).2.1 := by decide +kernel
theorem tk_C : ∀ k, k < 4 → parseFieldDescriptor (F_C k).2.2.1 = some (t_C k) := by decide +kernel
theorem dk_C : ∀ k, k < 4 → (F_C k).1 = R_C := by decide +kernel
set_option maxRecDepth 100000 in
theorem i_C : ∀ w ∈ u_ws R_C F_C 4, w ∈ tw_tbl := by decide +kernel
def R_M : String := "ClauseGlassModel"
def F_M : u_T := fun k => match k with
  | 0 => ("ClauseGlassModel", "thrown", "I", false)
  | 1 => ("ClauseGlassModel", "sorts", "I", false)
  | 2 => ("ClauseGlassModel", "cons", "I", false)
  | 3 => ("ClauseGlassModel", "patterns", "I", false)
  | 4 => ("ClauseGlassModel", "clauses", "I", false)
  | 5 => ("ClauseGlassModel", "clauseSort", "I", false)
  | 6 => ("ClauseGlassModel", "conSort", "[I", true)
  | 7 => ("ClauseGlassModel", "conParts", "[I", true)
  | 8 => ("ClauseGlassModel", "conFirst", "[I", true)
  | 9 => ("ClauseGlassModel", "conSecond", "[I", true)
  | 10 => ("ClauseGlassModel", "kind", "[I", true)
  | 11 => ("ClauseGlassModel", "sortOf", "[I", true)
  | 12 => ("ClauseGlassModel", "what", "[I", true)
  | 13 => ("ClauseGlassModel", "first", "[I", true)
  | 14 => ("ClauseGlassModel", "second", "[I", true)
  | 15 => ("ClauseGlassModel", "width", "[I", true)
  | 16 => ("ClauseGlassModel", "clause", "[I", true)
  | 17 => ("ClauseGlassModel", "lives", "[Z", true)
  | 18 => ("ClauseGlassModel", "nodeKind", "[I", true)
  | 19 => ("ClauseGlassModel", "nodeSort", "[I", true)
  | 20 => ("ClauseGlassModel", "nodeWhat", "[I", true)
  | 21 => ("ClauseGlassModel", "nodeFirst", "[I", true)
  | 22 => ("ClauseGlassModel", "nodeSecond", "[I", true)
  | 23 => ("ClauseGlassModel", "nodes", "I", false)
  | 24 => ("ClauseGlassModel", "holes", "[I", true)
  | 25 => ("ClauseGlassModel", "choice", "[I", true)
  | 26 => ("ClauseGlassModel", "choices", "[I", true)
  | 27 => ("ClauseGlassModel", "splits", "I", false)
  | 28 => ("ClauseGlassModel", "hole", "I", false)
  | 29 => ("ClauseGlassModel", "stands", "[Z", true)
  | 30 => ("ClauseGlassModel", "must", "[I", true)
  | 31 => ("ClauseGlassModel", "never", "[I", true)
  | 32 => ("ClauseGlassModel", "ints", "[I", true)
  | 33 => ("ClauseGlassModel", "musts", "I", false)
  | 34 => ("ClauseGlassModel", "nevers", "I", false)
  | _ => ("ClauseGlassModel", "intMany", "I", false)
def t_M : Nat → FieldType := fun k => match k with
  | 0 => .int
  | 1 => .int
  | 2 => .int
  | 3 => .int
  | 4 => .int
  | 5 => .int
  | 6 => (.array .int)
  | 7 => (.array .int)
  | 8 => (.array .int)
  | 9 => (.array .int)
  | 10 => (.array .int)
  | 11 => (.array .int)
  | 12 => (.array .int)
  | 13 => (.array .int)
  | 14 => (.array .int)
  | 15 => (.array .int)
  | 16 => (.array .int)
  | 17 => (.array .boolean)
  | 18 => (.array .int)
  | 19 => (.array .int)
  | 20 => (.array .int)
  | 21 => (.array .int)
  | 22 => (.array .int)
  | 23 => .int
  | 24 => (.array .int)
  | 25 => (.array .int)
  | 26 => (.array .int)
  | 27 => .int
  | 28 => .int
  | 29 => (.array .boolean)
  | 30 => (.array .int)
  | 31 => (.array .int)
  | 32 => (.array .int)
  | 33 => .int
  | 34 => .int
  | _ => .int
set_option maxRecDepth 100000 in
theorem n_M : ∀ a, a < 36 → ∀ b, b < 36 → a ≠ b → (F_M a).2.1 ≠ (F_M b).2.1 := by decide +kernel
theorem tk_M : ∀ k, k < 36 → parseFieldDescriptor (F_M k).2.2.1 = some (t_M k) := by decide +kernel
theorem dk_M : ∀ k, k < 36 → (F_M k).1 = R_M := by decide +kernel
set_option maxRecDepth 100000 in
theorem i_M : ∀ w ∈ u_ws R_M F_M 36, w ∈ tw_tbl := by decide +kernel
abbrev mj_cl : List vw_C := [(R_P, F_P, 7), (R_H, F_H, 12), (R_S, F_S, 9), (R_C, F_C, 4), (R_M, F_M, 36)]
abbrev b_C_init : ByteArray := prog_1_method_1_code
def y_C_init : MethodName := ⟨"ClauseGlass", "<init>", "()V"⟩
abbrev b_S_init : ByteArray := prog_4_method_1_code
def y_S_init : MethodName := ⟨"ClauseGlass$Sorts", "<init>", "()V"⟩
abbrev b_P_init : ByteArray := prog_2_method_1_code
def y_P_init : MethodName := ⟨"ClauseGlass$Patterns", "<init>", "()V"⟩
abbrev b_H_init : ByteArray := prog_3_method_1_code
def y_H_init : MethodName := ⟨"ClauseGlass$Sheet", "<init>", "(LClauseGlass$Sorts;LClauseGlass$Patterns;II)V"⟩
abbrev b_H_clear : ByteArray := prog_3_method_2_code
def y_H_clear : MethodName := ⟨"ClauseGlass$Sheet", "clear", "(I)V"⟩
abbrev b_C_open : ByteArray := prog_1_method_10_code
def y_C_open : MethodName := ⟨"ClauseGlass", "open", "()Z"⟩
abbrev b_H_leavesSome : ByteArray := prog_3_method_7_code
def y_H_leavesSome : MethodName := ⟨"ClauseGlass$Sheet", "leavesSome", "()Z"⟩
abbrev b_S_isSortLiving : ByteArray := prog_4_method_5_code
def y_S_isSortLiving : MethodName := ⟨"ClauseGlass$Sorts", "isSortLiving", "(I)Z"⟩
abbrev b_H_escapes : ByteArray := prog_3_method_13_code
def y_H_escapes : MethodName := ⟨"ClauseGlass$Sheet", "escapes", "(IJI)Z"⟩
abbrev b_H_rowWithLeastLeft : ByteArray := prog_3_method_14_code
def y_H_rowWithLeastLeft : MethodName := ⟨"ClauseGlass$Sheet", "rowWithLeastLeft", "(IJ)I"⟩
abbrev b_JL_bitCount : ByteArray := prog_11_method_50_code
def y_JL_bitCount : MethodName := ⟨"java/lang/Long", "bitCount", "(J)I"⟩
abbrev b_JL_numberOfTrailingZeros : ByteArray := prog_11_method_49_code
def y_JL_numberOfTrailingZeros : MethodName := ⟨"java/lang/Long", "numberOfTrailingZeros", "(J)I"⟩
abbrev b_JI_numberOfTrailingZeros : ByteArray := prog_10_method_48_code
def y_JI_numberOfTrailingZeros : MethodName := ⟨"java/lang/Integer", "numberOfTrailingZeros", "(I)I"⟩
abbrev b_H_rowsSilentAt : ByteArray := prog_3_method_15_code
def y_H_rowsSilentAt : MethodName := ⟨"ClauseGlass$Sheet", "rowsSilentAt", "(II)I"⟩
abbrev b_H_isAsked : ByteArray := prog_3_method_11_code
def y_H_isAsked : MethodName := ⟨"ClauseGlass$Sheet", "isAsked", "(II)Z"⟩
abbrev b_S_livingConsOf : ByteArray := prog_4_method_7_code
def y_S_livingConsOf : MethodName := ⟨"ClauseGlass$Sorts", "livingConsOf", "(I)I"⟩
abbrev b_H_consAskedAt : ByteArray := prog_3_method_17_code
def y_H_consAskedAt : MethodName := ⟨"ClauseGlass$Sheet", "consAskedAt", "(II)I"⟩
abbrev b_H_rowsAsking : ByteArray := prog_3_method_16_code
def y_H_rowsAsking : MethodName := ⟨"ClauseGlass$Sheet", "rowsAsking", "(III)I"⟩
abbrev b_C_count : ByteArray := prog_1_method_14_code
def y_C_count : MethodName := ⟨"ClauseGlass", "count", "(I)I"⟩
abbrev b_H_reachedRows : ByteArray := prog_3_method_8_code
def y_H_reachedRows : MethodName := ⟨"ClauseGlass$Sheet", "reachedRows", "()I"⟩
abbrev b_H_reaches : ByteArray := prog_3_method_6_code
def y_H_reaches : MethodName := ⟨"ClauseGlass$Sheet", "reaches", "(I)Z"⟩
abbrev b_H_hasValue : ByteArray := prog_3_method_9_code
def y_H_hasValue : MethodName := ⟨"ClauseGlass$Sheet", "hasValue", "(I)Z"⟩
abbrev b_S_isConLiving : ByteArray := prog_4_method_6_code
def y_S_isConLiving : MethodName := ⟨"ClauseGlass$Sorts", "isConLiving", "(I)Z"⟩
abbrev b_H_rowsBeforeThatAgree : ByteArray := prog_3_method_12_code
def y_H_rowsBeforeThatAgree : MethodName := ⟨"ClauseGlass$Sheet", "rowsBeforeThatAgree", "(I)I"⟩
abbrev b_H_agree : ByteArray := prog_3_method_10_code
def y_H_agree : MethodName := ⟨"ClauseGlass$Sheet", "agree", "(II)Z"⟩
abbrev b_JI_bitCount : ByteArray := prog_10_method_49_code
def y_JI_bitCount : MethodName := ⟨"java/lang/Integer", "bitCount", "(I)I"⟩
abbrev b_L_sort : ByteArray := method_3_code
def y_L_sort : MethodName := ⟨"ClauseGlassLaw", "sort", "(LClauseGlass;[J)I"⟩
abbrev b_C_sort : ByteArray := prog_1_method_2_code
def y_C_sort : MethodName := ⟨"ClauseGlass", "sort", "()I"⟩
abbrev b_S_addSort : ByteArray := prog_4_method_8_code
def y_S_addSort : MethodName := ⟨"ClauseGlass$Sorts", "addSort", "()I"⟩
abbrev b_S_findLiving : ByteArray := prog_4_method_10_code
def y_S_findLiving : MethodName := ⟨"ClauseGlass$Sorts", "findLiving", "()V"⟩
abbrev b_S_consWithLivingParts : ByteArray := prog_4_method_11_code
def y_S_consWithLivingParts : MethodName := ⟨"ClauseGlass$Sorts", "consWithLivingParts", "()I"⟩
abbrev b_S_partSort : ByteArray := prog_4_method_4_code
def y_S_partSort : MethodName := ⟨"ClauseGlass$Sorts", "partSort", "(II)I"⟩
abbrev b_S_sortsWithLivingCons : ByteArray := prog_4_method_12_code
def y_S_sortsWithLivingCons : MethodName := ⟨"ClauseGlass$Sorts", "sortsWithLivingCons", "()I"⟩
abbrev b_L_con : ByteArray := method_4_code
def y_L_con : MethodName := ⟨"ClauseGlassLaw", "con", "(LClauseGlass;IIII[J)I"⟩
abbrev b_C_con : ByteArray := prog_1_method_3_code
def y_C_con : MethodName := ⟨"ClauseGlass", "con", "(IIII)I"⟩
abbrev b_C_needSort : ByteArray := prog_1_method_15_code
def y_C_needSort : MethodName := ⟨"ClauseGlass", "needSort", "(I)V"⟩
abbrev b_S_hasSort : ByteArray := prog_4_method_2_code
def y_S_hasSort : MethodName := ⟨"ClauseGlass$Sorts", "hasSort", "(I)Z"⟩
abbrev b_S_addCon : ByteArray := prog_4_method_9_code
def y_S_addCon : MethodName := ⟨"ClauseGlass$Sorts", "addCon", "(IIII)I"⟩
abbrev b_L_any : ByteArray := method_5_code
def y_L_any : MethodName := ⟨"ClauseGlassLaw", "any", "(LClauseGlass;I[J)I"⟩
abbrev b_C_any : ByteArray := prog_1_method_4_code
def y_C_any : MethodName := ⟨"ClauseGlass", "any", "(I)I"⟩
abbrev b_C_needRoomForPattern : ByteArray := prog_1_method_18_code
def y_C_needRoomForPattern : MethodName := ⟨"ClauseGlass", "needRoomForPattern", "(I)V"⟩
abbrev b_P_addAny : ByteArray := prog_2_method_4_code
def y_P_addAny : MethodName := ⟨"ClauseGlass$Patterns", "addAny", "(I)I"⟩
abbrev b_P_addPattern : ByteArray := prog_2_method_7_code
def y_P_addPattern : MethodName := ⟨"ClauseGlass$Patterns", "addPattern", "(IIII)I"⟩
abbrev b_L_number : ByteArray := method_6_code
def y_L_number : MethodName := ⟨"ClauseGlassLaw", "number", "(LClauseGlass;I[J)I"⟩
abbrev b_C_number : ByteArray := prog_1_method_5_code
def y_C_number : MethodName := ⟨"ClauseGlass", "number", "(I)I"⟩
abbrev b_P_addNumber : ByteArray := prog_2_method_5_code
def y_P_addNumber : MethodName := ⟨"ClauseGlass$Patterns", "addNumber", "(I)I"⟩
abbrev b_L_made : ByteArray := method_7_code
def y_L_made : MethodName := ⟨"ClauseGlassLaw", "made", "(LClauseGlass;III[J)I"⟩
abbrev b_C_made : ByteArray := prog_1_method_6_code
def y_C_made : MethodName := ⟨"ClauseGlass", "made", "(III)I"⟩
abbrev b_S_hasCon : ByteArray := prog_4_method_3_code
def y_S_hasCon : MethodName := ⟨"ClauseGlass$Sorts", "hasCon", "(I)Z"⟩
abbrev b_C_needPatternOf : ByteArray := prog_1_method_17_code
def y_C_needPatternOf : MethodName := ⟨"ClauseGlass", "needPatternOf", "(II)V"⟩
abbrev b_C_needPattern : ByteArray := prog_1_method_16_code
def y_C_needPattern : MethodName := ⟨"ClauseGlass", "needPattern", "(I)V"⟩
abbrev b_P_hasPattern : ByteArray := prog_2_method_2_code
def y_P_hasPattern : MethodName := ⟨"ClauseGlass$Patterns", "hasPattern", "(I)Z"⟩
abbrev b_P_addMade : ByteArray := prog_2_method_6_code
def y_P_addMade : MethodName := ⟨"ClauseGlass$Patterns", "addMade", "(IIIII)I"⟩
abbrev b_L_begin : ByteArray := method_8_code
def y_L_begin : MethodName := ⟨"ClauseGlassLaw", "begin", "(LClauseGlass;I)I"⟩
abbrev b_C_begin : ByteArray := prog_1_method_7_code
def y_C_begin : MethodName := ⟨"ClauseGlass", "begin", "(I)V"⟩
abbrev b_L_clause : ByteArray := method_9_code
def y_L_clause : MethodName := ⟨"ClauseGlassLaw", "clause", "(LClauseGlass;I[J)I"⟩
abbrev b_C_clause : ByteArray := prog_1_method_8_code
def y_C_clause : MethodName := ⟨"ClauseGlass", "clause", "(I)Z"⟩
abbrev b_H_addRow : ByteArray := prog_3_method_3_code
def y_H_addRow : MethodName := ⟨"ClauseGlass$Sheet", "addRow", "(I)V"⟩
abbrev b_H_layPart : ByteArray := prog_3_method_4_code
def y_H_layPart : MethodName := ⟨"ClauseGlass$Sheet", "layPart", "(IIII)V"⟩
abbrev b_P_partOf : ByteArray := prog_2_method_3_code
def y_P_partOf : MethodName := ⟨"ClauseGlass$Patterns", "partOf", "(II)I"⟩
abbrev b_H_placeBelow : ByteArray := prog_3_method_5_code
def y_H_placeBelow : MethodName := ⟨"ClauseGlass$Sheet", "placeBelow", "(III)I"⟩
abbrev b_L_takes : ByteArray := method_10_code
def y_L_takes : MethodName := ⟨"ClauseGlassLaw", "takes", "(LClauseGlass;I[J)I"⟩
abbrev b_C_takes : ByteArray := prog_1_method_9_code
def y_C_takes : MethodName := ⟨"ClauseGlass", "takes", "(I)Z"⟩
abbrev b_L_covers : ByteArray := method_11_code
def y_L_covers : MethodName := ⟨"ClauseGlassLaw", "covers", "(LClauseGlass;II[J)I"⟩
abbrev b_C_covers : ByteArray := prog_1_method_11_code
def y_C_covers : MethodName := ⟨"ClauseGlass", "covers", "(II)Z"⟩
abbrev b_C_layPair : ByteArray := prog_1_method_19_code
def y_C_layPair : MethodName := ⟨"ClauseGlass", "layPair", "(II)V"⟩
abbrev b_L_meets : ByteArray := method_12_code
def y_L_meets : MethodName := ⟨"ClauseGlassLaw", "meets", "(LClauseGlass;II[J)I"⟩
abbrev b_C_meets : ByteArray := prog_1_method_12_code
def y_C_meets : MethodName := ⟨"ClauseGlass", "meets", "(II)Z"⟩
abbrev b_L_lives : ByteArray := method_13_code
def y_L_lives : MethodName := ⟨"ClauseGlassLaw", "lives", "(LClauseGlass;I[J)I"⟩
abbrev b_C_lives : ByteArray := prog_1_method_13_code
def y_C_lives : MethodName := ⟨"ClauseGlass", "lives", "(I)Z"⟩
abbrev b_M_init : ByteArray := prog_6_method_1_code
def y_M_init : MethodName := ⟨"ClauseGlassModel", "<init>", "()V"⟩
abbrev b_M_thrown : ByteArray := prog_6_method_2_code
def y_M_thrown : MethodName := ⟨"ClauseGlassModel", "thrown", "()I"⟩
abbrev b_M_sort : ByteArray := prog_6_method_5_code
def y_M_sort : MethodName := ⟨"ClauseGlassModel", "sort", "()I"⟩
abbrev b_M_con : ByteArray := prog_6_method_6_code
def y_M_con : MethodName := ⟨"ClauseGlassModel", "con", "(IIII)I"⟩
abbrev b_M_isSort : ByteArray := prog_6_method_3_code
def y_M_isSort : MethodName := ⟨"ClauseGlassModel", "isSort", "(I)Z"⟩
abbrev b_M_any : ByteArray := prog_6_method_8_code
def y_M_any : MethodName := ⟨"ClauseGlassModel", "any", "(I)I"⟩
abbrev b_M_pattern : ByteArray := prog_6_method_7_code
def y_M_pattern : MethodName := ⟨"ClauseGlassModel", "pattern", "(IIIIII)I"⟩
abbrev b_M_number : ByteArray := prog_6_method_9_code
def y_M_number : MethodName := ⟨"ClauseGlassModel", "number", "(I)I"⟩
abbrev b_M_made : ByteArray := prog_6_method_10_code
def y_M_made : MethodName := ⟨"ClauseGlassModel", "made", "(III)I"⟩
abbrev b_M_isPattern : ByteArray := prog_6_method_4_code
def y_M_isPattern : MethodName := ⟨"ClauseGlassModel", "isPattern", "(I)Z"⟩
abbrev b_M_begin : ByteArray := prog_6_method_11_code
def y_M_begin : MethodName := ⟨"ClauseGlassModel", "begin", "(I)V"⟩
abbrev b_M_clause : ByteArray := prog_6_method_23_code
def y_M_clause : MethodName := ⟨"ClauseGlassModel", "clause", "(I)Z"⟩
abbrev b_M_reaches : ByteArray := prog_6_method_22_code
def y_M_reaches : MethodName := ⟨"ClauseGlassModel", "reaches", "(I)Z"⟩
abbrev b_M_has : ByteArray := prog_6_method_21_code
def y_M_has : MethodName := ⟨"ClauseGlassModel", "has", "(I)Z"⟩
abbrev b_M_live : ByteArray := prog_6_method_12_code
def y_M_live : MethodName := ⟨"ClauseGlassModel", "live", "()V"⟩
abbrev b_M_isUsed : ByteArray := prog_6_method_13_code
def y_M_isUsed : MethodName := ⟨"ClauseGlassModel", "isUsed", "(I)Z"⟩
abbrev b_M_gather : ByteArray := prog_6_method_20_code
def y_M_gather : MethodName := ⟨"ClauseGlassModel", "gather", "(I)V"⟩
abbrev b_M_look : ByteArray := prog_6_method_19_code
def y_M_look : MethodName := ⟨"ClauseGlassModel", "look", "(I)I"⟩
abbrev b_M_node : ByteArray := prog_6_method_14_code
def y_M_node : MethodName := ⟨"ClauseGlassModel", "node", "(I)I"⟩
abbrev b_M_fill : ByteArray := prog_6_method_17_code
def y_M_fill : MethodName := ⟨"ClauseGlassModel", "fill", "(II)V"⟩
abbrev b_M_isTried : ByteArray := prog_6_method_15_code
def y_M_isTried : MethodName := ⟨"ClauseGlassModel", "isTried", "(I)Z"⟩
abbrev b_M_fit : ByteArray := prog_6_method_18_code
def y_M_fit : MethodName := ⟨"ClauseGlassModel", "fit", "(II)I"⟩
abbrev b_M_options : ByteArray := prog_6_method_16_code
def y_M_options : MethodName := ⟨"ClauseGlassModel", "options", "(I)I"⟩
abbrev b_M_takes : ByteArray := prog_6_method_24_code
def y_M_takes : MethodName := ⟨"ClauseGlassModel", "takes", "(I)Z"⟩
abbrev b_M_open : ByteArray := prog_6_method_25_code
def y_M_open : MethodName := ⟨"ClauseGlassModel", "open", "()Z"⟩
abbrev b_M_covers : ByteArray := prog_6_method_27_code
def y_M_covers : MethodName := ⟨"ClauseGlassModel", "covers", "(II)Z"⟩
abbrev b_M_areLike : ByteArray := prog_6_method_26_code
def y_M_areLike : MethodName := ⟨"ClauseGlassModel", "areLike", "(II)Z"⟩
abbrev b_M_meets : ByteArray := prog_6_method_28_code
def y_M_meets : MethodName := ⟨"ClauseGlassModel", "meets", "(II)Z"⟩
abbrev b_M_lives : ByteArray := prog_6_method_29_code
def y_M_lives : MethodName := ⟨"ClauseGlassModel", "lives", "(I)Z"⟩
abbrev b_M_count : ByteArray := prog_6_method_30_code
def y_M_count : MethodName := ⟨"ClauseGlassModel", "count", "(I)I"⟩
abbrev b_L_law : ByteArray := code
def y_L_law : MethodName := ⟨"ClauseGlassLaw", "law", "([I)Z"⟩
end
section
/-! the judgement: from the frame at pc (locals ls, stack st, both abstract) over the abstract heap A the method comes to an end that 'post' allows -/
def mj_ex (C : Nat) : String := match C with
  | 0 => "java/lang/IllegalArgumentException"
  | _ => "java/lang/IndexOutOfBoundsException"
def mj_Ext (ad ad0 : Nat → Nat) (n0 n1 : Nat) : Prop := ∀ k, (k < n0 ∨ n1 ≤ k) → ad k = ad0 k
def mj_Hp (D : va_G) (F : Nat → Prop) (ad : Nat → Nat) (cy : Nat → ClassId) (A : List mj_C) (U : State) (H : Heap) : Prop :=
  va_P D mj_cl (mj_W ad cy A) H ∧ va_D F (mj_W ad cy A) ∧ va_K D mj_cl [] U ∧ (∀ (k : Nat) (q : Nat × vp_A), A[k]? = some (.inl q) → ArrOfT U (cy k) (mj_ty q.1) ∧ va_RA U (cy k) (mj_ty q.1)) ∧ (∀ (k : Nat) (c : mj_C), A[k]? = some c → mj_rf A.length c)
/-- a static of Throwable's that holds a reference or null, in a cell that is never written -/
def mj_st (n d : String) (F : Nat → Prop) (s : State) (H : Heap) : Prop := ∃ (c i a : Nat) (k : Class) (f : Field) (cell : Cell) (v : Value), s.vm.findClass Bundle.tN = some c ∧ s.fieldFound? Bundle.tN n d = some (c, k, i, f) ∧ f.isStatic = true ∧ k.statics = some a ∧ H[a]? = some cell ∧ cell.vm.isStatics = true ∧ cell.cls = c ∧ f.slot < cell.slots.size ∧ k.staticTypes[f.slot]? = some f.type ∧ cell.slots[f.slot]? = some v ∧ v.isRef = true ∧ ¬ F a
theorem mj_st_moved {n d : String} {F F' : Nat → Prop} {s U : State} {H H1 : Heap} (h : mj_st n d F s H) (hal : s.vm.Alike U.vm) (hq : ∀ a : Nat, a < H.size → ¬ F a → H1[a]? = H[a]?) (hF : ∀ q, F' q → F q) : mj_st n d F' U H1 := by
  obtain ⟨c, i, a, k, f, cell, v, h1, h2, h3, h4, h5, h6, h7, h8, h9, h10, h11, h12⟩ := h
  obtain ⟨k', hi', he⟩ := State.fieldFound?_setVm hal h2
  exact ⟨c, i, a, k', f, cell, v, by rw [hal.findClass]; exact h1, hi', h3, by rw [he]; exact h4, (hq a (Array.getElem?_eq_some_iff.mp h5).1 h12).trans h5, h6, h7, h8, by rw [he]; exact h9, h10, h11, fun h => h12 (hF a h)⟩
theorem mj_st_lays {n d : String} {F : Nat → Prop} {s : State} {args : Array Value} (h : mj_st n d F s s.heap) : (Cond.laysStatic Bundle.tN n d).before args s = true := by
  obtain ⟨c, i, a, k, f, cell, v, h1, h2, h3, h4, h5, h6, h7, h8, h9, -⟩ := h
  exact Cond.laysStatic_of h1 h2 h3 h4 h5 h6 h7 h8 h9
theorem mj_st_ref {n d : String} {F : Nat → Prop} {s : State} {args : Array Value} (h : mj_st n d F s s.heap) : (Cond.isRef (.static Bundle.tN n d)).before args s = true := by
  obtain ⟨c, i, a, k, f, cell, v, h1, h2, h3, h4, h5, h6, h7, h8, h9, h10, h11, -⟩ := h
  have e := Term.static_eval (args := args) (first := s) (o := none) (idx := []) h2 h3 h4 h5 h6 h10
  cases v <;> simp_all [Cond.before, Cond.holds, Cond.value, Value.isRef]
theorem mj_st_of {n d : String} {F : Nat → Prop} {s : State} {args : Array Value} (hl : (Cond.laysStatic Bundle.tN n d).before args s = true) (hr : (Cond.isRef (.static Bundle.tN n d)).before args s = true) (hF : ∀ a : Nat, a < s.heap.size → ¬ F a) : mj_st n d F s s.heap := by
  obtain ⟨c, k, i, f, a, cell, h1, h2, h3, h4, h5, h6, h7, h8, h9⟩ := Cond.laysStatic_spec hl
  have hv : ∃ v, cell.slots[f.slot]? = some v := ⟨_, Array.getElem?_eq_getElem h8⟩
  obtain ⟨v, hv⟩ := hv
  have e := Term.static_eval (args := args) (first := s) (o := none) (idx := []) h2 h3 h4 h5 h6 hv
  refine ⟨c, i, a, k, f, cell, v, h1, h2, h3, h4, h5, h6, h7, h8, h9, hv, ?_, hF a (Array.getElem?_eq_some_iff.mp h5).1⟩
  cases v <;> simp_all [Cond.before, Cond.holds, Cond.value, Value.isRef]
def mj_X (y : MethodName) (cc : ByteArray) (nL : Nat) (rt : Option FieldType) (hh : List (Nat × Nat × Nat × Nat)) (d : Nat) (p : Program) (e : Env) (R : Room) (s : State) (m : MethodId) (args : Array Value) (meth : Method) (c : Code) (F : Nat → Prop) (nc ns : Nat) : Prop :=
  p.tables.exec = Jvm.exec ∧ e.platform.stackTraces = false ∧ c.code = cc ∧ c.maxLocals = nL ∧ meth.sig.returnType = rt ∧ meth.locks = false ∧ meth.name = y.name ∧ s.vm.findClass y.cls = some m.cls ∧ (∀ w ∈ tw_tbl, w.before args s = true) ∧ c.exceptionTable.toList.map (fun h => (h.startPc, h.endPc, h.handlerPc, h.catchType)) = hh ∧
  (R.frames = d ∧ 41 * d ≤ R.locals ∧ R.cells + nc = 601024 ∧ R.slots + ns = 7293034) ∧ (∀ q, s.heap.size ≤ q → F q) ∧ (∀ (q : Nat) (cell : Cell), F q → s.heap[q]? = some cell → cell.vm.isStatics = false) ∧
  mj_st "UNASSIGNED_STACK" Bundle.steD F s s.heap ∧ mj_st "SUPPRESSED_SENTINEL" Bundle.listD F s s.heap ∧ va_Nc (mj_ex 1) (mj_ex 0) s
def mj_Z (sc : Option (Nat × (Nat → Int32))) (ad : Nat → Nat) (F : Nat → Prop) (s : State) : Prop := match sc with
  | none => True
  | some q => va_X (ad 1000000) q.1 q.2 s s.heap ∧ ad 1000000 < s.heap.size ∧ ¬ F (ad 1000000)
def mj_out (s : State) (ad : Nat → Nat) (out : mj_O) (o : Outcome) (t : State) : Prop := match out with
  | .inl v => o = .returned (v.map (mj_v ad))
  | .inr C => ∃ (x : Addr) (cell : Cell), o = .threw x ∧ t.heap[x]? = some cell ∧ cell.vm.isStatics = false ∧ s.vm.findClass (mj_ex C) = some cell.cls
def mj_fin (s : State) (F : Nat → Prop) (D : va_G) (ad0 : Nat → Nat) (n0 nc ns : Nat) (post : mj_O → mj_H → Prop) (o : Outcome) (t : State) : Prop :=
  ∃ (out : mj_O) (A' : mj_H) (ad' : Nat → Nat) (cy' : Nat → ClassId) (cells' slots' : Nat) (locs' : List Loc), post out A' ∧ mj_out s ad' out o t ∧ mj_Hp D F ad' cy' A'.1 s t.heap ∧ mj_Ext ad' ad0 n0 A'.1.length ∧ n0 ≤ A'.1.length ∧
    va_S F s.heap t.heap locs' ∧ (A'.2.1 = nc + cells' ∧ A'.2.1 ≤ 601024) ∧ (A'.2.2 = ns + slots' ∧ A'.2.2 ≤ 7293034) ∧ s.WarmedH t.vm ∧ s.sameButNew ({ t with vm := s.vm } : State) locs' cells' slots'
def mj_end (below : List Frame) (s : State) (F : Nat → Prop) (D : va_G) (ad0 : Nat → Nat) (n0 nc ns : Nat) (post : mj_O → mj_H → Prop) : State → Prop := fun t =>
  ∃ o : Outcome, t.status = .running ∧ Ended t below o ∧ mj_fin s F D ad0 n0 nc ns post o t
def mj_ls (ad : Nat → Nat) (ls : List (Nat × Value)) : List (Nat × Value) := ls.map (fun q => (q.1, mj_v ad q.2))
def mj_G (y : MethodName) (cc : ByteArray) (nL : Nat) (rt : Option FieldType) (hh : List (Nat × Nat × Nat × Nat)) (d : Nat) (sc : Option (Nat × (Nat → Int32))) (pc : Nat) (ls : List (Nat × Value)) (st : List Value) (A : mj_H) (post : mj_O → mj_H → Prop) : Prop :=
  ∀ (p : Program) (l : Launch) (e : Env) (R : Room) (s : State) (m : MethodId) (args : Array Value) (below : List Frame) (meth : Method) (c : Code) (H : Heap) (locs : List Loc) (cells slots : Nat) (F : Nat → Prop) (nc ns : Nat) (D : va_G) (ad ad0 : Nat → Nat) (cy : Nat → ClassId) (n0 : Nat) (lsC : Array Slot),
    mj_X y cc nL rt hh d p e R s m args meth c F nc ns → mj_Z sc ad F s → mj_Hp D F ad cy A.1 s H → mj_Ext ad ad0 n0 A.1.length → n0 ≤ A.1.length → va_S F s.heap H locs → (A.2.1 = nc + cells ∧ A.2.1 ≤ 601024) → (A.2.2 = ns + slots ∧ A.2.2 ≤ 7293034) → lv_has lsC nL (mj_ls ad ls) →
    W p l e R s m args below meth c H locs cells slots (mj_end below s F D ad0 n0 nc ns post) (F0 m pc lsC (st.map (mj_v ad)))
theorem mj_cat (ad : Nat → Nat) (v : Value) : (mj_v ad v).category = v.category := by cases v <;> rfl
theorem mj_ls_at {ad : Nat → Nat} {ls : List (Nat × Value)} {j i : Nat} {v : Value} (h : ls[j]? = some (i, v)) : (mj_ls ad ls)[j]? = some (i, mj_v ad v) := by simp [mj_ls, h]
theorem mj_ls_f {ad : Nat → Nat} {ls : List (Nat × Value)} (f : Nat → Nat → Bool) : (mj_ls ad ls).filter (fun q => f q.1 q.2.category) = mj_ls ad (ls.filter (fun q => f q.1 q.2.category)) := by
  unfold mj_ls
  rw [List.filter_map]
  congr 1
  apply List.filter_congr
  intro q _
  show f q.1 (mj_v ad q.2).category = f q.1 q.2.category
  rw [mj_cat]
section GR
variable {y : MethodName} {cc : ByteArray} {nL : Nat} {rt : Option FieldType} {hh : List (Nat × Nat × Nat × Nat)} {d : Nat} {sc : Option (Nat × (Nat → Int32))} {pc : Nat} {ls : List (Nat × Value)} {st : List Value} {A : mj_H} {post : mj_O → mj_H → Prop}

theorem G_iadd {x z : Int32} (hd : decode cc pc = .ok (.iadd, 1)) (k : mj_G y cc nL rt hh d sc (pc + 1) ls (.int (x + z) :: st) A post) : mj_G y cc nL rt hh d sc pc ls (.int z :: .int x :: st) A post := by
  intro p l e R s m args below meth c H locs cells slots F nc ns D ad ad0 cy n0 lsC hX hZ hH hE hn hS hc hs hl
  exact lv_iadd hX.1 hX.2.2.1 hd (k _ _ _ _ _ _ _ _ _ _ _ _ _ _ _ _ _ _ _ _ _ _ _ hX hZ hH hE hn hS hc hs hl)

theorem G_isub {x z : Int32} (hd : decode cc pc = .ok (.isub, 1)) (k : mj_G y cc nL rt hh d sc (pc + 1) ls (.int (x - z) :: st) A post) : mj_G y cc nL rt hh d sc pc ls (.int z :: .int x :: st) A post := by
  intro p l e R s m args below meth c H locs cells slots F nc ns D ad ad0 cy n0 lsC hX hZ hH hE hn hS hc hs hl
  exact lv_isub hX.1 hX.2.2.1 hd (k _ _ _ _ _ _ _ _ _ _ _ _ _ _ _ _ _ _ _ _ _ _ _ hX hZ hH hE hn hS hc hs hl)

theorem G_imul {x z : Int32} (hd : decode cc pc = .ok (.imul, 1)) (k : mj_G y cc nL rt hh d sc (pc + 1) ls (.int (x * z) :: st) A post) : mj_G y cc nL rt hh d sc pc ls (.int z :: .int x :: st) A post := by
  intro p l e R s m args below meth c H locs cells slots F nc ns D ad ad0 cy n0 lsC hX hZ hH hE hn hS hc hs hl
  exact lv_imul hX.1 hX.2.2.1 hd (k _ _ _ _ _ _ _ _ _ _ _ _ _ _ _ _ _ _ _ _ _ _ _ hX hZ hH hE hn hS hc hs hl)

theorem G_iand {x z : Int32} (hd : decode cc pc = .ok (.iand, 1)) (k : mj_G y cc nL rt hh d sc (pc + 1) ls (.int (x &&& z) :: st) A post) : mj_G y cc nL rt hh d sc pc ls (.int z :: .int x :: st) A post := by
  intro p l e R s m args below meth c H locs cells slots F nc ns D ad ad0 cy n0 lsC hX hZ hH hE hn hS hc hs hl
  exact lv_iand hX.1 hX.2.2.1 hd (k _ _ _ _ _ _ _ _ _ _ _ _ _ _ _ _ _ _ _ _ _ _ _ hX hZ hH hE hn hS hc hs hl)

theorem G_ior {x z : Int32} (hd : decode cc pc = .ok (.ior, 1)) (k : mj_G y cc nL rt hh d sc (pc + 1) ls (.int (x ||| z) :: st) A post) : mj_G y cc nL rt hh d sc pc ls (.int z :: .int x :: st) A post := by
  intro p l e R s m args below meth c H locs cells slots F nc ns D ad ad0 cy n0 lsC hX hZ hH hE hn hS hc hs hl
  exact lv_ior hX.1 hX.2.2.1 hd (k _ _ _ _ _ _ _ _ _ _ _ _ _ _ _ _ _ _ _ _ _ _ _ hX hZ hH hE hn hS hc hs hl)

theorem G_ixor {x z : Int32} (hd : decode cc pc = .ok (.ixor, 1)) (k : mj_G y cc nL rt hh d sc (pc + 1) ls (.int (x ^^^ z) :: st) A post) : mj_G y cc nL rt hh d sc pc ls (.int z :: .int x :: st) A post := by
  intro p l e R s m args below meth c H locs cells slots F nc ns D ad ad0 cy n0 lsC hX hZ hH hE hn hS hc hs hl
  exact lv_ixor hX.1 hX.2.2.1 hd (k _ _ _ _ _ _ _ _ _ _ _ _ _ _ _ _ _ _ _ _ _ _ _ hX hZ hH hE hn hS hc hs hl)

theorem G_ishl {x z : Int32} (hd : decode cc pc = .ok (.ishl, 1)) (k : mj_G y cc nL rt hh d sc (pc + 1) ls (.int (x <<< (z &&& 31)) :: st) A post) : mj_G y cc nL rt hh d sc pc ls (.int z :: .int x :: st) A post := by
  intro p l e R s m args below meth c H locs cells slots F nc ns D ad ad0 cy n0 lsC hX hZ hH hE hn hS hc hs hl
  exact lv_ishl hX.1 hX.2.2.1 hd (k _ _ _ _ _ _ _ _ _ _ _ _ _ _ _ _ _ _ _ _ _ _ _ hX hZ hH hE hn hS hc hs hl)

theorem G_ishr {x z : Int32} (hd : decode cc pc = .ok (.ishr, 1)) (k : mj_G y cc nL rt hh d sc (pc + 1) ls (.int (x >>> (z &&& 31)) :: st) A post) : mj_G y cc nL rt hh d sc pc ls (.int z :: .int x :: st) A post := by
  intro p l e R s m args below meth c H locs cells slots F nc ns D ad ad0 cy n0 lsC hX hZ hH hE hn hS hc hs hl
  exact lv_ishr hX.1 hX.2.2.1 hd (k _ _ _ _ _ _ _ _ _ _ _ _ _ _ _ _ _ _ _ _ _ _ _ hX hZ hH hE hn hS hc hs hl)

theorem G_ladd {x z : Int64} (hd : decode cc pc = .ok (.ladd, 1)) (k : mj_G y cc nL rt hh d sc (pc + 1) ls (.long (x + z) :: st) A post) : mj_G y cc nL rt hh d sc pc ls (.long z :: .long x :: st) A post := by
  intro p l e R s m args below meth c H locs cells slots F nc ns D ad ad0 cy n0 lsC hX hZ hH hE hn hS hc hs hl
  exact lv_ladd hX.1 hX.2.2.1 hd (k _ _ _ _ _ _ _ _ _ _ _ _ _ _ _ _ _ _ _ _ _ _ _ hX hZ hH hE hn hS hc hs hl)

theorem G_lsub {x z : Int64} (hd : decode cc pc = .ok (.lsub, 1)) (k : mj_G y cc nL rt hh d sc (pc + 1) ls (.long (x - z) :: st) A post) : mj_G y cc nL rt hh d sc pc ls (.long z :: .long x :: st) A post := by
  intro p l e R s m args below meth c H locs cells slots F nc ns D ad ad0 cy n0 lsC hX hZ hH hE hn hS hc hs hl
  exact lv_lsub hX.1 hX.2.2.1 hd (k _ _ _ _ _ _ _ _ _ _ _ _ _ _ _ _ _ _ _ _ _ _ _ hX hZ hH hE hn hS hc hs hl)

theorem G_land {x z : Int64} (hd : decode cc pc = .ok (.land, 1)) (k : mj_G y cc nL rt hh d sc (pc + 1) ls (.long (x &&& z) :: st) A post) : mj_G y cc nL rt hh d sc pc ls (.long z :: .long x :: st) A post := by
  intro p l e R s m args below meth c H locs cells slots F nc ns D ad ad0 cy n0 lsC hX hZ hH hE hn hS hc hs hl
  exact lv_land hX.1 hX.2.2.1 hd (k _ _ _ _ _ _ _ _ _ _ _ _ _ _ _ _ _ _ _ _ _ _ _ hX hZ hH hE hn hS hc hs hl)

theorem G_lor {x z : Int64} (hd : decode cc pc = .ok (.lor, 1)) (k : mj_G y cc nL rt hh d sc (pc + 1) ls (.long (x ||| z) :: st) A post) : mj_G y cc nL rt hh d sc pc ls (.long z :: .long x :: st) A post := by
  intro p l e R s m args below meth c H locs cells slots F nc ns D ad ad0 cy n0 lsC hX hZ hH hE hn hS hc hs hl
  exact lv_lor hX.1 hX.2.2.1 hd (k _ _ _ _ _ _ _ _ _ _ _ _ _ _ _ _ _ _ _ _ _ _ _ hX hZ hH hE hn hS hc hs hl)

theorem G_lxor {x z : Int64} (hd : decode cc pc = .ok (.lxor, 1)) (k : mj_G y cc nL rt hh d sc (pc + 1) ls (.long (x ^^^ z) :: st) A post) : mj_G y cc nL rt hh d sc pc ls (.long z :: .long x :: st) A post := by
  intro p l e R s m args below meth c H locs cells slots F nc ns D ad ad0 cy n0 lsC hX hZ hH hE hn hS hc hs hl
  exact lv_lxor hX.1 hX.2.2.1 hd (k _ _ _ _ _ _ _ _ _ _ _ _ _ _ _ _ _ _ _ _ _ _ _ hX hZ hH hE hn hS hc hs hl)

theorem G_lshl {x : Int64} {z : Int32} (hd : decode cc pc = .ok (.lshl, 1)) (k : mj_G y cc nL rt hh d sc (pc + 1) ls (.long (x <<< (z.toInt64 &&& 63)) :: st) A post) : mj_G y cc nL rt hh d sc pc ls (.int z :: .long x :: st) A post := by
  intro p l e R s m args below meth c H locs cells slots F nc ns D ad ad0 cy n0 lsC hX hZ hH hE hn hS hc hs hl
  exact lv_lshl hX.1 hX.2.2.1 hd rfl (k _ _ _ _ _ _ _ _ _ _ _ _ _ _ _ _ _ _ _ _ _ _ _ hX hZ hH hE hn hS hc hs hl)

theorem G_lshr {x : Int64} {z : Int32} (hd : decode cc pc = .ok (.lshr, 1)) (k : mj_G y cc nL rt hh d sc (pc + 1) ls (.long (x >>> (z.toInt64 &&& 63)) :: st) A post) : mj_G y cc nL rt hh d sc pc ls (.int z :: .long x :: st) A post := by
  intro p l e R s m args below meth c H locs cells slots F nc ns D ad ad0 cy n0 lsC hX hZ hH hE hn hS hc hs hl
  exact lv_lshr hX.1 hX.2.2.1 hd rfl (k _ _ _ _ _ _ _ _ _ _ _ _ _ _ _ _ _ _ _ _ _ _ _ hX hZ hH hE hn hS hc hs hl)

theorem G_lushr {x : Int64} {z : Int32} (hd : decode cc pc = .ok (.lushr, 1)) (k : mj_G y cc nL rt hh d sc (pc + 1) ls (.long ((x.toUInt64 >>> (z.toInt64.toUInt64 &&& Int64.toUInt64 63)).toInt64) :: st) A post) : mj_G y cc nL rt hh d sc pc ls (.int z :: .long x :: st) A post := by
  intro p l e R s m args below meth c H locs cells slots F nc ns D ad ad0 cy n0 lsC hX hZ hH hE hn hS hc hs hl
  exact lv_lushr hX.1 hX.2.2.1 hd rfl (k _ _ _ _ _ _ _ _ _ _ _ _ _ _ _ _ _ _ _ _ _ _ _ hX hZ hH hE hn hS hc hs hl)

theorem G_iushr {x z : Int32} (hd : decode cc pc = .ok (.iushr, 1)) (k : mj_G y cc nL rt hh d sc (pc + 1) ls (.int ((x.toUInt32 >>> (z.toUInt32 &&& Int32.toUInt32 31)).toInt32) :: st) A post) : mj_G y cc nL rt hh d sc pc ls (.int z :: .int x :: st) A post := by
  intro p l e R s m args below meth c H locs cells slots F nc ns D ad ad0 cy n0 lsC hX hZ hH hE hn hS hc hs hl
  exact lv_iushr hX.1 hX.2.2.1 hd rfl (k _ _ _ _ _ _ _ _ _ _ _ _ _ _ _ _ _ _ _ _ _ _ _ hX hZ hH hE hn hS hc hs hl)

theorem G_i2l {x : Int32} (hd : decode cc pc = .ok (.i2l, 1)) (k : mj_G y cc nL rt hh d sc (pc + 1) ls (.long x.toInt64 :: st) A post) : mj_G y cc nL rt hh d sc pc ls (.int x :: st) A post := by
  intro p l e R s m args below meth c H locs cells slots F nc ns D ad ad0 cy n0 lsC hX hZ hH hE hn hS hc hs hl
  exact lv_i2l hX.1 hX.2.2.1 hd rfl (k _ _ _ _ _ _ _ _ _ _ _ _ _ _ _ _ _ _ _ _ _ _ _ hX hZ hH hE hn hS hc hs hl)

theorem G_l2i {x : Int64} (hd : decode cc pc = .ok (.l2i, 1)) (k : mj_G y cc nL rt hh d sc (pc + 1) ls (.int x.toInt32 :: st) A post) : mj_G y cc nL rt hh d sc pc ls (.long x :: st) A post := by
  intro p l e R s m args below meth c H locs cells slots F nc ns D ad ad0 cy n0 lsC hX hZ hH hE hn hS hc hs hl
  exact lv_l2i hX.1 hX.2.2.1 hd rfl (k _ _ _ _ _ _ _ _ _ _ _ _ _ _ _ _ _ _ _ _ _ _ _ hX hZ hH hE hn hS hc hs hl)

theorem G_iconst {n : Int} {v : Int32} (hd : decode cc pc = .ok (.iconst n, 1)) (hv : Int32.ofInt n = v) (k : mj_G y cc nL rt hh d sc (pc + 1) ls (.int v :: st) A post) : mj_G y cc nL rt hh d sc pc ls st A post := by
  intro p l e R s m args below meth c H locs cells slots F nc ns D ad ad0 cy n0 lsC hX hZ hH hE hn hS hc hs hl
  exact lv_iconst hX.1 hX.2.2.1 hd hv (k _ _ _ _ _ _ _ _ _ _ _ _ _ _ _ _ _ _ _ _ _ _ _ hX hZ hH hE hn hS hc hs hl)

theorem G_bipush {n : Int} {v : Int32} (hd : decode cc pc = .ok (.bipush n, 2)) (hv : (Int8.ofInt n).toInt32 = v) (k : mj_G y cc nL rt hh d sc (pc + 2) ls (.int v :: st) A post) : mj_G y cc nL rt hh d sc pc ls st A post := by
  intro p l e R s m args below meth c H locs cells slots F nc ns D ad ad0 cy n0 lsC hX hZ hH hE hn hS hc hs hl
  exact lv_bipush hX.1 hX.2.2.1 hd hv (k _ _ _ _ _ _ _ _ _ _ _ _ _ _ _ _ _ _ _ _ _ _ _ hX hZ hH hE hn hS hc hs hl)

theorem G_sipush {n : Int} {v : Int32} (hd : decode cc pc = .ok (.sipush n, 3)) (hv : (Int16.ofInt n).toInt32 = v) (k : mj_G y cc nL rt hh d sc (pc + 3) ls (.int v :: st) A post) : mj_G y cc nL rt hh d sc pc ls st A post := by
  intro p l e R s m args below meth c H locs cells slots F nc ns D ad ad0 cy n0 lsC hX hZ hH hE hn hS hc hs hl
  exact lv_sipush hX.1 hX.2.2.1 hd hv (k _ _ _ _ _ _ _ _ _ _ _ _ _ _ _ _ _ _ _ _ _ _ _ hX hZ hH hE hn hS hc hs hl)

theorem G_lconst {n : Fin 2} {v : Int64} (hd : decode cc pc = .ok (.lconst n, 1)) (hv : Int64.ofNat (n : Nat) = v) (k : mj_G y cc nL rt hh d sc (pc + 1) ls (.long v :: st) A post) : mj_G y cc nL rt hh d sc pc ls st A post := by
  intro p l e R s m args below meth c H locs cells slots F nc ns D ad ad0 cy n0 lsC hX hZ hH hE hn hS hc hs hl
  exact lv_lconst hX.1 hX.2.2.1 hd hv (k _ _ _ _ _ _ _ _ _ _ _ _ _ _ _ _ _ _ _ _ _ _ _ hX hZ hH hE hn hS hc hs hl)

theorem G_iload (j : Nat) {i : Nat} {x : Int32} (hd : decode cc pc = .ok (.iload i, 2)) (hj : ls[j]? = some (i, .int x)) (k : mj_G y cc nL rt hh d sc (pc + 2) ls (.int x :: st) A post) : mj_G y cc nL rt hh d sc pc ls st A post := by
  intro p l e R s m args below meth c H locs cells slots F nc ns D ad ad0 cy n0 lsC hX hZ hH hE hn hS hc hs hl
  exact lv_iload hX.1 hX.2.2.1 hd (lv_at hl j (mj_ls_at hj)) (k _ _ _ _ _ _ _ _ _ _ _ _ _ _ _ _ _ _ _ _ _ _ _ hX hZ hH hE hn hS hc hs hl)

theorem G_iload_n (j : Nat) {w4 : Fin 4} {x : Int32} (hd : decode cc pc = .ok (.iload_n w4, 1)) (hj : ls[j]? = some ((w4 : Nat), .int x)) (k : mj_G y cc nL rt hh d sc (pc + 1) ls (.int x :: st) A post) : mj_G y cc nL rt hh d sc pc ls st A post := by
  intro p l e R s m args below meth c H locs cells slots F nc ns D ad ad0 cy n0 lsC hX hZ hH hE hn hS hc hs hl
  exact lv_iload_n hX.1 hX.2.2.1 hd rfl (lv_at hl j (mj_ls_at hj)) (k _ _ _ _ _ _ _ _ _ _ _ _ _ _ _ _ _ _ _ _ _ _ _ hX hZ hH hE hn hS hc hs hl)

theorem G_lload (j : Nat) {i : Nat} {x : Int64} (hd : decode cc pc = .ok (.lload i, 2)) (hj : ls[j]? = some (i, .long x)) (k : mj_G y cc nL rt hh d sc (pc + 2) ls (.long x :: st) A post) : mj_G y cc nL rt hh d sc pc ls st A post := by
  intro p l e R s m args below meth c H locs cells slots F nc ns D ad ad0 cy n0 lsC hX hZ hH hE hn hS hc hs hl
  exact lv_lload hX.1 hX.2.2.1 hd (lv_at hl j (mj_ls_at hj)) (k _ _ _ _ _ _ _ _ _ _ _ _ _ _ _ _ _ _ _ _ _ _ _ hX hZ hH hE hn hS hc hs hl)

theorem G_lload_n (j : Nat) {w4 : Fin 4} {x : Int64} (hd : decode cc pc = .ok (.lload_n w4, 1)) (hj : ls[j]? = some ((w4 : Nat), .long x)) (k : mj_G y cc nL rt hh d sc (pc + 1) ls (.long x :: st) A post) : mj_G y cc nL rt hh d sc pc ls st A post := by
  intro p l e R s m args below meth c H locs cells slots F nc ns D ad ad0 cy n0 lsC hX hZ hH hE hn hS hc hs hl
  exact lv_lload_n hX.1 hX.2.2.1 hd rfl (lv_at hl j (mj_ls_at hj)) (k _ _ _ _ _ _ _ _ _ _ _ _ _ _ _ _ _ _ _ _ _ _ _ hX hZ hH hE hn hS hc hs hl)

theorem G_aload (j : Nat) {i : Nat} {x : Nat} (hd : decode cc pc = .ok (.aload i, 2)) (hj : ls[j]? = some (i, .ref x)) (k : mj_G y cc nL rt hh d sc (pc + 2) ls (.ref x :: st) A post) : mj_G y cc nL rt hh d sc pc ls st A post := by
  intro p l e R s m args below meth c H locs cells slots F nc ns D ad ad0 cy n0 lsC hX hZ hH hE hn hS hc hs hl
  exact lv_aload hX.1 hX.2.2.1 hd (lv_at hl j (mj_ls_at hj)) (k _ _ _ _ _ _ _ _ _ _ _ _ _ _ _ _ _ _ _ _ _ _ _ hX hZ hH hE hn hS hc hs hl)

theorem G_aload_n (j : Nat) {w4 : Fin 4} {x : Nat} (hd : decode cc pc = .ok (.aload_n w4, 1)) (hj : ls[j]? = some ((w4 : Nat), .ref x)) (k : mj_G y cc nL rt hh d sc (pc + 1) ls (.ref x :: st) A post) : mj_G y cc nL rt hh d sc pc ls st A post := by
  intro p l e R s m args below meth c H locs cells slots F nc ns D ad ad0 cy n0 lsC hX hZ hH hE hn hS hc hs hl
  exact lv_aload_n hX.1 hX.2.2.1 hd rfl (lv_at hl j (mj_ls_at hj)) (k _ _ _ _ _ _ _ _ _ _ _ _ _ _ _ _ _ _ _ _ _ _ _ hX hZ hH hE hn hS hc hs hl)

theorem G_istore {i : Nat} {x : Int32} {ls' : List (Nat × Value)} (hd : decode cc pc = .ok (.istore i, 2)) (hi : i < nL) (he : (i, Value.int x) :: ls.filter (fun q => !(q.1 == i) && !(q.1 + 1 == i && q.2.category == 2)) = ls') (k : mj_G y cc nL rt hh d sc (pc + 2) ls' st A post) : mj_G y cc nL rt hh d sc pc ls (.int x :: st) A post := by
  intro p l e R s m args below meth c H locs cells slots F nc ns D ad ad0 cy n0 lsC hX hZ hH hE hn hS hc hs hl
  refine lv_istore (lv' := mj_ls ad ls') hX.1 hX.2.2.1 hd hl hi (by rw [← he, mj_ls_f (fun a b => !(a == i) && !(a + 1 == i && b == 2))]; rfl) (fun lsC hl => ?_)
  exact k _ _ _ _ _ _ _ _ _ _ _ _ _ _ _ _ _ _ _ _ _ _ _ hX hZ hH hE hn hS hc hs hl

theorem G_istore_n {w4 : Fin 4} {x : Int32} {ls' : List (Nat × Value)} (hd : decode cc pc = .ok (.istore_n w4, 1)) (hi : (w4 : Nat) < nL) (he : ((w4 : Nat), Value.int x) :: ls.filter (fun q => !(q.1 == (w4 : Nat)) && !(q.1 + 1 == (w4 : Nat) && q.2.category == 2)) = ls') (k : mj_G y cc nL rt hh d sc (pc + 1) ls' st A post) : mj_G y cc nL rt hh d sc pc ls (.int x :: st) A post := by
  intro p l e R s m args below meth c H locs cells slots F nc ns D ad ad0 cy n0 lsC hX hZ hH hE hn hS hc hs hl
  refine lv_istore_n (lv' := mj_ls ad ls') hX.1 hX.2.2.1 hd rfl hl hi (by rw [← he, mj_ls_f (fun a b => !(a == (w4 : Nat)) && !(a + 1 == (w4 : Nat) && b == 2))]; rfl) (fun lsC hl => ?_)
  exact k _ _ _ _ _ _ _ _ _ _ _ _ _ _ _ _ _ _ _ _ _ _ _ hX hZ hH hE hn hS hc hs hl

theorem G_astore {i : Nat} {x : Nat} {ls' : List (Nat × Value)} (hd : decode cc pc = .ok (.astore i, 2)) (hi : i < nL) (he : (i, Value.ref x) :: ls.filter (fun q => !(q.1 == i) && !(q.1 + 1 == i && q.2.category == 2)) = ls') (k : mj_G y cc nL rt hh d sc (pc + 2) ls' st A post) : mj_G y cc nL rt hh d sc pc ls (.ref x :: st) A post := by
  intro p l e R s m args below meth c H locs cells slots F nc ns D ad ad0 cy n0 lsC hX hZ hH hE hn hS hc hs hl
  refine lv_astore (lv' := mj_ls ad ls') hX.1 hX.2.2.1 hd hl hi (by rw [← he, mj_ls_f (fun a b => !(a == i) && !(a + 1 == i && b == 2))]; rfl) (fun lsC hl => ?_)
  exact k _ _ _ _ _ _ _ _ _ _ _ _ _ _ _ _ _ _ _ _ _ _ _ hX hZ hH hE hn hS hc hs hl

theorem G_astore_n {w4 : Fin 4} {x : Nat} {ls' : List (Nat × Value)} (hd : decode cc pc = .ok (.astore_n w4, 1)) (hi : (w4 : Nat) < nL) (he : ((w4 : Nat), Value.ref x) :: ls.filter (fun q => !(q.1 == (w4 : Nat)) && !(q.1 + 1 == (w4 : Nat) && q.2.category == 2)) = ls') (k : mj_G y cc nL rt hh d sc (pc + 1) ls' st A post) : mj_G y cc nL rt hh d sc pc ls (.ref x :: st) A post := by
  intro p l e R s m args below meth c H locs cells slots F nc ns D ad ad0 cy n0 lsC hX hZ hH hE hn hS hc hs hl
  refine lv_astore_n (lv' := mj_ls ad ls') hX.1 hX.2.2.1 hd rfl hl hi (by rw [← he, mj_ls_f (fun a b => !(a == (w4 : Nat)) && !(a + 1 == (w4 : Nat) && b == 2))]; rfl) (fun lsC hl => ?_)
  exact k _ _ _ _ _ _ _ _ _ _ _ _ _ _ _ _ _ _ _ _ _ _ _ hX hZ hH hE hn hS hc hs hl

theorem G_lstore {i : Nat} {x : Int64} {ls' : List (Nat × Value)} (hd : decode cc pc = .ok (.lstore i, 2)) (hi : i + 1 < nL) (he : (i, Value.long x) :: ls.filter (fun q => !(q.1 == i) && (!(q.1 == i + 1) && !(q.1 + 1 == i && q.2.category == 2))) = ls') (k : mj_G y cc nL rt hh d sc (pc + 2) ls' st A post) : mj_G y cc nL rt hh d sc pc ls (.long x :: st) A post := by
  intro p l e R s m args below meth c H locs cells slots F nc ns D ad ad0 cy n0 lsC hX hZ hH hE hn hS hc hs hl
  refine lv_lstore (lv' := mj_ls ad ls') hX.1 hX.2.2.1 hd hl hi (by rw [← he, mj_ls_f (fun a b => !(a == i) && (!(a == i + 1) && !(a + 1 == i && b == 2)))]; rfl) (fun lsC hl => ?_)
  exact k _ _ _ _ _ _ _ _ _ _ _ _ _ _ _ _ _ _ _ _ _ _ _ hX hZ hH hE hn hS hc hs hl

theorem G_lstore_n {w4 : Fin 4} {x : Int64} {ls' : List (Nat × Value)} (hd : decode cc pc = .ok (.lstore_n w4, 1)) (hi : (w4 : Nat) + 1 < nL) (he : ((w4 : Nat), Value.long x) :: ls.filter (fun q => !(q.1 == (w4 : Nat)) && (!(q.1 == (w4 : Nat) + 1) && !(q.1 + 1 == (w4 : Nat) && q.2.category == 2))) = ls') (k : mj_G y cc nL rt hh d sc (pc + 1) ls' st A post) : mj_G y cc nL rt hh d sc pc ls (.long x :: st) A post := by
  intro p l e R s m args below meth c H locs cells slots F nc ns D ad ad0 cy n0 lsC hX hZ hH hE hn hS hc hs hl
  refine lv_lstore_n (lv' := mj_ls ad ls') hX.1 hX.2.2.1 hd rfl hl hi (by rw [← he, mj_ls_f (fun a b => !(a == (w4 : Nat)) && (!(a == (w4 : Nat) + 1) && !(a + 1 == (w4 : Nat) && b == 2)))]; rfl) (fun lsC hl => ?_)
  exact k _ _ _ _ _ _ _ _ _ _ _ _ _ _ _ _ _ _ _ _ _ _ _ hX hZ hH hE hn hS hc hs hl

theorem G_iinc (j : Nat) {i : Nat} {n : Int} {x v : Int32} {ls' : List (Nat × Value)} (hd : decode cc pc = .ok (.iinc i n, 3)) (hj : ls[j]? = some (i, .int x)) (hv : x + Int32.ofInt n = v) (hi : i < nL) (he : (i, Value.int v) :: ls.filter (fun q => !(q.1 == i) && !(q.1 + 1 == i && q.2.category == 2)) = ls') (k : mj_G y cc nL rt hh d sc (pc + 3) ls' st A post) : mj_G y cc nL rt hh d sc pc ls st A post := by
  intro p l e R s m args below meth c H locs cells slots F nc ns D ad ad0 cy n0 lsC hX hZ hH hE hn hS hc hs hl
  refine lv_iinc (v := v) (lv' := mj_ls ad ls') hX.1 hX.2.2.1 hd hl (k := j) (mj_ls_at hj) hv hi (by rw [← he, mj_ls_f (fun a b => !(a == i) && !(a + 1 == i && b == 2))]; rfl) (fun lsC hl => ?_)
  exact k _ _ _ _ _ _ _ _ _ _ _ _ _ _ _ _ _ _ _ _ _ _ _ hX hZ hH hE hn hS hc hs hl

theorem G_sub (js : List Nat) {ls' : List (Nat × Value)} (hp : lv_pick ls js = ls') (k : mj_G y cc nL rt hh d sc pc ls' st A post) : mj_G y cc nL rt hh d sc pc ls st A post := by
  intro p l e R s m args below meth c H locs cells slots F nc ns D ad ad0 cy n0 lsC hX hZ hH hE hn hS hc hs hl
  refine k _ _ _ _ _ _ _ _ _ _ _ _ _ _ _ _ _ _ _ _ _ _ _ hX hZ hH hE hn hS hc hs (lv_sub hl js ?_)
  rw [← hp]
  unfold lv_pick mj_ls
  rw [List.map_filterMap]
  congr 1
  funext k
  simp

theorem G_ifeq (tgt : Nat) {x : Int32} {off : Int} (hd : decode cc pc = .ok (.ifCond .eq off, 3)) (ht : (pc : Int) + off = (tgt : Int)) (kt : x = 0 → mj_G y cc nL rt hh d sc tgt ls st A post) (kf : ¬ x = 0 → mj_G y cc nL rt hh d sc (pc + 3) ls st A post) : mj_G y cc nL rt hh d sc pc ls (.int x :: st) A post := by
  intro p l e R s m args below meth c H locs cells slots F nc ns D ad ad0 cy n0 lsC hX hZ hH hE hn hS hc hs hl
  exact lv_if_eq hX.1 hX.2.2.1 hd ht (fun h => kt h _ _ _ _ _ _ _ _ _ _ _ _ _ _ _ _ _ _ _ _ _ _ _ hX hZ hH hE hn hS hc hs hl) (fun h => kf h _ _ _ _ _ _ _ _ _ _ _ _ _ _ _ _ _ _ _ _ _ _ _ hX hZ hH hE hn hS hc hs hl)

theorem G_ifne (tgt : Nat) {x : Int32} {off : Int} (hd : decode cc pc = .ok (.ifCond .ne off, 3)) (ht : (pc : Int) + off = (tgt : Int)) (kt : ¬ x = 0 → mj_G y cc nL rt hh d sc tgt ls st A post) (kf : x = 0 → mj_G y cc nL rt hh d sc (pc + 3) ls st A post) : mj_G y cc nL rt hh d sc pc ls (.int x :: st) A post := by
  intro p l e R s m args below meth c H locs cells slots F nc ns D ad ad0 cy n0 lsC hX hZ hH hE hn hS hc hs hl
  exact lv_if_ne hX.1 hX.2.2.1 hd ht (fun h => kt h _ _ _ _ _ _ _ _ _ _ _ _ _ _ _ _ _ _ _ _ _ _ _ hX hZ hH hE hn hS hc hs hl) (fun h => kf h _ _ _ _ _ _ _ _ _ _ _ _ _ _ _ _ _ _ _ _ _ _ _ hX hZ hH hE hn hS hc hs hl)

theorem G_iflt (tgt : Nat) {x : Int32} {off : Int} (hd : decode cc pc = .ok (.ifCond .lt off, 3)) (ht : (pc : Int) + off = (tgt : Int)) (kt : x < 0 → mj_G y cc nL rt hh d sc tgt ls st A post) (kf : ¬ x < 0 → mj_G y cc nL rt hh d sc (pc + 3) ls st A post) : mj_G y cc nL rt hh d sc pc ls (.int x :: st) A post := by
  intro p l e R s m args below meth c H locs cells slots F nc ns D ad ad0 cy n0 lsC hX hZ hH hE hn hS hc hs hl
  exact lv_if_lt hX.1 hX.2.2.1 hd ht (fun h => kt h _ _ _ _ _ _ _ _ _ _ _ _ _ _ _ _ _ _ _ _ _ _ _ hX hZ hH hE hn hS hc hs hl) (fun h => kf h _ _ _ _ _ _ _ _ _ _ _ _ _ _ _ _ _ _ _ _ _ _ _ hX hZ hH hE hn hS hc hs hl)

theorem G_ifge (tgt : Nat) {x : Int32} {off : Int} (hd : decode cc pc = .ok (.ifCond .ge off, 3)) (ht : (pc : Int) + off = (tgt : Int)) (kt : 0 ≤ x → mj_G y cc nL rt hh d sc tgt ls st A post) (kf : ¬ 0 ≤ x → mj_G y cc nL rt hh d sc (pc + 3) ls st A post) : mj_G y cc nL rt hh d sc pc ls (.int x :: st) A post := by
  intro p l e R s m args below meth c H locs cells slots F nc ns D ad ad0 cy n0 lsC hX hZ hH hE hn hS hc hs hl
  exact lv_if_ge hX.1 hX.2.2.1 hd ht (fun h => kt h _ _ _ _ _ _ _ _ _ _ _ _ _ _ _ _ _ _ _ _ _ _ _ hX hZ hH hE hn hS hc hs hl) (fun h => kf h _ _ _ _ _ _ _ _ _ _ _ _ _ _ _ _ _ _ _ _ _ _ _ hX hZ hH hE hn hS hc hs hl)

theorem G_ifgt (tgt : Nat) {x : Int32} {off : Int} (hd : decode cc pc = .ok (.ifCond .gt off, 3)) (ht : (pc : Int) + off = (tgt : Int)) (kt : 0 < x → mj_G y cc nL rt hh d sc tgt ls st A post) (kf : ¬ 0 < x → mj_G y cc nL rt hh d sc (pc + 3) ls st A post) : mj_G y cc nL rt hh d sc pc ls (.int x :: st) A post := by
  intro p l e R s m args below meth c H locs cells slots F nc ns D ad ad0 cy n0 lsC hX hZ hH hE hn hS hc hs hl
  exact lv_if_gt hX.1 hX.2.2.1 hd ht (fun h => kt h _ _ _ _ _ _ _ _ _ _ _ _ _ _ _ _ _ _ _ _ _ _ _ hX hZ hH hE hn hS hc hs hl) (fun h => kf h _ _ _ _ _ _ _ _ _ _ _ _ _ _ _ _ _ _ _ _ _ _ _ hX hZ hH hE hn hS hc hs hl)

theorem G_ifle (tgt : Nat) {x : Int32} {off : Int} (hd : decode cc pc = .ok (.ifCond .le off, 3)) (ht : (pc : Int) + off = (tgt : Int)) (kt : x ≤ 0 → mj_G y cc nL rt hh d sc tgt ls st A post) (kf : ¬ x ≤ 0 → mj_G y cc nL rt hh d sc (pc + 3) ls st A post) : mj_G y cc nL rt hh d sc pc ls (.int x :: st) A post := by
  intro p l e R s m args below meth c H locs cells slots F nc ns D ad ad0 cy n0 lsC hX hZ hH hE hn hS hc hs hl
  exact lv_if_le hX.1 hX.2.2.1 hd ht (fun h => kt h _ _ _ _ _ _ _ _ _ _ _ _ _ _ _ _ _ _ _ _ _ _ _ hX hZ hH hE hn hS hc hs hl) (fun h => kf h _ _ _ _ _ _ _ _ _ _ _ _ _ _ _ _ _ _ _ _ _ _ _ hX hZ hH hE hn hS hc hs hl)

theorem G_iceq (tgt : Nat) {x z : Int32} {off : Int} (hd : decode cc pc = .ok (.if_icmp .eq off, 3)) (ht : (pc : Int) + off = (tgt : Int)) (kt : x = z → mj_G y cc nL rt hh d sc tgt ls st A post) (kf : ¬ x = z → mj_G y cc nL rt hh d sc (pc + 3) ls st A post) : mj_G y cc nL rt hh d sc pc ls (.int z :: .int x :: st) A post := by
  intro p l e R s m args below meth c H locs cells slots F nc ns D ad ad0 cy n0 lsC hX hZ hH hE hn hS hc hs hl
  exact lv_icmp_eq hX.1 hX.2.2.1 hd ht (fun h => kt h _ _ _ _ _ _ _ _ _ _ _ _ _ _ _ _ _ _ _ _ _ _ _ hX hZ hH hE hn hS hc hs hl) (fun h => kf h _ _ _ _ _ _ _ _ _ _ _ _ _ _ _ _ _ _ _ _ _ _ _ hX hZ hH hE hn hS hc hs hl)

theorem G_icne (tgt : Nat) {x z : Int32} {off : Int} (hd : decode cc pc = .ok (.if_icmp .ne off, 3)) (ht : (pc : Int) + off = (tgt : Int)) (kt : ¬ x = z → mj_G y cc nL rt hh d sc tgt ls st A post) (kf : x = z → mj_G y cc nL rt hh d sc (pc + 3) ls st A post) : mj_G y cc nL rt hh d sc pc ls (.int z :: .int x :: st) A post := by
  intro p l e R s m args below meth c H locs cells slots F nc ns D ad ad0 cy n0 lsC hX hZ hH hE hn hS hc hs hl
  exact lv_icmp_ne hX.1 hX.2.2.1 hd ht (fun h => kt h _ _ _ _ _ _ _ _ _ _ _ _ _ _ _ _ _ _ _ _ _ _ _ hX hZ hH hE hn hS hc hs hl) (fun h => kf h _ _ _ _ _ _ _ _ _ _ _ _ _ _ _ _ _ _ _ _ _ _ _ hX hZ hH hE hn hS hc hs hl)

theorem G_iclt (tgt : Nat) {x z : Int32} {off : Int} (hd : decode cc pc = .ok (.if_icmp .lt off, 3)) (ht : (pc : Int) + off = (tgt : Int)) (kt : x < z → mj_G y cc nL rt hh d sc tgt ls st A post) (kf : ¬ x < z → mj_G y cc nL rt hh d sc (pc + 3) ls st A post) : mj_G y cc nL rt hh d sc pc ls (.int z :: .int x :: st) A post := by
  intro p l e R s m args below meth c H locs cells slots F nc ns D ad ad0 cy n0 lsC hX hZ hH hE hn hS hc hs hl
  exact lv_icmp_lt hX.1 hX.2.2.1 hd ht (fun h => kt h _ _ _ _ _ _ _ _ _ _ _ _ _ _ _ _ _ _ _ _ _ _ _ hX hZ hH hE hn hS hc hs hl) (fun h => kf h _ _ _ _ _ _ _ _ _ _ _ _ _ _ _ _ _ _ _ _ _ _ _ hX hZ hH hE hn hS hc hs hl)

theorem G_icge (tgt : Nat) {x z : Int32} {off : Int} (hd : decode cc pc = .ok (.if_icmp .ge off, 3)) (ht : (pc : Int) + off = (tgt : Int)) (kt : z ≤ x → mj_G y cc nL rt hh d sc tgt ls st A post) (kf : ¬ z ≤ x → mj_G y cc nL rt hh d sc (pc + 3) ls st A post) : mj_G y cc nL rt hh d sc pc ls (.int z :: .int x :: st) A post := by
  intro p l e R s m args below meth c H locs cells slots F nc ns D ad ad0 cy n0 lsC hX hZ hH hE hn hS hc hs hl
  exact lv_icmp_ge hX.1 hX.2.2.1 hd ht (fun h => kt h _ _ _ _ _ _ _ _ _ _ _ _ _ _ _ _ _ _ _ _ _ _ _ hX hZ hH hE hn hS hc hs hl) (fun h => kf h _ _ _ _ _ _ _ _ _ _ _ _ _ _ _ _ _ _ _ _ _ _ _ hX hZ hH hE hn hS hc hs hl)

theorem G_icgt (tgt : Nat) {x z : Int32} {off : Int} (hd : decode cc pc = .ok (.if_icmp .gt off, 3)) (ht : (pc : Int) + off = (tgt : Int)) (kt : z < x → mj_G y cc nL rt hh d sc tgt ls st A post) (kf : ¬ z < x → mj_G y cc nL rt hh d sc (pc + 3) ls st A post) : mj_G y cc nL rt hh d sc pc ls (.int z :: .int x :: st) A post := by
  intro p l e R s m args below meth c H locs cells slots F nc ns D ad ad0 cy n0 lsC hX hZ hH hE hn hS hc hs hl
  exact lv_icmp_gt hX.1 hX.2.2.1 hd ht (fun h => kt h _ _ _ _ _ _ _ _ _ _ _ _ _ _ _ _ _ _ _ _ _ _ _ hX hZ hH hE hn hS hc hs hl) (fun h => kf h _ _ _ _ _ _ _ _ _ _ _ _ _ _ _ _ _ _ _ _ _ _ _ hX hZ hH hE hn hS hc hs hl)

theorem G_icle (tgt : Nat) {x z : Int32} {off : Int} (hd : decode cc pc = .ok (.if_icmp .le off, 3)) (ht : (pc : Int) + off = (tgt : Int)) (kt : x ≤ z → mj_G y cc nL rt hh d sc tgt ls st A post) (kf : ¬ x ≤ z → mj_G y cc nL rt hh d sc (pc + 3) ls st A post) : mj_G y cc nL rt hh d sc pc ls (.int z :: .int x :: st) A post := by
  intro p l e R s m args below meth c H locs cells slots F nc ns D ad ad0 cy n0 lsC hX hZ hH hE hn hS hc hs hl
  exact lv_icmp_le hX.1 hX.2.2.1 hd ht (fun h => kt h _ _ _ _ _ _ _ _ _ _ _ _ _ _ _ _ _ _ _ _ _ _ _ hX hZ hH hE hn hS hc hs hl) (fun h => kf h _ _ _ _ _ _ _ _ _ _ _ _ _ _ _ _ _ _ _ _ _ _ _ hX hZ hH hE hn hS hc hs hl)

theorem G_goto (tgt : Nat) {off : Int} (hd : decode cc pc = .ok (.goto off, 3)) (ht : (pc : Int) + off = (tgt : Int)) (k : mj_G y cc nL rt hh d sc tgt ls st A post) : mj_G y cc nL rt hh d sc pc ls st A post := by
  intro p l e R s m args below meth c H locs cells slots F nc ns D ad ad0 cy n0 lsC hX hZ hH hE hn hS hc hs hl
  exact lv_goto hX.1 hX.2.2.1 hd ht (k _ _ _ _ _ _ _ _ _ _ _ _ _ _ _ _ _ _ _ _ _ _ _ hX hZ hH hE hn hS hc hs hl)

theorem G_swIn (tgt : Nat) {dflt lo hi : Int} {offs : Array Int} {len : Nat} {x : Int32} {off : Int} (hd : decode cc pc = .ok (.tableswitch dflt lo hi offs, len)) (h1 : ¬ x.toInt < lo) (h2 : ¬ hi < x.toInt) (ho : offs[(x.toInt - lo).toNat]? = some off) (ht : (pc : Int) + off = (tgt : Int)) (k : mj_G y cc nL rt hh d sc tgt ls st A post) : mj_G y cc nL rt hh d sc pc ls (.int x :: st) A post := by
  intro p l e R s m args below meth c H locs cells slots F nc ns D ad ad0 cy n0 lsC hX hZ hH hE hn hS hc hs hl
  exact lv_tableIn hX.1 hX.2.2.1 hd h1 h2 ho ht (k _ _ _ _ _ _ _ _ _ _ _ _ _ _ _ _ _ _ _ _ _ _ _ hX hZ hH hE hn hS hc hs hl)

theorem G_swOut (tgt : Nat) {dflt lo hi : Int} {offs : Array Int} {len : Nat} {x : Int32} (hd : decode cc pc = .ok (.tableswitch dflt lo hi offs, len)) (h : x.toInt < lo ∨ hi < x.toInt) (ht : (pc : Int) + dflt = (tgt : Int)) (k : mj_G y cc nL rt hh d sc tgt ls st A post) : mj_G y cc nL rt hh d sc pc ls (.int x :: st) A post := by
  intro p l e R s m args below meth c H locs cells slots F nc ns D ad ad0 cy n0 lsC hX hZ hH hE hn hS hc hs hl
  exact lv_tableOut hX.1 hX.2.2.1 hd h ht (k _ _ _ _ _ _ _ _ _ _ _ _ _ _ _ _ _ _ _ _ _ _ _ hX hZ hH hE hn hS hc hs hl)

theorem G_dup {v : Value} (hd : decode cc pc = .ok (.dup, 1)) (hv : v.category = 1) (k : mj_G y cc nL rt hh d sc (pc + 1) ls (v :: v :: st) A post) : mj_G y cc nL rt hh d sc pc ls (v :: st) A post := by
  intro p l e R s m args below meth c H locs cells slots F nc ns D ad ad0 cy n0 lsC hX hZ hH hE hn hS hc hs hl
  exact lv_dup hX.1 hX.2.2.1 hd (by rw [mj_cat]; exact hv) (k _ _ _ _ _ _ _ _ _ _ _ _ _ _ _ _ _ _ _ _ _ _ _ hX hZ hH hE hn hS hc hs hl)

theorem G_pop {v : Value} (hd : decode cc pc = .ok (.pop, 1)) (hv : v.category = 1) (k : mj_G y cc nL rt hh d sc (pc + 1) ls st A post) : mj_G y cc nL rt hh d sc pc ls (v :: st) A post := by
  intro p l e R s m args below meth c H locs cells slots F nc ns D ad ad0 cy n0 lsC hX hZ hH hE hn hS hc hs hl
  exact lv_pop hX.1 hX.2.2.1 hd (by rw [mj_cat]; exact hv) (k _ _ _ _ _ _ _ _ _ _ _ _ _ _ _ _ _ _ _ _ _ _ _ hX hZ hH hE hn hS hc hs hl)

end GR
end
section
/-! rules of fields and arrays -/
theorem mj_K1 {D : va_G} {F : Nat → Prop} {ad : Nat → Nat} {cy : Nat → ClassId} {A : List mj_C} {U : State} {H : Heap} {k : Nat} {q : Nat × vp_A} (h : mj_Hp D F ad cy A U H) (hk : A[k]? = some (.inl q)) : va_K D mj_cl [(cy k, mj_ty q.1)] U :=
  ⟨h.2.2.1.1, fun j x hx => by
    match j, hx with
    | 0, hx => cases hx; exact h.2.2.2.1 k q hk
    | j + 1, hx => simp at hx⟩
theorem mj_Hp_set {D : va_G} {F : Nat → Prop} {ad : Nat → Nat} {cy : Nat → ClassId} {A : List mj_C} {U : State} {H H1 : Heap} {k : Nat} {c0 c : mj_C} (h : mj_Hp D F ad cy A U H) (hk : A[k]? = some c0) (hc : mj_rf A.length c) (ht : ∀ q, c = .inl q → ∃ q0, c0 = .inl q0 ∧ q0.1 = q.1)
    (hP : va_P D mj_cl ((mj_W ad cy A).set k (ad k, mj_E ad (cy k) c)) H1) (hD : va_D F ((mj_W ad cy A).set k (ad k, mj_E ad (cy k) c))) : mj_Hp D F ad cy (A.set k c) U H1 := by
  rw [mj_W_set] at hP hD
  refine ⟨hP, hD, h.2.2.1, fun j q hj => ?_, fun j x hj => ?_⟩
  · rw [List.getElem?_set] at hj
    split at hj
    next e =>
      subst e
      split at hj
      next => obtain ⟨q0, e0, e1⟩ := ht q (Option.some.inj hj); subst e0; have := h.2.2.2.1 k q0 hk; rw [e1] at this; exact this
      next => cases hj
    next => exact h.2.2.2.1 j q hj
  · rw [List.length_set]
    rw [List.getElem?_set] at hj
    split at hj
    next e =>
      split at hj
      next => cases hj; exact hc
      next => cases hj
    next => exact h.2.2.2.2 j x hj
def mj_fr (own : String) (index ci k : Nat) : Prop := ∃ (C : String) (T : u_T) (N : Nat), mj_cl[ci]? = some (C, T, N) ∧ (T k).1 = C ∧ k < N ∧ (∀ w ∈ u_ws C T N, w ∈ tw_tbl) ∧
  (Cond.fieldLink own index C (T k).2.1 (T k).2.2.1 ∈ tw_tbl ∨ ∃ host, Cond.fieldLinkNest own index C (T k).2.1 (T k).2.2.1 host ∈ tw_tbl)
def mj_fp (own : String) (index ci k : Nat) (ty : FieldType) (fin : Bool) : Prop := ∃ (C : String) (T : u_T) (N : Nat) (ty0 : Nat → FieldType), mj_cl[ci]? = some (C, T, N) ∧ (T k).1 = C ∧ k < N ∧ (∀ w ∈ u_ws C T N, w ∈ tw_tbl) ∧
  (Cond.fieldLink own index C (T k).2.1 (T k).2.2.1 ∈ tw_tbl) ∧ (∀ k, k < N → parseFieldDescriptor (T k).2.2.1 = some (ty0 k)) ∧ (∀ a, a < N → ∀ b, b < N → a ≠ b → (T a).2.1 ≠ (T b).2.1) ∧ parseFieldDescriptor (T k).2.2.1 = some ty ∧ (T k).2.2.2 = fin
section GH
variable {y : MethodName} {cc : ByteArray} {nL : Nat} {rt : Option FieldType} {hh : List (Nat × Nat × Nat × Nat)} {d : Nat} {sc : Option (Nat × (Nat → Int32))} {pc : Nat} {ls : List (Nat × Value)} {st : List Value} {A : mj_H} {post : mj_O → mj_H → Prop}
theorem G_get {index ci k a : Nat} {fs : List Value} {v : Value} (hd : decode cc pc = .ok (.getfield index, 3)) (hf : mj_fr y.cls index ci k) (ha : A.1[a]? = some (.inr (ci, fs))) (hv : fs[k]? = some v)
    (kk : mj_G y cc nL rt hh d sc (pc + 3) ls (v :: st) A post) : mj_G y cc nL rt hh d sc pc ls (.ref a :: st) A post := by
  intro p l e R s m args below meth c H locs cells slots F nc ns D ad ad0 cy n0 lsC hX hZ hH hE hn hS hc hs hl
  obtain ⟨C, T, N, h1, h2, h3, h4, h5⟩ := hf
  have K := kk p l e R s m args below meth c H locs cells slots F nc ns D ad ad0 cy n0 lsC hX hZ hH hE hn hS hc hs hl
  have hv' : (fs.map (mj_v ad))[k]? = some (mj_v ad v) := by rw [List.getElem?_map, hv]; rfl
  have hsame : ∀ x, s.fieldFound? (T k).1 (T k).2.1 (T k).2.2.1 = some x → s.fieldFound? C (T k).2.1 (T k).2.2.1 = some x := fun x h => by rw [h2] at h; exact h
  rcases h5 with h5 | ⟨host, h5⟩
  · exact va_get hX.1 hX.2.2.1 hX.2.2.2.2.2.2.2.2.1 h4 hX.2.2.2.2.2.2.2.1 hH.2.2.1 hH.1 a (mj_W_get ha) h1 k h3 (hX.2.2.2.2.2.2.2.2.1 _ h5) hsame hv' hd K
  · exact va_getN hX.1 hX.2.2.1 hX.2.2.2.2.2.2.2.2.1 h4 hX.2.2.2.2.2.2.2.1 hH.2.2.1 hH.1 a (mj_W_get ha) h1 k h3 (hX.2.2.2.2.2.2.2.2.1 _ h5) hsame hv' hd K
theorem G_put {index ci k a : Nat} {fs : List Value} {v : Value} {ty : FieldType} {A1 : List mj_C} (hd : decode cc pc = .ok (.putfield index, 3)) (hf : mj_fp y.cls index ci k ty false) (ha : A.1[a]? = some (.inr (ci, fs))) (hk : k < fs.length) (hv : ∀ ad, narrow ty (mj_v ad v) = mj_v ad v ∧ fits ty (mj_v ad v) = true) (hr : mj_rv A.1.length v) (hA : A.1.set a (.inr (ci, fs.set k v)) = A1)
    (kk : mj_G y cc nL rt hh d sc (pc + 3) ls st (A1, A.2) post) : mj_G y cc nL rt hh d sc pc ls (v :: .ref a :: st) A post := by
  intro p l e R s m args below meth c H locs cells slots F nc ns D ad ad0 cy n0 lsC hX hZ hH hE hn hS hc hs hl
  obtain ⟨C, T, N, ty0, h1, h2, h3, h4, h5, h6, h7, h8, h9⟩ := hf
  have hsame : ∀ x, s.fieldFound? (T k).1 (T k).2.1 (T k).2.2.1 = some x → s.fieldFound? C (T k).2.1 (T k).2.2.1 = some x := fun x h => by rw [h2] at h; exact h
  refine va_put hX.1 hX.2.2.1 hX.2.2.2.2.2.2.2.2.1 h4 ty0 h6 h7 hX.2.2.2.2.2.2.2.1 hH.2.2.1 hH.1 hH.2.1 hS a (mj_W_get ha) h1 k h3 (hX.2.2.2.2.2.2.2.2.1 _ h5) hsame h9 h8 (hv ad).1 (hv ad).2 (by rw [List.length_map]; exact hk) hd (fun H1 locs1 hP hD hS1 => ?_)
  have hlen : A1.length = A.1.length := by rw [← hA, List.length_set]
  have e : (mj_W ad cy A.1).set a (ad a, .inr (ci, (fs.map (mj_v ad)).set k (mj_v ad v))) = (mj_W ad cy A.1).set a (ad a, mj_E ad (cy a) (.inr (ci, fs.set k v))) := by
    show _ = (mj_W ad cy A.1).set a (ad a, .inr (ci, (fs.set k v).map (mj_v ad)))
    rw [List.map_set]
  rw [e] at hP hD
  have hH1 : mj_Hp D F ad cy A1 s H1 := by
    rw [← hA]
    refine mj_Hp_set hH ha ?_ (fun q hq => by cases hq) hP hD
    intro w hw
    rcases List.mem_or_eq_of_mem_set hw with h | h
    · exact hH.2.2.2.2 a _ ha w h
    · rw [h]; exact hr
  exact kk _ _ _ _ _ _ _ _ _ _ _ _ _ _ _ _ _ _ _ _ _ _ _ hX hZ hH1 (by rw [hlen]; exact hE) (by rw [hlen]; exact hn) hS1 hc hs hl
theorem G_putF {index ci k a : Nat} {fs : List Value} {v : Value} {ty : FieldType} {A1 : List mj_C} (hd : decode cc pc = .ok (.putfield index, 3)) (hf : mj_fp y.cls index ci k ty true) (hy : y.name = "<init>") (hC : ∀ C T N, mj_cl[ci]? = some (C, T, N) → C = y.cls) (ha : A.1[a]? = some (.inr (ci, fs))) (hk : k < fs.length) (hv : ∀ ad, narrow ty (mj_v ad v) = mj_v ad v ∧ fits ty (mj_v ad v) = true) (hr : mj_rv A.1.length v) (hA : A.1.set a (.inr (ci, fs.set k v)) = A1)
    (kk : mj_G y cc nL rt hh d sc (pc + 3) ls st (A1, A.2) post) : mj_G y cc nL rt hh d sc pc ls (v :: .ref a :: st) A post := by
  intro p l e R s m args below meth c H locs cells slots F nc ns D ad ad0 cy n0 lsC hX hZ hH hE hn hS hc hs hl
  obtain ⟨C, T, N, ty0, h1, h2, h3, h4, h5, h6, h7, h8, h9⟩ := hf
  have hsame : ∀ x, s.fieldFound? (T k).1 (T k).2.1 (T k).2.2.1 = some x → s.fieldFound? C (T k).2.1 (T k).2.2.1 = some x := fun x h => by rw [h2] at h; exact h
  refine va_putF hX.1 hX.2.2.1 hX.2.2.2.2.2.2.2.2.1 h4 ty0 h6 h7 hX.2.2.2.2.2.2.2.1 hH.2.2.1 hH.1 hH.2.1 hS a (mj_W_get ha) h1 k h3 (hX.2.2.2.2.2.2.2.2.1 _ h5) hsame h9 (hX.2.2.2.2.2.2.1.trans hy) (h2.trans (hC C T N h1)) h8 (hv ad).1 (hv ad).2 (by rw [List.length_map]; exact hk) hd (fun H1 locs1 hP hD hS1 => ?_)
  have hlen : A1.length = A.1.length := by rw [← hA, List.length_set]
  have e : (mj_W ad cy A.1).set a (ad a, .inr (ci, (fs.map (mj_v ad)).set k (mj_v ad v))) = (mj_W ad cy A.1).set a (ad a, mj_E ad (cy a) (.inr (ci, fs.set k v))) := by
    show _ = (mj_W ad cy A.1).set a (ad a, .inr (ci, (fs.set k v).map (mj_v ad)))
    rw [List.map_set]
  rw [e] at hP hD
  have hH1 : mj_Hp D F ad cy A1 s H1 := by
    rw [← hA]
    refine mj_Hp_set hH ha ?_ (fun q hq => by cases hq) hP hD
    intro w hw
    rcases List.mem_or_eq_of_mem_set hw with h | h
    · exact hH.2.2.2.2 a _ ha w h
    · rw [h]; exact hr
  exact kk _ _ _ _ _ _ _ _ _ _ _ _ _ _ _ _ _ _ _ _ _ _ _ hX hZ hH1 (by rw [hlen]; exact hE) (by rw [hlen]; exact hn) hS1 hc hs hl
theorem G_iald {a n : Nat} {f : Nat → Int32} {i : Int32} (hd : decode cc pc = .ok (.iaload, 1)) (ha : A.1[a]? = some (.inl (0, n, .inl f))) (hi : vp_in i n) (kk : mj_G y cc nL rt hh d sc (pc + 1) ls (.int (f i.toNatClampNeg) :: st) A post) : mj_G y cc nL rt hh d sc pc ls (.int i :: .ref a :: st) A post := by
  intro p l e R s m args below meth c H locs cells slots F nc ns D ad ad0 cy n0 lsC hX hZ hH hE hn hS hc hs hl
  exact va_iald hX.1 hX.2.2.1 (mj_K1 hH ha) hH.1 a 0 (mj_W_get ha) rfl hi hd (kk _ _ _ _ _ _ _ _ _ _ _ _ _ _ _ _ _ _ _ _ _ _ _ hX hZ hH hE hn hS hc hs hl)
theorem G_zald {a n : Nat} {f : Nat → Int32} {i : Int32} (hd : decode cc pc = .ok (.baload, 1)) (ha : A.1[a]? = some (.inl (2, n, .inl f))) (hi : vp_in i n) (kk : mj_G y cc nL rt hh d sc (pc + 1) ls (.int (f i.toNatClampNeg) :: st) A post) : mj_G y cc nL rt hh d sc pc ls (.int i :: .ref a :: st) A post := by
  intro p l e R s m args below meth c H locs cells slots F nc ns D ad ad0 cy n0 lsC hX hZ hH hE hn hS hc hs hl
  exact va_zald hX.1 hX.2.2.1 (mj_K1 hH ha) hH.1 a 0 (mj_W_get ha) rfl hi hd (kk _ _ _ _ _ _ _ _ _ _ _ _ _ _ _ _ _ _ _ _ _ _ _ hX hZ hH hE hn hS hc hs hl)
theorem G_lald {a n : Nat} {f : Nat → Int64} {i : Int32} (hd : decode cc pc = .ok (.laload, 1)) (ha : A.1[a]? = some (.inl (1, n, .inr (.inl f)))) (hi : vp_in i n) (kk : mj_G y cc nL rt hh d sc (pc + 1) ls (.long (f i.toNatClampNeg) :: st) A post) : mj_G y cc nL rt hh d sc pc ls (.int i :: .ref a :: st) A post := by
  intro p l e R s m args below meth c H locs cells slots F nc ns D ad ad0 cy n0 lsC hX hZ hH hE hn hS hc hs hl
  exact va_lald hX.1 hX.2.2.1 (mj_K1 hH ha) hH.1 a 0 (mj_W_get ha) rfl hi hd (kk _ _ _ _ _ _ _ _ _ _ _ _ _ _ _ _ _ _ _ _ _ _ _ hX hZ hH hE hn hS hc hs hl)
theorem G_aald {a n r : Nat} {f : Nat → Option Nat} {i : Int32} (hd : decode cc pc = .ok (.aaload, 1)) (ha : A.1[a]? = some (.inl (3, n, .inr (.inr (.inr (.inr f)))))) (hi : vp_in i n) (hr : f i.toNatClampNeg = some r) (kk : mj_G y cc nL rt hh d sc (pc + 1) ls (.ref r :: st) A post) : mj_G y cc nL rt hh d sc pc ls (.int i :: .ref a :: st) A post := by
  intro p l e R s m args below meth c H locs cells slots F nc ns D ad ad0 cy n0 lsC hX hZ hH hE hn hS hc hs hl
  have hlt : i.toNatClampNeg < n := Nat.not_le.mp fun q => hi (Or.inr q)
  have K := kk p l e R s m args below meth c H locs cells slots F nc ns D ad ad0 cy n0 lsC hX hZ hH hE hn hS hc hs hl
  refine W.aald (v := .ref (ad r)) (ty := .array .int) hX.1 hX.2.2.1 (hH.1 a _ (mj_W_get ha)) ((hH.2.2.2.1 a _ ha).1 n (fun j => va_rf ((f j).map ad))) rfl (fun q => by cases q) (by show ¬ (i < 0 ∨ (arrV _ _ _).slots.size ≤ _); rw [arrV_size]; exact hi) (by show (arrV (cy a) n (fun j => va_rf ((f j).map ad))).slots[_]? = _; rw [arrV_read _ _ hlt, hr]; rfl) rfl rfl hd K
theorem G_alen {a : Nat} {q : Nat × vp_A} {v : Int32} (hd : decode cc pc = .ok (.arraylength, 1)) (ha : A.1[a]? = some (.inl q)) (hv : Int32.ofNat q.2.1 = v) (kk : mj_G y cc nL rt hh d sc (pc + 1) ls (.int v :: st) A post) : mj_G y cc nL rt hh d sc pc ls (.ref a :: st) A post := by
  intro p l e R s m args below meth c H locs cells slots F nc ns D ad ad0 cy n0 lsC hX hZ hH hE hn hS hc hs hl
  exact va_alen hX.1 hX.2.2.1 (mj_K1 hH ha) hH.1 a 0 (mj_W_get ha) rfl hv hd (kk _ _ _ _ _ _ _ _ _ _ _ _ _ _ _ _ _ _ _ _ _ _ _ hX hZ hH hE hn hS hc hs hl)
theorem G_iast {a n : Nat} {f : Nat → Int32} {i x : Int32} {A1 : List mj_C} (hd : decode cc pc = .ok (.iastore, 1)) (ha : A.1[a]? = some (.inl (0, n, .inl f))) (hi : vp_in i n) (hA : A.1.set a (.inl (0, n, .inl (upd f i.toNatClampNeg x))) = A1) (kk : mj_G y cc nL rt hh d sc (pc + 1) ls st (A1, A.2) post) : mj_G y cc nL rt hh d sc pc ls (.int x :: .int i :: .ref a :: st) A post := by
  intro p l e R s m args below meth c H locs cells slots F nc ns D ad ad0 cy n0 lsC hX hZ hH hE hn hS hc hs hl
  refine va_iast hX.1 hX.2.2.1 (mj_K1 hH ha) hH.1 hH.2.1 hS a 0 (mj_W_get ha) rfl hi hd (fun H1 locs1 hP hD hS1 => ?_)
  have hlen : A1.length = A.1.length := by rw [← hA, List.length_set]
  have hH1 : mj_Hp D F ad cy A1 s H1 := by
    rw [← hA]
    exact mj_Hp_set hH ha trivial (fun q hq => by cases hq; exact ⟨_, rfl, rfl⟩) hP hD
  exact kk _ _ _ _ _ _ _ _ _ _ _ _ _ _ _ _ _ _ _ _ _ _ _ hX hZ hH1 (by rw [hlen]; exact hE) (by rw [hlen]; exact hn) hS1 hc hs hl
theorem G_zast {a n : Nat} {f : Nat → Int32} {i x : Int32} {A1 : List mj_C} (hd : decode cc pc = .ok (.bastore, 1)) (ha : A.1[a]? = some (.inl (2, n, .inl f))) (hi : vp_in i n) (hA : A.1.set a (.inl (2, n, .inl (upd f i.toNatClampNeg (vp_nar .boolean x)))) = A1) (kk : mj_G y cc nL rt hh d sc (pc + 1) ls st (A1, A.2) post) : mj_G y cc nL rt hh d sc pc ls (.int x :: .int i :: .ref a :: st) A post := by
  intro p l e R s m args below meth c H locs cells slots F nc ns D ad ad0 cy n0 lsC hX hZ hH hE hn hS hc hs hl
  refine va_zast hX.1 hX.2.2.1 (mj_K1 hH ha) hH.1 hH.2.1 hS a 0 (mj_W_get ha) rfl hi hd (fun H1 locs1 hP hD hS1 => ?_)
  have hlen : A1.length = A.1.length := by rw [← hA, List.length_set]
  have hH1 : mj_Hp D F ad cy A1 s H1 := by
    rw [← hA]
    exact mj_Hp_set hH ha trivial (fun q hq => by cases hq; exact ⟨_, rfl, rfl⟩) hP hD
  exact kk _ _ _ _ _ _ _ _ _ _ _ _ _ _ _ _ _ _ _ _ _ _ _ hX hZ hH1 (by rw [hlen]; exact hE) (by rw [hlen]; exact hn) hS1 hc hs hl
theorem G_last {a n : Nat} {f : Nat → Int64} {i : Int32} {x : Int64} {A1 : List mj_C} (hd : decode cc pc = .ok (.lastore, 1)) (ha : A.1[a]? = some (.inl (1, n, .inr (.inl f)))) (hi : vp_in i n) (hA : A.1.set a (.inl (1, n, .inr (.inl (vp_updL f i.toNatClampNeg x)))) = A1) (kk : mj_G y cc nL rt hh d sc (pc + 1) ls st (A1, A.2) post) : mj_G y cc nL rt hh d sc pc ls (.long x :: .int i :: .ref a :: st) A post := by
  intro p l e R s m args below meth c H locs cells slots F nc ns D ad ad0 cy n0 lsC hX hZ hH hE hn hS hc hs hl
  refine va_last hX.1 hX.2.2.1 (mj_K1 hH ha) hH.1 hH.2.1 hS a 0 (mj_W_get ha) rfl hi hd (fun H1 locs1 hP hD hS1 => ?_)
  have hlen : A1.length = A.1.length := by rw [← hA, List.length_set]
  have hH1 : mj_Hp D F ad cy A1 s H1 := by
    rw [← hA]
    exact mj_Hp_set hH ha trivial (fun q hq => by cases hq; exact ⟨_, rfl, rfl⟩) hP hD
  exact kk _ _ _ _ _ _ _ _ _ _ _ _ _ _ _ _ _ _ _ _ _ _ _ hX hZ hH1 (by rw [hlen]; exact hE) (by rw [hlen]; exact hn) hS1 hc hs hl
theorem G_sld {L : Nat} {xs : Nat → Int32} {i : Int32} (hd : decode cc pc = .ok (.iaload, 1)) (hi : vp_in i L) (kk : mj_G y cc nL rt hh d (some (L, xs)) (pc + 1) ls (.int (xs i.toNatClampNeg) :: st) A post) : mj_G y cc nL rt hh d (some (L, xs)) pc ls (.int i :: .ref 1000000 :: st) A post := by
  intro p l e R s m args below meth c H locs cells slots F nc ns D ad ad0 cy n0 lsC hX hZ hH hE hn hS hc hs hl
  exact va_sld hX.1 hX.2.2.1 hZ.1 hZ.2.1 hZ.2.2 hS hi hd (kk _ _ _ _ _ _ _ _ _ _ _ _ _ _ _ _ _ _ _ _ _ _ _ hX hZ hH hE hn hS hc hs hl)
theorem G_slen {L : Nat} {xs : Nat → Int32} (hd : decode cc pc = .ok (.arraylength, 1)) (kk : mj_G y cc nL rt hh d (some (L, xs)) (pc + 1) ls (.int (Int32.ofNat L) :: st) A post) : mj_G y cc nL rt hh d (some (L, xs)) pc ls (.ref 1000000 :: st) A post := by
  intro p l e R s m args below meth c H locs cells slots F nc ns D ad ad0 cy n0 lsC hX hZ hH hE hn hS hc hs hl
  exact va_slen hX.1 hX.2.2.1 hZ.1 hZ.2.1 hZ.2.2 hS hd (kk _ _ _ _ _ _ _ _ _ _ _ _ _ _ _ _ _ _ _ _ _ _ _ hX hZ hH hE hn hS hc hs hl)
theorem G_lcmp {x z : Int64} (hd : decode cc pc = .ok (.lcmp, 1)) (kk : mj_G y cc nL rt hh d sc (pc + 1) ls (.int (lg_cmp x z) :: st) A post) : mj_G y cc nL rt hh d sc pc ls (.long z :: .long x :: st) A post := by
  intro p l e R s m args below meth c H locs cells slots F nc ns D ad ad0 cy n0 lsC hX hZ hH hE hn hS hc hs hl
  exact W.lcmp hX.1 hX.2.2.1 hd (kk _ _ _ _ _ _ _ _ _ _ _ _ _ _ _ _ _ _ _ _ _ _ _ hX hZ hH hE hn hS hc hs hl)
theorem G_dup2 {v w : Value} (hd : decode cc pc = .ok (.dup2, 1)) (hv : v.category = 1) (hw : w.category = 1) (kk : mj_G y cc nL rt hh d sc (pc + 1) ls (v :: w :: v :: w :: st) A post) : mj_G y cc nL rt hh d sc pc ls (v :: w :: st) A post := by
  intro p l e R s m args below meth c H locs cells slots F nc ns D ad ad0 cy n0 lsC hX hZ hH hE hn hS hc hs hl
  exact lv_dup2_11 hX.1 hX.2.2.1 hd (by rw [mj_cat]; exact hv) (by rw [mj_cat]; exact hw) (kk _ _ _ _ _ _ _ _ _ _ _ _ _ _ _ _ _ _ _ _ _ _ _ hX hZ hH hE hn hS hc hs hl)
theorem G_ldcw {index : Nat} {v : Int32} (hd : decode cc pc = .ok (.ldc_w index, 3)) (hw : Cond.constant y.cls index v ∈ tw_tbl) (kk : mj_G y cc nL rt hh d sc (pc + 3) ls (.int v :: st) A post) : mj_G y cc nL rt hh d sc pc ls st A post := by
  intro p l e R s m args below meth c H locs cells slots F nc ns D ad ad0 cy n0 lsC hX hZ hH hE hn hS hc hs hl
  exact lv_ldcw hX.1 hX.2.2.1 hX.2.2.2.2.2.2.2.1 (hX.2.2.2.2.2.2.2.2.1 _ hw) hd (kk _ _ _ _ _ _ _ _ _ _ _ _ _ _ _ _ _ _ _ _ _ _ _ hX hZ hH hE hn hS hc hs hl)
theorem G_ldc2 {index : Nat} {v : Int64} (hd : decode cc pc = .ok (.ldc2_w index, 3)) (hw : Cond.constantLong y.cls index v ∈ tw_tbl) (kk : mj_G y cc nL rt hh d sc (pc + 3) ls (.long v :: st) A post) : mj_G y cc nL rt hh d sc pc ls st A post := by
  intro p l e R s m args below meth c H locs cells slots F nc ns D ad ad0 cy n0 lsC hX hZ hH hE hn hS hc hs hl
  exact lv_ldc2 hX.1 hX.2.2.1 hX.2.2.2.2.2.2.2.1 (hX.2.2.2.2.2.2.2.2.1 _ hw) hd (kk _ _ _ _ _ _ _ _ _ _ _ _ _ _ _ _ _ _ _ _ _ _ _ hX hZ hH hE hn hS hc hs hl)
end GH
end
section
/-! returns -/
section GRT
variable {y : MethodName} {cc : ByteArray} {nL : Nat} {rt : Option FieldType} {hh : List (Nat × Nat × Nat × Nat)} {d : Nat} {sc : Option (Nat × (Nat → Int32))} {pc : Nat} {ls : List (Nat × Value)} {st : List Value} {A : mj_H} {post : mj_O → mj_H → Prop}
/-- the end of a method that returns v -/
theorem mj_leave {s : State} {below : List Frame} {T : State} {locs : List Loc} {cells slots : Nat} {F : Nat → Prop} {nc ns : Nat} {D : va_G} {ad ad0 : Nat → Nat} {cy : Nat → ClassId} {n0 : Nat} {fs : List Frame} {v : Option Value}
    (hH : mj_Hp D F ad cy A.1 s T.heap) (hE : mj_Ext ad ad0 n0 A.1.length) (hn : n0 ≤ A.1.length) (hS : va_S F s.heap T.heap locs) (hc : A.2.1 = nc + cells ∧ A.2.1 ≤ 601024) (hs : A.2.2 = ns + slots ∧ A.2.2 ≤ 7293034) (hp : post (.inl v) A)
    (hrun : (T.setFrames fs).status = .running) (hend : Ended (T.setFrames fs) below (.returned (v.map (mj_v ad)))) (hW : s.WarmedH (T.setFrames fs).vm) (hfr : s.sameButNew ({ T.setFrames fs with vm := s.vm } : State) locs cells slots) : mj_end below s F D ad0 n0 nc ns post (T.setFrames fs) :=
  ⟨_, hrun, hend, .inl v, A, ad, cy, cells, slots, locs, hp, rfl, hH, hE, hn, hS, hc, hs, hW, hfr⟩
theorem G_iret {x : Int32} (hd : decode cc pc = .ok (.ireturn, 1)) (hr : rt = some .int) (hp : post (.inl (some (.int x))) A) : mj_G y cc nL rt hh d sc pc ls [.int x] A post := by
  intro p l e R s m args below meth c H locs cells slots F nc ns D ad ad0 cy n0 lsC hX hZ hH hE hn hS hc hs hl
  obtain ⟨hexec, -, hb, -, hrt, hlocks, -⟩ := hX
  subst hr
  intro T hT X
  obtain ⟨fs, hret, hrun, hended, hW, hframe⟩ := X.leave (v := some (.int x)) (hlocks := hlocks) (fun h => by rw [hrt] at h; cases h)
  have hmeth' : T.vm.method? m = some meth := X.method'
  refine ⟨T.setFrames fs, ?_, mj_leave (v := some (.int x)) (by rw [hT]; exact hH) hE hn (by rw [hT]; exact hS) hc hs hp hrun hended hW hframe⟩
  show Steps p.tables e below (T.setTop (F0 m pc lsC [.int x])) _
  jvm_step X.here [X.here.top, hexec, hb, hd, hmeth', hrt, narrow]
  (try refine ⟨rfl, ?_⟩); (try refine ⟨rfl, ?_⟩)
  first | (intro acts; rw [hret _ acts rfl rfl rfl]) | rw [hret _ _ rfl rfl rfl]
  exact Steps.refl _
theorem G_zret {x : Int32} (hd : decode cc pc = .ok (.ireturn, 1)) (hr : rt = some .boolean) (hx : narrow .boolean (.int x) = .int x) (hp : post (.inl (some (.int x))) A) : mj_G y cc nL rt hh d sc pc ls [.int x] A post := by
  intro p l e R s m args below meth c H locs cells slots F nc ns D ad ad0 cy n0 lsC hX hZ hH hE hn hS hc hs hl
  obtain ⟨hexec, -, hb, -, hrt, hlocks, -⟩ := hX
  subst hr
  intro T hT X
  obtain ⟨fs, hret, hrun, hended, hW, hframe⟩ := X.leave (v := some (.int x)) (hlocks := hlocks) (fun h => by rw [hrt] at h; cases h)
  have hmeth' : T.vm.method? m = some meth := X.method'
  refine ⟨T.setFrames fs, ?_, mj_leave (v := some (.int x)) (by rw [hT]; exact hH) hE hn (by rw [hT]; exact hS) hc hs hp hrun hended hW hframe⟩
  show Steps p.tables e below (T.setTop (F0 m pc lsC [.int x])) _
  jvm_step X.here [X.here.top, hexec, hb, hd, hmeth', hrt, hx]
  (try refine ⟨rfl, ?_⟩); (try refine ⟨rfl, ?_⟩)
  first | (intro acts; rw [hret _ acts rfl rfl rfl]) | rw [hret _ _ rfl rfl rfl]
  exact Steps.refl _
theorem G_ret (hd : decode cc pc = .ok (.return_, 1)) (hr : rt = none) (hp : post (.inl none) A) : mj_G y cc nL rt hh d sc pc ls [] A post := by
  intro p l e R s m args below meth c H locs cells slots F nc ns D ad ad0 cy n0 lsC hX hZ hH hE hn hS hc hs hl
  obtain ⟨hexec, -, hb, -, hrt, hlocks, -⟩ := hX
  subst hr
  intro T hT X
  obtain ⟨fs, hret, hrun, hended, hW, hframe⟩ := X.leave (v := none) (hlocks := hlocks) (fun _ => rfl)
  have hmeth' : T.vm.method? m = some meth := X.method'
  refine ⟨T.setFrames fs, ?_, mj_leave (v := none) (by rw [hT]; exact hH) hE hn (by rw [hT]; exact hS) hc hs hp hrun hended hW hframe⟩
  show Steps p.tables e below (T.setTop (F0 m pc lsC [])) _
  jvm_step X.here [X.here.top, hexec, hb, hd, hmeth', hrt]
  (try refine ⟨rfl, ?_⟩); (try refine ⟨rfl, ?_⟩)
  first | (intro acts; rw [hret _ acts rfl rfl rfl]) | rw [hret _ _ rfl rfl rfl]
  exact Steps.refl _
end GRT
end
section
/-! a call: from a callee's judgement to the caller's next state, whether it returns or throws -/
def mj_cw (y : MethodName) (cc : ByteArray) (nL : Nat) (rt : Option FieldType) (hh : List (Nat × Nat × Nat × Nat)) : Prop := (Cond.code y cc nL rt ∈ tw_tbl ∧ hh = []) ∨ Cond.codeWith y cc nL rt hh ∈ tw_tbl
theorem mj_cw_spec {y : MethodName} {cc : ByteArray} {nL : Nat} {rt : Option FieldType} {hh : List (Nat × Nat × Nat × Nat)} {args : Array Value} {s : State} {mk : MethodId} (h : mj_cw y cc nL rt hh) (hts : ∀ w ∈ tw_tbl, w.before args s = true) (hn : s.methodNamed? y = some mk) :
    ∃ meth c, s.vm.method? mk = some meth ∧ meth.code = some c ∧ c.code = cc ∧ c.maxLocals = nL ∧ meth.sig.returnType = rt ∧ meth.locks = false ∧ c.exceptionTable.toList.map (fun h => (h.startPc, h.endPc, h.handlerPc, h.catchType)) = hh ∧ parseMethodDescriptor y.desc = some meth.sig := by
  rcases h with ⟨h, rfl⟩ | h
  · obtain ⟨meth, c, h1, h2, h3, h4, h5, h6, h7, h8⟩ := Cond.code_spec hn (hts _ h)
    refine ⟨meth, c, h1, h2, h3, h4, h5, h6, ?_, h8⟩
    have h0 : c.exceptionTable.toList = [] := by simpa [Array.isEmpty] using h7
    rw [h0]; rfl
  · obtain ⟨m9, meth, c, hn9, h1, h2, h3, h4, h7, h5, h6, h8⟩ := Cond.codeWith_spec (hts _ h)
    cases hn.symm.trans hn9
    exact ⟨meth, c, h1, h2, h3, h4, h5, h6, h7, h8⟩
theorem mj_args (ad : Nat → Nat) (As : List Value) : ∀ i, lv_args i (As.map (mj_v ad)) = mj_ls ad (lv_args i As) := by
  induction As with
  | nil => intro i; rfl
  | cons v vs ih =>
    intro i
    show (i, mj_v ad v) :: lv_args (if (mj_v ad v).category = 2 then i + 2 else i + 1) (vs.map (mj_v ad)) = (i, mj_v ad v) :: mj_ls ad (lv_args (if v.category = 2 then i + 2 else i + 1) vs)
    rw [mj_cat, ih]
theorem mj_sl (ad : Nat → Nat) (As : List Value) : (lg_sl (As.map (mj_v ad))).length = (lg_sl As).length := by
  induction As with
  | nil => rfl
  | cons v vs ih =>
    have e : ∀ (w : Value) (ws : List Value), (lg_sl (w :: ws)).length = (if w.category = 2 then 2 else 1) + (lg_sl ws).length := fun w ws => by
      unfold lg_sl
      rw [List.flatMap_cons, List.length_append]
      split <;> rfl
    rw [List.map_cons, e, e, mj_cat, ih]
theorem mj_plain {D : va_G} {F : Nat → Prop} {ad : Nat → Nat} {cy : Nat → ClassId} {A : List mj_C} {U : State} {H : Heap} {k : Nat} (h : mj_Hp D F ad cy A U H) (hk : k < A.length) : ∃ cell : Cell, H[ad k]? = some cell ∧ cell.vm = .none := by
  have hg : A[k]? = some A[k] := List.getElem?_eq_getElem hk
  have hw := h.1 k _ (mj_W_get hg)
  generalize A[k] = cc at hg hw
  rcases cc with q | q
  · have h1 : H[ad k]? = some (vp_cell (cy k) (mj_A ad q.2)) := hw
    refine ⟨_, h1, ?_⟩
    unfold vp_cell
    split <;> rfl
  · obtain ⟨r, -, cell, q1, -, q3, -⟩ := hw
    exact ⟨cell, q1, q3⟩
section GC
variable {p : Program} {l : Launch} {e : Env} {R : Room} {s : State} {m : MethodId} {args : Array Value} {below : List Frame} {meth : Method} {c : Code} {T : State} {locs : List Loc} {cells slots : Nat} {F : Nat → Prop} {nc ns : Nat} {D : va_G} {ad : Nat → Nat} {cy : Nat → ClassId} {A : mj_H}
variable {y : MethodName} {cc : ByteArray} {nL : Nat} {rt : Option FieldType} {hh : List (Nat × Nat × Nat × Nat)} {d : Nat}
variable {y' : MethodName} {cc' : ByteArray} {nL' : Nat} {rt' : Option FieldType} {hh' : List (Nat × Nat × Nat × Nat)} {As : List Value} {post' : mj_O → mj_H → Prop}
def mj_F (A : List mj_C) (ad : Nat → Nat) (z : Nat) : Nat → Prop := fun q => (∃ k, k < A.length ∧ q = ad k) ∨ z ≤ q
theorem mj_F_in (hH : mj_Hp D F ad cy A.1 s T.heap) (hS : va_S F s.heap T.heap locs) (hA : ∀ q, s.heap.size ≤ q → F q) : ∀ q, mj_F A.1 ad T.heap.size q → F q := by
  intro q hq
  rcases hq with ⟨k, hk, rfl⟩ | h
  · exact hH.2.1.2 k _ (mj_W_get (List.getElem?_eq_getElem hk))
  · exact hA q (Nat.le_trans hS.1 h)
theorem mj_met (hX : mj_X y cc nL rt hh (d + 1) p e R s m args meth c F nc ns) (hW : s.WarmedH T.vm) (hH : mj_Hp D F ad cy A.1 s T.heap) (hS : va_S F s.heap T.heap locs) (hc : A.2.1 = nc + cells ∧ A.2.1 ≤ 601024) (hs : A.2.2 = ns + slots ∧ A.2.2 ≤ 7293034)
    (hcw : mj_cw y' cc' nL' rt' hh') (hpl : plainName y'.cls = true) (hsl : (lg_sl As).length ≤ nL') (hG : mj_G y' cc' nL' rt' hh' d none 0 (lv_args 0 As) [] A post') :
    MetFree l y' (headSpec tw_tbl { frames := d, cells := R.cells - cells, slots := R.slots - slots, locals := 41 * d }) (fun a st => a = (As.map (mj_v ad)).toArray ∧ st.heap = T.heap ∧ st.vm = T.vm) (fun _ e _ _ _ => e.platform.stackTraces = false)
      (fun a st o t => mj_fin st (mj_F A.1 ad T.heap.size) D ad A.1.length A.2.1 A.2.2 post' o t) := by
  refine MetFree.of_bodyS (code := cc') (maxLocals := nL') (ret := rt') hpl ?_ ?_
  · intro args2 s2 m2 h hn
    obtain ⟨meth2, c2, h1, h2, h3, h4, h5, h6, -⟩ := mj_cw_spec hcw (atoms_spec (ws := tw_tbl) h) hn
    exact ⟨meth2, c2, h1, h2, h3, h4, h5, h6⟩
  · intro p2 e2 s2 m2 args2 below2 meth2 c2 s1 B hml hP hK
    obtain ⟨rfl, hheap, hvm⟩ := hP
    have hts := atoms_spec (ws := tw_tbl) B.pre
    have hFin := mj_F_in hH hS hX.2.2.2.2.2.2.2.2.2.2.2.1
    have hal : s.vm.Alike s2.vm := by rw [hvm]; exact hW.alike
    have hH2 : mj_Hp D (mj_F A.1 ad T.heap.size) ad cy A.1 s2 s2.heap := by
      refine ⟨by rw [hheap]; exact hH.1, ⟨hH.2.1.1, fun k q hq => ?_⟩, va_K.moved hal hH.2.2.1, fun k q hq => ?_, hH.2.2.2.2⟩
      · have hlt : k < A.1.length := by
          have := (List.getElem?_eq_some_iff.mp hq).1
          rw [mj_W_len] at this; exact this
        have := mj_W_get (ad := ad) (cy := cy) (List.getElem?_eq_getElem hlt)
        rw [this] at hq
        cases hq
        exact Or.inl ⟨k, hlt, rfl⟩
      · exact (va_K.moved hal (mj_K1 hH hq)).2 0 _ rfl
    have hh0 : s1.heap = s2.heap := by rw [B.state]; rfl
    obtain ⟨meth9, c9, g1, g2, -, -, -, -, g7, -⟩ := mj_cw_spec hcw hts B.named
    cases B.method.symm.trans g1
    cases (Stand.of_body B).code.symm.trans g2
    have hXc : mj_X y' cc' nL' rt' hh' d p2 e2 { frames := d, cells := R.cells - cells, slots := R.slots - slots, locals := 41 * d } s2 m2 (As.map (mj_v ad)).toArray meth2 c2 (mj_F A.1 ad T.heap.size) A.2.1 A.2.2 := by
      refine ⟨B.exec, hK, B.bytes, hml, B.returns, B.notSynchronized, (name_of_methodNamed B.named B.method).1, findClass_of_methodNamed B.named, hts, g7, ⟨rfl, Nat.le_refl _, ?_, ?_⟩, fun q hq => Or.inr (by rw [← hheap]; exact hq), fun q cell hq hcell => ?_, ?_, ?_, va_Nc.moved hal hX.2.2.2.2.2.2.2.2.2.2.2.2.2.2.2⟩
      · have := hX.2.2.2.2.2.2.2.2.2.2.1.2.2.1
        show R.cells - cells + A.2.1 = 601024
        omega
      · have := hX.2.2.2.2.2.2.2.2.2.2.1.2.2.2
        show R.slots - slots + A.2.2 = 7293034
        omega
      · rcases hq with ⟨k, hk, rfl⟩ | h
        · obtain ⟨cell9, h1, h2⟩ := mj_plain hH2 hk
          rw [h1] at hcell
          cases hcell
          rw [h2]; rfl
        · rw [← hheap] at h
          rw [Array.getElem?_eq_none h] at hcell
          cases hcell
      · rw [hheap]
        exact mj_st_moved hX.2.2.2.2.2.2.2.2.2.2.2.2.2.1 hal (fun a h1 h2 => hS.2.1 a h1 h2) hFin
      · rw [hheap]
        exact mj_st_moved hX.2.2.2.2.2.2.2.2.2.2.2.2.2.2.1 hal (fun a h1 h2 => hS.2.1 a h1 h2) hFin
    have hl := lv_entry (As.map (mj_v ad)) (n := nL') (by rw [mj_sl]; exact hsl)
    rw [mj_args] at hl
    rw [lg_entry_eq]
    generalize (lg_sl (As.map (mj_v ad)) ++ List.replicate (nL' - (lg_sl (As.map (mj_v ad))).length) Slot.unset).toArray = lsC at hl ⊢
    have K := hG p2 l e2 _ s2 m2 (As.map (mj_v ad)).toArray below2 meth2 c2 s2.heap [] 0 0 (mj_F A.1 ad T.heap.size) A.2.1 A.2.2 D ad ad cy A.1.length lsC hXc trivial hH2 (fun _ _ => rfl) (Nat.le_refl _) va_S.rf ⟨rfl, hc.2⟩ ⟨rfl, hs.2⟩ hl
    obtain ⟨t, a1, o, b1, b2, b3⟩ := K s1 hh0 (Stand.of_body B)
    exact ⟨t, o, a1, b1, b2, b3⟩
end GC
end
section
section GC2
variable {p : Program} {l : Launch} {e : Env} {R : Room} {s : State} {m : MethodId} {args : Array Value} {below : List Frame} {meth : Method} {c : Code} {T : State} {locs : List Loc} {cells slots : Nat} {F : Nat → Prop} {nc ns : Nat} {D : va_G} {ad : Nat → Nat} {cy : Nat → ClassId} {A : mj_H}
variable {y : MethodName} {cc : ByteArray} {nL : Nat} {rt : Option FieldType} {hh : List (Nat × Nat × Nat × Nat)} {d : Nat}
variable {y' : MethodName} {cc' : ByteArray} {nL' : Nat} {rt' : Option FieldType} {hh' : List (Nat × Nat × Nat × Nat)} {As : List Value} {post' : mj_O → mj_H → Prop}
def mj_Af (p : Program) (l : Launch) (e : Env) (R : Room) (s : State) (m : MethodId) (args : Array Value) (below : List Frame) (meth : Method) (c : Code) (F : Nat → Prop) (D : va_G) (nc ns : Nat) (ad : Nat → Nat) (n0 : Nat) (post' : mj_O → mj_H → Prop) (S0 : State) (g : JFrame) (len : Nat) : Prop :=
  ∃ (o : Outcome) (U : State) (L : List Loc) (k n : Nat) (out : mj_O) (A' : mj_H) (ad' : Nat → Nat) (cy' : Nat → ClassId),
    Stand p l e R s m args below meth c U L k n ∧ post' out A' ∧ mj_out s ad' out o U ∧ mj_Hp D F ad' cy' A'.1 s U.heap ∧ mj_Ext ad' ad n0 A'.1.length ∧ n0 ≤ A'.1.length ∧ va_S F s.heap U.heap L ∧ (A'.2.1 = nc + k ∧ A'.2.1 ≤ 601024) ∧ (A'.2.2 = ns + n ∧ A'.2.2 ≤ 7293034) ∧
    (∀ v, o = .returned v → Steps p.tables e below S0 (U.setTop { g with pc := g.pc + len, stack := v.toList ++ g.stack })) ∧
    (∀ x, o = .threw x → Steps p.tables e below S0 ((U.setTop g).pushFrame (.throwing x)))
theorem mj_inv (X : Stand p l e R s m args below meth c T locs cells slots) (hX : mj_X y cc nL rt hh (d + 1) p e R s m args meth c F nc ns) (hH : mj_Hp D F ad cy A.1 s T.heap) (hS : va_S F s.heap T.heap locs) (hc : A.2.1 = nc + cells ∧ A.2.1 ≤ 601024) (hs : A.2.2 = ns + slots ∧ A.2.2 ≤ 7293034)
    (hcw : mj_cw y' cc' nL' rt' hh') (hini : Cond.initialized y'.cls ∈ tw_tbl) (hpl : plainName y'.cls = true) (hsl : (lg_sl As).length ≤ nL') (hG : mj_G y' cc' nL' rt' hh' d none 0 (lv_args 0 As) [] A post')
    {g : JFrame} {ig : Instr} {len : Nat} (hg : g.method = m) (hsize : g.locals.size = c.maxLocals) (hdg : decode c.code g.pc = .ok (ig, len)) (hw : 2 * g.monitorRoom + (g.stack.map fun v => v.category).sum + (nL' + 11) ≤ 41) {mk : MethodId} (hn : T.methodNamed? y' = some mk) :
    mj_Af p l e R s m args below meth c F D nc ns ad A.1.length post' (doInvoke e (T.setTop g) [] mk (As.map (mj_v ad)).toArray).1 g len := by
  have hM := mj_met (l := l) hX X.warmed hH hS hc hs hcw hpl hsl hG
  have htsT : ∀ w ∈ tw_tbl, ∀ a', w.before a' T = true := fun w h a' => tw_moved X.warmed (tw_in h) (hX.2.2.2.2.2.2.2.2.1 w h)
  obtain ⟨methY, cY, hmY, hcY, -, hlY, -⟩ := mj_cw_spec hcw (fun w h => htsT w h #[]) hn
  obtain ⟨kY, hkY, -⟩ := className_of_methodNamed hn
  have hinitY : kY.init = .initialized := Cond.initialized_spec (args := #[]) (findClass_of_methodNamed hn) hkY (htsT _ hini #[])
  have h : At T g.method c below := by rw [hg]; exact X.here
  have hroom := hX.2.2.2.2.2.2.2.2.2.2.1
  have happ : (headSpec tw_tbl { frames := d, cells := R.cells - cells, slots := R.slots - slots, locals := 41 * d }).appliesLoose y' e.platform (T.calling g mk (As.map (mj_v ad)).toArray) = true := by
    refine Spec.appliesLoose_calling (g := g) h hdg hn hkY hinitY (X.room_calling (g := g) (R' := { frames := d, cells := R.cells - cells, slots := R.slots - slots, locals := 41 * d }) hsize hmY hcY ?_ ?_ ?_ ?_) (atoms_intro (fun w hw => htsT w hw _))
    · show d + 1 ≤ R.frames; rw [hroom.1]; exact Nat.le_refl _
    · show 2 * g.monitorRoom + (g.stack.map fun v => v.category).sum + (cY.maxLocals + 11) + 41 * d ≤ R.locals
      rw [hlY]; have := hroom.2.1; omega
    · show cells + (R.cells - cells) ≤ R.cells; have := hroom.2.2.1; omega
    · show slots + (R.slots - slots) ≤ R.slots; have := hroom.2.2.2; omega
  obtain ⟨mid, hmid⟩ := h.above
  have hfr : (T.setTop g).frames = (.java g :: mid) ++ below := by rw [State.frames_setTop' g h.top, hmid]; rfl
  obtain ⟨o, s₂, hsteps, -, hend, hq⟩ := Steps.callFree hM p X.admits X.cas X.clock (acts := []) hfr happ ⟨rfl, rfl, rfl⟩ hX.2.1
  rw [State.frames_setTop' g h.top] at hend
  obtain ⟨out, A', ad', cy', k, n, L, q1, q2, q3, q4, q5, q6, q7, q8, hW₂, e2, p2, p3, p4, p5, p6⟩ := hq
  have e3 : s₂ = ({ (T.calling g mk (As.map (mj_v ad)).toArray).setFrames s₂.frames with heap := s₂.heap, slotsUsed := s₂.slotsUsed } : State).setVm s₂.vm := by
    have : s₂ = ({ s₂ with vm := (T.calling g mk (As.map (mj_v ad)).toArray).vm } : State).setVm s₂.vm := rfl
    rw [show ({ s₂ with vm := (T.calling g mk (As.map (mj_v ad)).toArray).vm } : State) = _ from e2] at this
    exact this
  have hW' : T.WarmedH s₂.vm := hW₂
  obtain ⟨g₀, hg0⟩ := Option.isSome_iff_exists.mp h.top
  obtain ⟨r, hr⟩ := State.topJava?_eq_some.mp hg0
  have hsame : T.sameButNew ({ T with heap := s₂.heap, slotsUsed := s₂.slotsUsed } : State) L k n := by
    refine ⟨?_, p2, p3, p4, p5, p6⟩
    obtain ⟨t, ht, -⟩ := State.frames_cons hr
    show ({ T with heap := s₂.heap, slotsUsed := s₂.slotsUsed } : State) = { T.setFrames T.frames with heap := s₂.heap, slotsUsed := s₂.slotsUsed }
    rw [State.setFrames_self ht]
  have hFin := mj_F_in hH hS hX.2.2.2.2.2.2.2.2.2.2.2.1
  have hal : T.vm.Alike s.vm := X.warmed.alike.symm
  refine ⟨o, (({ T with heap := s₂.heap, slotsUsed := s₂.slotsUsed } : State).setVm s₂.vm), locs ++ L, cells + k, slots + n, out, A', ad', cy', ?_, q1, ?_, ?_, q4, q5, ?_, ?_, ?_, ?_, ?_⟩
  · subst hg
    exact ⟨X.admits, X.cas, X.clock, X.frames, X.room, X.hears, X.method, X.code, (X.here.setHeapUsed s₂.heap s₂.slotsUsed).setVm hW'.alike, X.tail, State.WarmedH.trans X.warmed hW', X.limits, X.bytes, X.same.trans (hsame.setVm s.vm)⟩
  · rcases out with v | C
    · exact q2
    · obtain ⟨x, cell, r1, r2, r3, r4⟩ := q2
      refine ⟨x, cell, r1, r2, r3, ?_⟩
      have r4' : T.vm.findClass (mj_ex C) = some cell.cls := r4
      rw [← hal.findClass] at r4'
      exact r4'
  · refine ⟨q3.1, ⟨q3.2.1.1, fun k q hk => hFin _ (q3.2.1.2 k q hk)⟩, ?_, fun k q hk => ?_, q3.2.2.2.2⟩
    · exact va_K.moved (u := T.calling g mk (As.map (mj_v ad)).toArray) hal q3.2.2.1
    · exact (va_K.moved (u := T.calling g mk (As.map (mj_v ad)).toArray) (U := s) hal (mj_K1 q3 hk)).2 0 _ rfl
  · refine ⟨Nat.le_trans hS.1 q6.1, fun q h1 h2 => ?_, fun z hz => ?_⟩
    · exact (q6.2.1 q (Nat.lt_of_lt_of_le h1 hS.1) (fun h9 => h2 (hFin q h9))).trans (hS.2.1 q h1 h2)
    · rcases List.mem_append.mp hz with h9 | h9
      · exact hS.2.2 z h9
      · exact hFin _ (q6.2.2 z h9)
  · exact ⟨by rw [q7.1, hc.1]; omega, q7.2⟩
  · exact ⟨by rw [q8.1, hs.1]; omega, q8.2⟩
  · intro v hv
    subst hv
    obtain ⟨c₂, i₂, len₂, hc₂, hd₂, hf₂⟩ := hend
    have hcc : c₂ = c := by
      have h1 : s₂.code? g.method = T.code? g.method := by
        rw [State.code?_eq, State.code?_eq, hW'.alike.method?]
      exact Option.some.inj (hc₂.symm.trans (h1.trans h.code))
    subst hcc
    have hlen : len₂ = len := by rw [hdg] at hd₂; cases hd₂; rfl
    subst hlen
    have hs₂ : s₂ = (({ T with heap := s₂.heap, slotsUsed := s₂.slotsUsed } : State).setVm s₂.vm).setTop { g with pc := g.pc + len₂, stack := v.toList ++ g.stack } := by
      have hr' : (({ T with heap := s₂.heap, slotsUsed := s₂.slotsUsed } : State).setVm s₂.vm).frames = .java g₀ :: r := hr
      refine e3.trans ?_
      rw [hf₂, State.calling_eq h.top, State.setFrames_setFrames, State.setTop_of_frames _ hr', hr]
      rfl
    rw [← hs₂]
    exact hsteps
  · intro x hx
    subst hx
    have hf₂ : s₂.frames = .throwing x :: .java g :: T.frames.tail := hend
    have hs₂ : s₂ = ((({ T with heap := s₂.heap, slotsUsed := s₂.slotsUsed } : State).setVm s₂.vm).setTop g).pushFrame (.throwing x) := by
      have hr' : (({ T with heap := s₂.heap, slotsUsed := s₂.slotsUsed } : State).setVm s₂.vm).frames = .java g₀ :: r := hr
      refine e3.trans ?_
      rw [hf₂, State.calling_eq h.top, State.setFrames_setFrames, State.setTop_of_frames _ hr', hr, State.pushFrame, State.setFrames_setFrames]
      have hfr9 : ((({ T with heap := s₂.heap, slotsUsed := s₂.slotsUsed } : State).setVm s₂.vm).setFrames (.java g :: r)).frames = .java g :: r := State.frames_setFrames _ (State.cur_lt_of_frames hr')
      rw [hfr9]
      rfl
    rw [← hs₂]
    exact hsteps
end GC2
end
section
/-! the rules of calls -/
section GC3
variable {p : Program} {l : Launch} {e : Env} {R : Room} {s : State} {m : MethodId} {args : Array Value} {below : List Frame} {meth : Method} {c : Code} {locs : List Loc} {cells slots : Nat} {F : Nat → Prop} {nc ns : Nat} {D : va_G} {ad ad0 : Nat → Nat} {cy : Nat → ClassId} {n0 : Nat} {lsC : Array Slot}
variable {y : MethodName} {cc : ByteArray} {nL : Nat} {rt : Option FieldType} {hh : List (Nat × Nat × Nat × Nat)} {d : Nat} {sc : Option (Nat × (Nat → Int32))} {pc : Nat} {ls : List (Nat × Value)} {st : List Value} {A : mj_H} {post : mj_O → mj_H → Prop}
variable {y' : MethodName} {cc' : ByteArray} {nL' : Nat} {rt' : Option FieldType} {hh' : List (Nat × Nat × Nat × Nat)} {As : List Value} {post' : mj_O → mj_H → Prop}
/-- no handler stands over pc -/
def mj_nh (hh : List (Nat × Nat × Nat × Nat)) (pc : Nat) : Bool := hh.all (fun h => !(decide (h.1 ≤ pc) && decide (pc < h.2.1)))
theorem mj_nh_out {hh : List (Nat × Nat × Nat × Nat)} {pc : Nat} {c : Code} (h : mj_nh hh pc = true) (ht : c.exceptionTable.toList.map (fun h => (h.startPc, h.endPc, h.handlerPc, h.catchType)) = hh) : ∀ x ∈ c.exceptionTable.toList, covers x pc = false := by
  intro x hx
  have h1 := List.all_eq_true.mp h (x.startPc, x.endPc, x.handlerPc, x.catchType) (by rw [← ht]; exact List.mem_map.mpr ⟨x, hx, rfl⟩)
  simp only [Bool.not_eq_true'] at h1
  exact h1
/-- what stands behind a call whose callee makes no cell that is kept -/
theorem mj_after {S0 : State} (hX : mj_X y cc nL rt hh d p e R s m args meth c F nc ns) (hZ : mj_Z sc ad F s) (hE : mj_Ext ad ad0 n0 A.1.length) (hn : n0 ≤ A.1.length) (hl : lv_has lsC nL (mj_ls ad ls))
    (hlen : ∀ out A', post' out A' → A'.1.length = A.1.length)
    (h : mj_Af p l e R s m args below meth c F D nc ns ad A.1.length post' S0 (F0 m pc lsC (st.map (mj_v ad))) 3)
    (kr : ∀ v A', post' (.inl v) A' → mj_G y cc nL rt hh d sc (pc + 3) ls (v.toList ++ st) A' post)
    (kt : ∀ C A', post' (.inr C) A' → mj_nh hh pc = true ∧ post (.inr C) A') : ∃ t, Steps p.tables e below S0 t ∧ mj_end below s F D ad0 n0 nc ns post t := by
  obtain ⟨o, U, L, k, n, out, A', ad', cy', X', q1, q2, q3, q4, q5, q6, q7, q8, q9, q10⟩ := h
  have hl' := hlen out A' q1
  have he : ad' = ad := funext fun j => q4 j (by rw [hl']; exact Nat.lt_or_ge j _)
  subst he
  have hE' : mj_Ext ad' ad0 n0 A'.1.length := by rw [hl']; exact hE
  have hn' : n0 ≤ A'.1.length := by rw [hl']; exact hn
  rcases out with v | C
  · have ho : o = .returned (v.map (mj_v ad')) := q2
    have hst := q9 _ ho
    obtain ⟨t, a1, b1⟩ := kr v A' q1 p l e R s m args below meth c U.heap L k n F nc ns D ad' ad0 cy' n0 lsC hX hZ q3 hE' hn' q6 q7 q8 hl U rfl X'
    refine ⟨t, hst.trans ?_, b1⟩
    have e1 : ({ F0 m pc lsC (st.map (mj_v ad')) with pc := pc + 3, stack := (v.map (mj_v ad')).toList ++ st.map (mj_v ad') } : JFrame) = F0 m (pc + 3) lsC ((v.toList ++ st).map (mj_v ad')) := by
      cases v <;> rfl
    rw [← e1] at a1
    exact a1
  · obtain ⟨x, cell, r1, r2, r3, r4⟩ := q2
    have hst := q10 x r1
    obtain ⟨k1, k2⟩ := kt C A' q1
    obtain ⟨w1, w2, w3, w4, w5⟩ := X'.leaveThrown x (g := F0 m pc lsC (st.map (mj_v ad'))) rfl rfl rfl (mj_nh_out k1 hX.2.2.2.2.2.2.2.2.2.1) (hlocks := hX.2.2.2.2.2.1)
    exact ⟨_, hst.trans w1, .threw x, w2, w3, .inr C, A', ad', cy', k, n, L, k2, ⟨x, cell, rfl, r2, r3, r4⟩, q3, hE', hn', q6, q7, q8, w4, w5⟩
def mj_cv (own : String) (index : Nat) (y' : MethodName) (ci : Nat) : Prop := (Cond.methodLink own index y' ∈ tw_tbl ∨ ∃ host, Cond.methodLinkNest own index y' host ∈ tw_tbl) ∧ Cond.instanceMethod y' ∈ tw_tbl ∧ Cond.selects y'.cls y' y' ∈ tw_tbl ∧ Cond.initialized y'.cls ∈ tw_tbl ∧ (∃ (T : u_T) (N : Nat), mj_cl[ci]? = some (y'.cls, T, N)) ∧ (y'.cls ≠ "java/lang/invoke/MethodHandle" ∧ y'.cls ≠ "java/lang/invoke/VarHandle") ∧ plainName y'.cls = true
theorem G_callv {index ci b : Nat} {fs : List Value} (hd : decode cc pc = .ok (.invokevirtual index, 3)) (hcv : mj_cv y.cls index y' ci) (hcw : mj_cw y' cc' nL' rt' hh') (hb : A.1[b]? = some (.inr (ci, fs))) (hn1 : (parseMethodDescriptor y'.desc).map (fun d => d.parameters.length) = some As.length) (hsl : (lg_sl (.ref b :: As)).length ≤ nL') (hw : (st.map fun v => v.category).sum + (nL' + 11) ≤ 41)
    (hG : mj_G y' cc' nL' rt' hh' d none 0 (lv_args 0 (.ref b :: As)) [] A post') (hlen : ∀ out A', post' out A' → A'.1.length = A.1.length)
    (kr : ∀ v A', post' (.inl v) A' → mj_G y cc nL rt hh (d + 1) sc (pc + 3) ls (v.toList ++ st) A' post) (kt : ∀ C A', post' (.inr C) A' → mj_nh hh pc = true ∧ post (.inr C) A') :
    mj_G y cc nL rt hh (d + 1) sc pc ls (As.reverse ++ .ref b :: st) A post := by
  intro p l e R s m args below meth c H locs cells slots F nc ns D ad ad0 cy n0 lsC hX hZ hH hE hn hS hc hs hl
  obtain ⟨w1, w2, w3, w4, ⟨T0, N0, w5⟩, w6, w7⟩ := hcv
  have hts := hX.2.2.2.2.2.2.2.2.1
  obtain ⟨cellB, hcB, hoB, hclB⟩ := va_recv hH.2.2.1 hH.1 (ci := ci) (q0 := b) w5 (mj_W_get hb)
  intro T hT X
  obtain ⟨mk, methM, hnamed, hmethM, hstM, habM⟩ := Cond.instanceMethod_spec (hts _ w2)
  obtain ⟨methM', cM, hmethM', -, -, -, -, -, -, hsigM⟩ := mj_cw_spec hcw hts hnamed
  cases hmethM.symm.trans hmethM'
  obtain ⟨c2, r2, m2, q1, q2, q3, q4, kP, hkP, hkPi⟩ := Cond.selects_spec (hts _ w3)
  cases hclB.symm.trans q1
  cases (State.methodFound?_of_named hnamed w6).symm.trans q2
  cases hnamed.symm.trans q3
  have hselP : selectMethod e.platform s.vm cellB.cls mk = .method mk := by rw [Launch.admits_selectMethod X.admits]; exact q4
  have hlenA : (As.map (mj_v ad)).length = methM.sig.parameters.length := by
    rw [hsigM] at hn1
    rw [List.length_map]
    exact (Option.some.inj hn1).symm
  have hstk : (F0 m pc lsC ((As.reverse ++ .ref b :: st).map (mj_v ad))).stack = (As.map (mj_v ad)).reverse ++ .ref (ad b) :: st.map (mj_v ad) := by
    show (As.reverse ++ .ref b :: st).map (mj_v ad) = _
    rw [List.map_append, List.map_reverse]; rfl
  have hstep : ∃ (vm₁ : Vm), Stand p l e R s m args below meth c (T.setVm vm₁) locs cells slots ∧ ∀ target, (∀ acts, Steps p.tables e below (doInvoke e ((T.setVm vm₁).setTop (F0 m pc lsC (st.map (mj_v ad)))) acts mk (((.ref b :: As).map (mj_v ad)).toArray)).1 target) → Steps p.tables e below (T.setTop (F0 m pc lsC ((As.reverse ++ .ref b :: st).map (mj_v ad)))) target := by
    rcases w1 with w1 | ⟨host, w1⟩
    · obtain ⟨vm₁, X₁, hstep₁⟩ := X.invokevirtual hX.1 hX.2.2.2.2.2.2.2.1 (hts _ w1) hnamed hmethM hstM hkP hkPi w6 (a := ad b) (cell := cellB) (by rw [hT]; exact hcB)
        (fun z h => by rw [h] at hoB; cases hoB) hselP hmethM habM hkP hkPi (g := F0 m pc lsC ((As.reverse ++ .ref b :: st).map (mj_v ad))) rfl (argsL := As.map (mj_v ad)) (rest := st.map (mj_v ad)) hlenA hstk (by rw [hX.2.2.1]; exact hd)
      exact ⟨vm₁, X₁, hstep₁⟩
    · obtain ⟨vm₁, X₁, hstep₁⟩ := X.invokevirtualNest hX.1 hX.2.2.2.2.2.2.2.1 (hts _ w1) hnamed hmethM hstM hkP hkPi w6 (a := ad b) (cell := cellB) (by rw [hT]; exact hcB)
        (fun z h => by rw [h] at hoB; cases hoB) hselP hmethM habM hkP hkPi (g := F0 m pc lsC ((As.reverse ++ .ref b :: st).map (mj_v ad))) rfl (argsL := As.map (mj_v ad)) (rest := st.map (mj_v ad)) hlenA hstk (by rw [hX.2.2.1]; exact hd)
      exact ⟨vm₁, X₁, hstep₁⟩
  obtain ⟨vm₁, X₁, hstep₁⟩ := hstep
  have hAf := mj_inv (T := T.setVm vm₁) (As := .ref b :: As) X₁ hX (by show mj_Hp D F ad cy A.1 s T.heap; rw [hT]; exact hH) (by show va_S F s.heap T.heap locs; rw [hT]; exact hS) hc hs hcw w4 w7 hsl hG (g := F0 m pc lsC (st.map (mj_v ad))) rfl (by rw [hX.2.2.2.1]; exact hl.1) (by rw [hX.2.2.1]; exact hd)
    (by show 2 * 0 + ((st.map (mj_v ad)).map fun v => v.category).sum + (nL' + 11) ≤ 41; rw [List.map_map]; have : ((fun v : Value => v.category) ∘ mj_v ad) = fun v => v.category := funext (mj_cat ad); rw [this]; omega) (X₁.named hnamed)
  obtain ⟨t, a1, b1⟩ := mj_after (ls := ls) (sc := sc) hX hZ hE hn hl hlen hAf kr kt
  exact ⟨t, hstep₁ t (fun acts => by rw [doInvoke_state]; exact a1), b1⟩
def mj_cs (own : String) (index : Nat) (y' : MethodName) : Prop := Cond.methodLink own index y' ∈ tw_tbl ∧ Cond.static y' ∈ tw_tbl ∧ Cond.initialized y'.cls ∈ tw_tbl ∧ (y'.cls ≠ "java/lang/invoke/MethodHandle" ∧ y'.cls ≠ "java/lang/invoke/VarHandle") ∧ plainName y'.cls = true
theorem G_calls {index : Nat} (hd : decode cc pc = .ok (.invokestatic index, 3)) (hcs : mj_cs y.cls index y') (hcw : mj_cw y' cc' nL' rt' hh') (hn1 : (parseMethodDescriptor y'.desc).map (fun d => d.parameters.length) = some As.length) (hsl : (lg_sl As).length ≤ nL') (hw : (st.map fun v => v.category).sum + (nL' + 11) ≤ 41)
    (hG : mj_G y' cc' nL' rt' hh' d none 0 (lv_args 0 As) [] A post') (hlen : ∀ out A', post' out A' → A'.1.length = A.1.length)
    (kr : ∀ v A', post' (.inl v) A' → mj_G y cc nL rt hh (d + 1) sc (pc + 3) ls (v.toList ++ st) A' post) (kt : ∀ C A', post' (.inr C) A' → mj_nh hh pc = true ∧ post (.inr C) A') :
    mj_G y cc nL rt hh (d + 1) sc pc ls (As.reverse ++ st) A post := by
  intro p l e R s m args below meth c H locs cells slots F nc ns D ad ad0 cy n0 lsC hX hZ hH hE hn hS hc hs hl
  obtain ⟨w1, w2, w4, w6, w7⟩ := hcs
  have hts := hX.2.2.2.2.2.2.2.2.1
  intro T hT X
  have hnm : ∃ mk, s.methodNamed? y' = some mk := by
    rcases hcw with ⟨h, -⟩ | h
    · exact Cond.code_named (hts _ h)
    · obtain ⟨m9, meth9, c9, hn9, -⟩ := Cond.codeWith_spec (hts _ h)
      exact ⟨m9, hn9⟩
  obtain ⟨mk, hnamed⟩ := hnm
  obtain ⟨methM, cM, hmethM, -, -, -, -, -, -, hsigM⟩ := mj_cw_spec hcw hts hnamed
  have hstatic : methM.isStatic = true := Cond.static_spec hnamed hmethM (hts _ w2)
  obtain ⟨kP, hkP, -⟩ := className_of_methodNamed hnamed
  have hinitP : kP.init = .initialized := Cond.initialized_spec (findClass_of_methodNamed hnamed) hkP (hts _ w4)
  have hlenA : (As.map (mj_v ad)).length = methM.sig.parameters.length := by
    rw [hsigM] at hn1
    rw [List.length_map]
    exact (Option.some.inj hn1).symm
  have hstk : (F0 m pc lsC ((As.reverse ++ st).map (mj_v ad))).stack = (As.map (mj_v ad)).reverse ++ st.map (mj_v ad) := by
    show (As.reverse ++ st).map (mj_v ad) = _
    rw [List.map_append, List.map_reverse]
  obtain ⟨vm₁, X₁, hstep₁⟩ := X.invokestatic hX.1 hX.2.2.2.2.2.2.2.1 (hts _ w1) hnamed hmethM hstatic hkP hinitP w6 (g := F0 m pc lsC ((As.reverse ++ st).map (mj_v ad))) rfl (argsL := As.map (mj_v ad)) (rest := st.map (mj_v ad)) hlenA hstk (by rw [hX.2.2.1]; exact hd)
  have hAf := mj_inv (T := T.setVm vm₁) (As := As) X₁ hX (by show mj_Hp D F ad cy A.1 s T.heap; rw [hT]; exact hH) (by show va_S F s.heap T.heap locs; rw [hT]; exact hS) hc hs hcw w4 w7 hsl hG (g := F0 m pc lsC (st.map (mj_v ad))) rfl (by rw [hX.2.2.2.1]; exact hl.1) (by rw [hX.2.2.1]; exact hd)
    (by show 2 * 0 + ((st.map (mj_v ad)).map fun v => v.category).sum + (nL' + 11) ≤ 41; rw [List.map_map]; have : ((fun v : Value => v.category) ∘ mj_v ad) = fun v => v.category := funext (mj_cat ad); rw [this]; omega) (X₁.named hnamed)
  obtain ⟨t, a1, b1⟩ := mj_after (ls := ls) (sc := sc) hX hZ hE hn hl hlen hAf kr kt
  exact ⟨t, hstep₁ t (fun acts => by rw [doInvoke_state]; exact a1), b1⟩
/-- a reference that a caller keeps over a call that makes cells -/
def mj_bd (n : Nat) (v : Value) : Bool := match v with
  | .ref j => decide (j < n) || decide (j = 1000000)
  | _ => true
theorem mj_bd_ext {ad ad' : Nat → Nat} {n n1 : Nat} {v : Value} (h : mj_bd n v = true) (he : mj_Ext ad' ad n n1) (h1 : n1 ≤ 1000000) : mj_v ad' v = mj_v ad v := by
  cases v with
  | ref j =>
    show Value.ref (ad' j) = Value.ref (ad j)
    have : j < n ∨ n1 ≤ j := by
      simp only [mj_bd, Bool.or_eq_true, decide_eq_true_eq] at h
      rcases h with h | h
      · exact Or.inl h
      · exact Or.inr (by rw [h]; exact h1)
    rw [he j this]
  | _ => rfl
/-- behind a constructor that makes cells and returns -/
theorem mj_afterN {S0 : State} (hX : mj_X y cc nL rt hh d p e R s m args meth c F nc ns) (hZ : mj_Z sc ad F s) (hE : mj_Ext ad ad0 n0 A.1.length) (hn : n0 ≤ A.1.length) (hl : lv_has lsC nL (mj_ls ad ls))
    (hlen : ∀ out A', post' out A' → A'.1.length ≤ 1000000 ∧ ∃ v, out = .inl v) (hbl : ls.all (fun q => mj_bd A.1.length q.2) = true) (hbs : st.all (mj_bd A.1.length) = true)
    (h : mj_Af p l e R s m args below meth c F D nc ns ad A.1.length post' S0 (F0 m pc lsC (st.map (mj_v ad))) 3)
    (kr : ∀ v A', post' (.inl v) A' → mj_G y cc nL rt hh d sc (pc + 3) ls (v.toList ++ st) A' post) : ∃ t, Steps p.tables e below S0 t ∧ mj_end below s F D ad0 n0 nc ns post t := by
  obtain ⟨o, U, L, k, n, out, A', ad', cy', X', q1, q2, q3, q4, q5, q6, q7, q8, q9, q10⟩ := h
  obtain ⟨hmil, v, rfl⟩ := hlen out A' q1
  have hE' : mj_Ext ad' ad0 n0 A'.1.length := by
    intro j hj
    have : j < A.1.length ∨ A'.1.length ≤ j := by omega
    rw [q4 j this]
    exact hE j (by omega)
  have hn' : n0 ≤ A'.1.length := Nat.le_trans hn q5
  have hes : st.map (mj_v ad') = st.map (mj_v ad) := List.map_congr_left (fun v hv => mj_bd_ext (List.all_eq_true.mp hbs v hv) q4 hmil)
  have hel : mj_ls ad' ls = mj_ls ad ls := by
    unfold mj_ls
    exact List.map_congr_left (fun q hq => by rw [mj_bd_ext (List.all_eq_true.mp hbl q hq) q4 hmil])
  have hZ' : mj_Z sc ad' F s := by
    cases sc with
    | none => trivial
    | some q =>
      have e9 : ad' 1000000 = ad 1000000 := q4 1000000 (Or.inr hmil)
      show va_X (ad' 1000000) q.1 q.2 s s.heap ∧ ad' 1000000 < s.heap.size ∧ ¬ F (ad' 1000000)
      rw [e9]; exact hZ
  have ho : o = .returned (v.map (mj_v ad')) := q2
  have hst := q9 _ ho
  obtain ⟨t, a1, b1⟩ := kr v A' q1 p l e R s m args below meth c U.heap L k n F nc ns D ad' ad0 cy' n0 lsC hX hZ' q3 hE' hn' q6 q7 q8 (by rw [hel]; exact hl) U rfl X'
  refine ⟨t, hst.trans ?_, b1⟩
  have e1 : ({ F0 m pc lsC (st.map (mj_v ad)) with pc := pc + 3, stack := (v.map (mj_v ad')).toList ++ st.map (mj_v ad) } : JFrame) = F0 m (pc + 3) lsC ((v.toList ++ st).map (mj_v ad')) := by
    rw [← hes]
    cases v <;> rfl
  rw [← e1] at a1
  exact a1
def mj_ci (own : String) (index : Nat) (y' : MethodName) : Prop := (Cond.methodLink own index y' ∈ tw_tbl ∨ ∃ host, Cond.methodLinkNest own index y' host ∈ tw_tbl) ∧ Cond.instanceMethod y' ∈ tw_tbl ∧ Cond.initialized y'.cls ∈ tw_tbl ∧ (y'.cls ≠ "java/lang/invoke/MethodHandle" ∧ y'.cls ≠ "java/lang/invoke/VarHandle") ∧ plainName y'.cls = true ∧ y'.name = "<init>"
theorem G_calli {index b : Nat} (hd : decode cc pc = .ok (.invokespecial index, 3)) (hci : mj_ci y.cls index y') (hcw : Cond.code y' cc' nL' none ∈ tw_tbl) (hn1 : (parseMethodDescriptor y'.desc).map (fun d => d.parameters.length) = some As.length) (hsl : (lg_sl (.ref b :: As)).length ≤ nL') (hw : (st.map fun v => v.category).sum + (nL' + 11) ≤ 41)
    (hG : mj_G y' cc' nL' none [] d none 0 (lv_args 0 (.ref b :: As)) [] A post') (hlen : ∀ out A', post' out A' → A'.1.length ≤ 1000000 ∧ ∃ v, out = .inl v) (hbl : ls.all (fun q => mj_bd A.1.length q.2) = true) (hbs : st.all (mj_bd A.1.length) = true)
    (kr : ∀ v A', post' (.inl v) A' → mj_G y cc nL rt hh (d + 1) sc (pc + 3) ls (v.toList ++ st) A' post) :
    mj_G y cc nL rt hh (d + 1) sc pc ls (As.reverse ++ .ref b :: st) A post := by
  intro p l e R s m args below meth c H locs cells slots F nc ns D ad ad0 cy n0 lsC hX hZ hH hE hn hS hc hs hl
  obtain ⟨w1, w2, w4, w6, w7, w8⟩ := hci
  have hts := hX.2.2.2.2.2.2.2.2.1
  intro T hT X
  have hpl : e.platform.magicAccessors = ({} : Platform).magicAccessors := by rw [X.admits.platform]
  have hlenA : ∀ sig, parseMethodDescriptor y'.desc = some sig → (As.map (mj_v ad)).length = sig.parameters.length := by
    intro sig h
    rw [h] at hn1
    rw [List.length_map]
    exact (Option.some.inj hn1).symm
  have hstk : (F0 m pc lsC ((As.reverse ++ .ref b :: st).map (mj_v ad))).stack = (As.map (mj_v ad)).reverse ++ .ref (ad b) :: st.map (mj_v ad) := by
    show (As.reverse ++ .ref b :: st).map (mj_v ad) = _
    rw [List.map_append, List.map_reverse]; rfl
  have hstep : ∃ (mk : MethodId) (vm₁ : Vm), s.methodNamed? y' = some mk ∧ s.WarmedH vm₁ ∧ ∀ target, (∀ acts, Steps p.tables e below (doInvoke e ((T.setVm vm₁).setTop (F0 m pc lsC (st.map (mj_v ad)))) acts mk (((.ref b :: As).map (mj_v ad)).toArray)).1 target) → Steps p.tables e below (T.setTop (F0 m pc lsC ((As.reverse ++ .ref b :: st).map (mj_v ad)))) target := by
    rcases w1 with w1 | ⟨host, w1⟩
    · obtain ⟨mk, methM, cM, kP, vm₁, hnamed, hmethM, hcodeM, -, hlocalsM, -, hkP, -, hW₁, hstep₁⟩ := Steps.initColdArgs (e := e) X.here hX.1 X.warmed hpl hX.2.2.2.2.2.2.2.1 w8 w6 (hts _ w1) (hts _ w2) (hts _ hcw) (f := F0 m pc lsC ((As.reverse ++ .ref b :: st).map (mj_v ad))) rfl hlenA hstk (by rw [hX.2.2.1]; exact hd)
      exact ⟨mk, vm₁, hnamed, hW₁, hstep₁⟩
    · obtain ⟨mk, methM, cM, kP, vm₁, hnamed, hmethM, hcodeM, -, hlocalsM, -, hkP, -, hW₁, hstep₁⟩ := Steps.initColdArgsNest (e := e) X.here hX.1 X.warmed hpl hX.2.2.2.2.2.2.2.1 w8 w6 (hts _ w1) (hts _ w2) (hts _ hcw) (f := F0 m pc lsC ((As.reverse ++ .ref b :: st).map (mj_v ad))) rfl hlenA hstk (by rw [hX.2.2.1]; exact hd)
      exact ⟨mk, vm₁, hnamed, hW₁, hstep₁⟩
  obtain ⟨mk, vm₁, hnamed, hW₁, hstep₁⟩ := hstep
  have X₁ := X.noted hW₁
  have hAf := mj_inv (T := T.setVm vm₁) (As := .ref b :: As) X₁ hX (by show mj_Hp D F ad cy A.1 s T.heap; rw [hT]; exact hH) (by show va_S F s.heap T.heap locs; rw [hT]; exact hS) hc hs (Or.inl ⟨hcw, rfl⟩) w4 w7 hsl hG (g := F0 m pc lsC (st.map (mj_v ad))) rfl (by rw [hX.2.2.2.1]; exact hl.1) (by rw [hX.2.2.1]; exact hd)
    (by show 2 * 0 + ((st.map (mj_v ad)).map fun v => v.category).sum + (nL' + 11) ≤ 41; rw [List.map_map]; have : ((fun v : Value => v.category) ∘ mj_v ad) = fun v => v.category := funext (mj_cat ad); rw [this]; omega) (X₁.named hnamed)
  obtain ⟨t, a1, b1⟩ := mj_afterN (ls := ls) (sc := sc) hX hZ hE hn hl hlen hbl hbs hAf kr
  exact ⟨t, hstep₁ t (fun acts => by rw [doInvoke_state]; exact a1), b1⟩
theorem G_obj {index b : Nat} (hd : decode cc pc = .ok (.invokespecial index, 3)) (hlk : Cond.methodLink y.cls index Lib.objectInit ∈ tw_tbl) (hw : (st.map fun v => v.category).sum + 12 ≤ 41) (k : mj_G y cc nL rt hh (d + 1) sc (pc + 3) ls st A post) : mj_G y cc nL rt hh (d + 1) sc pc ls (.ref b :: st) A post := by
  intro p l e R s m args below meth c H locs cells slots F nc ns D ad ad0 cy n0 lsC hX hZ hH hE hn hS hc hs hl
  have hts := hX.2.2.2.2.2.2.2.2.1
  have hroom := hX.2.2.2.2.2.2.2.2.2.2.1
  refine W.objInit (a := ad b) (rest := st.map (mj_v ad)) hX.1 hX.2.2.1 hX.2.2.2.2.2.2.2.1 (hts _ hlk) (hts (.instanceMethod Lib.objectInit) (by decide +kernel)) (hts (.code Lib.objectInit ⟨#[0xb1]⟩ 1 none) (by decide +kernel)) rfl (by rw [hX.2.2.2.1]; exact hl.1) rfl hd (by rw [hroom.1]; omega) ?_ ?_
  · show 2 * 0 + ((st.map (mj_v ad)).map fun v => v.category).sum + 12 ≤ R.locals
    rw [List.map_map]
    have : ((fun v : Value => v.category) ∘ mj_v ad) = fun v => v.category := funext (mj_cat ad)
    rw [this]
    have := hroom.2.1
    omega
  · exact k _ _ _ _ _ _ _ _ _ _ _ _ _ _ _ _ _ _ _ _ _ _ _ hX hZ hH hE hn hS hc hs hl
end GC3
end
section
/-! a throw statement: new, dup, ldc, the constructor, athrow -/
section GT
variable {p : Program} {l : Launch} {e : Env} {R : Room} {s : State} {m : MethodId} {args : Array Value} {below : List Frame} {meth : Method} {c : Code} {T : State} {locs : List Loc} {cells slots : Nat}
/-- the invocation seen as one that begins with the heap as it is now -/
theorem mj_rebase (X : Stand p l e R s m args below meth c T locs cells slots) (hc : cells ≤ R.cells) (hs : slots ≤ R.slots) :
    Stand p l e { frames := R.frames, cells := R.cells - cells, slots := R.slots - slots, locals := R.locals } (T.setFrames (.invoking m args :: below)) m args below meth c T [] 0 0 := by
  obtain ⟨g₀, hg0⟩ := Option.isSome_iff_exists.mp X.here.top
  obtain ⟨r, hr⟩ := State.topJava?_eq_some.mp hg0
  have hcur : T.cur < T.threads.size := State.cur_lt_of_frames hr
  have hf : (T.setFrames (.invoking m args :: below)).frames = .invoking m args :: below := State.frames_setFrames _ hcur
  obtain ⟨th, hth, -⟩ := State.frames_cons hr
  have hself : (T.setFrames (.invoking m args :: below)).setFrames T.frames = T := by rw [State.setFrames_setFrames, State.setFrames_self hth]
  have hcur' : (T.setFrames (.invoking m args :: below)).cur < (T.setFrames (.invoking m args :: below)).threads.size := State.cur_lt_of_frames hf
  obtain ⟨th', hth', -⟩ := State.frames_cons hf
  refine ⟨X.admits, X.cas, X.clock, hf, ?_, ?_, X.method', X.code, X.here, X.tail, State.WarmedH.refl _, ?_, ?_, ?_⟩
  · have h := X.room
    simp only [State.hasRoom, Bool.and_eq_true, decide_eq_true_eq] at h ⊢
    have e1 := State.localsInUse_invoking X.frames X.method X.code
    have e2 := State.localsInUse_invoking hf X.method' X.code
    rw [e1] at h
    rw [e2, hf, State.stackLimits_setFrames, State.stackBytes_setFrames, X.limits, X.bytes]
    rw [X.frames] at h
    have h1 := X.heapSize
    have h2 := X.used
    obtain ⟨⟨⟨⟨a1, a2⟩, a3⟩, a4⟩, a5⟩ := h
    refine ⟨⟨⟨⟨a1, a2⟩, ?_⟩, ?_⟩, X.book⟩
    · show T.heap.size + (R.cells - cells) ≤ _; omega
    · show T.slotsUsed + (R.slots - slots) ≤ _; omega
  · have h := X.hears
    have hal := X.warmed.alike
    cases below with
    | nil =>
      simp only [State.hears] at h ⊢
      rw [show (T.setFrames (.invoking m args :: [])).vm.method? m = s.vm.method? m from hal.method? m]
      exact h
    | cons f r9 =>
      cases f with
      | java g9 =>
        simp only [State.hears] at h ⊢
        rw [State.code?_eq] at h ⊢
        rw [show (T.setFrames (.invoking m args :: .java g9 :: r9)).vm.method? g9.method = s.vm.method? g9.method from hal.method? g9.method]
        exact h
      | native g9 => rfl
      | proc g9 => rfl
      | _ =>
        simp only [State.hears] at h ⊢
        rw [show (T.setFrames _).vm.method? m = s.vm.method? m from hal.method? m]
        exact h
  · rw [State.stackLimits_setFrames]
  · rw [State.stackBytes_setFrames]
  · have h := (State.sameButNew.refl (T.setFrames (.invoking m args :: below)) hth').setFrames T.frames hcur'
    rw [hself] at h
    exact h
end GT
end
section
def mj_up : List String := ["java/lang/RuntimeException", "java/lang/Exception"]
def mj_sp : List Cond := [.laysStatic Bundle.tN "UNASSIGNED_STACK" Bundle.steD, .laysStatic Bundle.tN "SUPPRESSED_SENTINEL" Bundle.listD, .isRef (.static Bundle.tN "UNASSIGNED_STACK" Bundle.steD), .isRef (.static Bundle.tN "SUPPRESSED_SENTINEL" Bundle.listD)]
def mj_tw (own : String) (ic : Nat) (C : Nat) : Prop := ∀ a ∈ Bundle.ownAtoms own ic (mj_ex C) mj_up, a ∈ tw_tbl ∨ a ∈ mj_sp
set_option maxRecDepth 100000 in
theorem mj_tw0 : mj_tw "ClauseGlass" 58 0 := by
  unfold mj_tw
  decide +kernel
set_option maxRecDepth 100000 in
theorem mj_tw1 : mj_tw "ClauseGlass" 43 1 := by
  unfold mj_tw
  decide +kernel
section GT2
variable {y : MethodName} {cc : ByteArray} {nL : Nat} {rt : Option FieldType} {hh : List (Nat × Nat × Nat × Nat)} {d : Nat} {sc : Option (Nat × (Nat → Int32))} {pc : Nat} {ls : List (Nat × Value)} {st : List Value} {A : mj_H} {post : mj_O → mj_H → Prop}
theorem G_throw {i1 i2 i3 : Nat} {tx : String} (C : Nat) (h0 : decode cc pc = .ok (.new i1, 3)) (h3 : decode cc (pc + 3) = .ok (.dup, 1)) (h4 : decode cc (pc + 4) = .ok (.ldc i2, 2)) (h6 : decode cc (pc + 6) = .ok (.invokespecial i3, 3)) (h9 : decode cc (pc + 9) = .ok (.athrow, 1))
    (hcl : Cond.classLink y.cls i1 (mj_ex C) ∈ tw_tbl) (hin : Cond.instantiable (mj_ex C) 6 ∈ tw_tbl) (hini : Cond.initialized (mj_ex C) ∈ tw_tbl) (hstr : Cond.stringRef y.cls i2 tx ∈ tw_tbl) (htw : mj_tw y.cls i3 C) (hft : Bundle.fit (mj_ex C) = true) (hnh : mj_nh hh (pc + 9) = true) (hr1 : A.2.1 + 1 ≤ 601024) (hr2 : A.2.2 + 6 ≤ 7293034) (hd : 6 ≤ d) (hw : (st.map fun v => v.category).sum ≤ 41)
    (hp : post (.inr C) (A.1, A.2.1 + 1, A.2.2 + 6)) : mj_G y cc nL rt hh d sc pc ls st A post := by
  intro p l e R s m args below meth c H locs cells slots F nc ns D ad ad0 cy n0 lsC hX hZ hH hE hn hS hc hs hl
  intro T hT X
  have hroom := hX.2.2.2.2.2.2.2.2.2.2.1
  have hcl' : cells ≤ R.cells := by have := hroom.2.2.1; omega
  have hsl' : slots ≤ R.slots := by have := hroom.2.2.2; omega
  have X' := mj_rebase X hcl' hsl'
  have hW0 : s.WarmedH T.vm := X.warmed
  have hts : ∀ w ∈ tw_tbl, w.before args (T.setFrames (.invoking m args :: below)) = true := fun w h => tw_moved (U := T.setFrames (.invoking m args :: below)) hW0 (tw_in h) (hX.2.2.2.2.2.2.2.2.1 w h)
  have hown : (T.setFrames (.invoking m args :: below)).vm.findClass y.cls = some m.cls := by
    show T.vm.findClass y.cls = some m.cls
    rw [hW0.alike.findClass]; exact hX.2.2.2.2.2.2.2.1
  have hst1 : mj_st "UNASSIGNED_STACK" Bundle.steD F (T.setFrames (.invoking m args :: below)) (T.setFrames (.invoking m args :: below)).heap := mj_st_moved (U := T.setFrames (.invoking m args :: below)) (H1 := T.heap) hX.2.2.2.2.2.2.2.2.2.2.2.2.2.1 hW0.alike (fun a q1 q2 => by rw [hT]; exact hS.2.1 a q1 q2) (fun _ h => h)
  have hst2 : mj_st "SUPPRESSED_SENTINEL" Bundle.listD F (T.setFrames (.invoking m args :: below)) (T.setFrames (.invoking m args :: below)).heap := mj_st_moved (U := T.setFrames (.invoking m args :: below)) (H1 := T.heap) hX.2.2.2.2.2.2.2.2.2.2.2.2.2.2.1 hW0.alike (fun a q1 q2 => by rw [hT]; exact hS.2.1 a q1 q2) (fun _ h => h)
  have hatoms : ∀ a ∈ Bundle.ownAtoms y.cls i3 (mj_ex C) mj_up, a.before args (T.setFrames (.invoking m args :: below)) = true := by
    intro a ha
    rcases htw a ha with h | h
    · exact hts a h
    · simp only [mj_sp, List.mem_cons, List.not_mem_nil, or_false] at h
      rcases h with rfl | rfl | rfl | rfl
      · exact mj_st_lays hst1
      · exact mj_st_lays hst2
      · exact mj_st_ref hst1
      · exact mj_st_ref hst2
  obtain ⟨vm₁, cX, kX, hfX, hkX, -, -, X₁, st1⟩ := X'.newCold hX.1 (own := y.cls) (C := mj_ex C) (index := i1) (n := 6) hown (hts _ hcl) (hts _ hin) (hts _ hini) (g := F0 m pc lsC (st.map (mj_v ad))) rfl (by rw [hX.2.2.1]; exact h0)
    (by show 0 + 1 ≤ R.cells - cells; have := hroom.2.2.1; omega) (by show 0 + 6 ≤ R.slots - slots; have := hroom.2.2.2; omega)
  obtain ⟨-, -, -, sa, -, -, -, -, -, hev⟩ := Cond.stringRef_spec hown (hts _ hstr)
  have hvk : vk_R y.cls i2 tx sa (T.setFrames (.invoking m args :: below)) := ⟨tw_moved (A' := #[]) (State.WarmedH.refl _) rfl (hts _ hstr), hev⟩
  have K : W p l e { frames := R.frames, cells := R.cells - cells, slots := R.slots - slots, locals := R.locals } (T.setFrames (.invoking m args :: below)) m args below meth c ((T.setVm vm₁).pushCell { cls := cX, slots := kX.instanceTypes.map defaultValue, vm := .none }).heap [] (0 + 1) (0 + 6)
      (fun t => t.status = .running ∧ Ended t below (.threw T.heap.size) ∧ (T.setFrames (.invoking m args :: below)).WarmedH t.vm ∧ (T.setFrames (.invoking m args :: below)).sameButNew ({ t with vm := (T.setFrames (.invoking m args :: below)).vm } : State) [] (0 + 1) (0 + 6) ∧ ∃ ce, t.heap[T.heap.size]? = some ce ∧ ce.vm = .none ∧ (T.setFrames (.invoking m args :: below)).vm.findClass (mj_ex C) = some ce.cls)
      (F0 m (pc + 3) lsC (.ref T.heap.size :: st.map (mj_v ad))) := by
    refine lv_dup hX.1 hX.2.2.1 h3 rfl ?_
    refine va_ldcS hX.1 hX.2.2.1 hown hvk h4 ?_
    intro T2 hT2 X2
    have hcellA : T2.heap[T.heap.size]? = some (freshCell cX kX) := by rw [hT2]; exact State.heap_pushCell_size _ _
    obtain ⟨U, hsteps, hrun, hend, hW, hsame, ce, hce, KK⟩ := X2.ctorThrowS hX.1 hX.2.1 (own := y.cls) (cls := mj_ex C) (names := mj_up) (ic := i3) hown hft (by decide +kernel)
      hatoms (fun y hy => by cases hy) hfX hkX hcellA (Nat.le_refl _) (msg := .ref sa) rfl
      (g := F0 m (pc + 6) lsC (.ref sa :: .ref T.heap.size :: .ref T.heap.size :: st.map (mj_v ad))) rfl (by rw [hX.2.2.2.1]; exact hl.1) rfl rfl (rest := st.map (mj_v ad)) rfl
      (by rw [hX.2.2.1]; exact h6) (by rw [hX.2.2.1]; exact h9) (mj_nh_out hnh hX.2.2.2.2.2.2.2.2.2.1) (by show 2 + 3 < R.frames; rw [hroom.1]; omega)
      (by
        show 2 * 0 + ((Value.ref T.heap.size :: st.map (mj_v ad)).map fun v => v.category).sum + (13 * (2 + 1) + 42) ≤ R.locals
        rw [List.map_cons, List.map_map, List.sum_cons]
        have e9 : ((fun v : Value => v.category) ∘ mj_v ad) = fun v => v.category := funext (mj_cat ad)
        rw [e9]
        have h99 : (Value.ref T.heap.size).category = 1 := rfl
        rw [h99]
        have := hroom.2.1
        omega) (hlocks := hX.2.2.2.2.2.1)
    exact ⟨U, hsteps, hrun, hend, hW, hsame, ce, hce, KK.vm, KK.cls⟩
  obtain ⟨t, a1, b1, b2, b3, b4, ce, b5, b6, b7⟩ := K _ rfl X₁
  have hkeep : ∀ q : Nat, q < T.heap.size → t.heap[q]? = T.heap[q]? := by
    intro q hq
    have hq' : (T.setFrames (.invoking m args :: below)).heap[q]? = some (T.heap[q]) := Array.getElem?_eq_getElem hq
    obtain ⟨c', r1, r2, r3, r4⟩ := b4.2.2.2.2.2 q _ hq'
    have r1' : t.heap[q]? = some c' := r1
    rw [r1', Array.getElem?_eq_getElem hq]
    have hsl : c'.slots = T.heap[q].slots := Array.ext_getElem? (fun i => r4 i (fun h => by cases h))
    rw [r2, hsl]
  have hH1 : mj_Hp D F ad cy A.1 s t.heap := by
    refine ⟨hH.1.kept (fun k x hx => ?_), hH.2.1, hH.2.2.1, hH.2.2.2.1, hH.2.2.2.2⟩
    have hlt : x.1 < H.size := (hH.1 k x hx).lt
    rw [hkeep x.1 (by rw [hT]; exact hlt), hT]
  have hsz : T.heap.size ≤ t.heap.size := b4.2.1
  have hsT : T.sameButNew ({ t with vm := T.vm } : State) [] 1 6 := by
    refine ⟨?_, b4.2⟩
    have := b4.1
    rw [State.setFrames_setFrames] at this
    exact this
  refine ⟨t, st1 t a1, .threw T.heap.size, b1, b2, .inr C, (A.1, A.2.1 + 1, A.2.2 + 6), ad, cy, cells + 1, slots + 6, locs ++ [], hp, ⟨T.heap.size, ce, rfl, b5, by rw [b6]; rfl, ?_⟩, hH1, hE, hn, ?_, ?_, ?_, State.WarmedH.trans hW0 b3, X.same.trans (hsT.setVm s.vm)⟩
  · have : T.vm.findClass (mj_ex C) = some ce.cls := b7
    rw [hW0.alike.findClass] at this
    exact this
  · rw [List.append_nil]
    refine ⟨Nat.le_trans hS.1 (by rw [← hT]; exact hsz), fun q q1 q2 => ?_, hS.2.2⟩
    rw [hkeep q (by rw [hT]; exact Nat.lt_of_lt_of_le q1 hS.1), hT]
    exact hS.2.1 q q1 q2
  · exact ⟨by show A.2.1 + 1 = _; omega, hr1⟩
  · exact ⟨by show A.2.2 + 6 = _; omega, hr2⟩
end GT2
end
section
/-! a thrown exception is caught by the caller -/
section GK
theorem mj_go {Q : Handler → Pre} {E : CtlPost} {e : Env} {d : Bool} {acts : List Action} {s : State} {f : JFrame} {a : Addr} {x : ExceptionTableEntry} {t : List ExceptionTableEntry} {c : ClassId} {cell : Cell} (hx : covers x f.pc = true) (h0 : x.catchType ≠ 0)
    (hl : s.vm.ClassLinks e.platform f.method.cls x.catchType c) (hcell : s.heap[a]? = some cell) (hobj : ∀ k, cell.vm ≠ .statics k) (hk : ∃ k, s.vm.classes[cell.cls]? = some k) (hc : ∃ k, s.vm.classes[c]? = some k) :
    wp (findHandler.go f a (x :: t)) Q E e d acts s ↔ if s.vm.assignable cell.cls c = true then Q (.found x.handlerPc) d acts (s.setVm (s.vm.noted f.method.cls x.catchType (.cls c))) else wp (findHandler.go f a t) Q E e d acts (s.setVm (s.vm.noted f.method.cls x.catchType (.cls c))) := by
  simp only [covers] at hx
  obtain ⟨ha, ht⟩ := (resolveClass_links e.toSetting hl).op (op := VmOp.resolveClass f.method.cls x.catchType) rfl
  have hal : s.vm.Alike (s.vm.noted f.method.cls x.catchType (.cls c)) := (Vm.Alike.refl s.vm).noted _ _ _
  obtain ⟨k1, hk1⟩ := hk
  obtain ⟨k2, hk2⟩ := hc
  obtain ⟨k1', hk1', -⟩ := hal.2.2 _ _ hk1
  obtain ⟨k2', hk2', -⟩ := hal.2.2 _ _ hk2
  have hfit' : (s.vm.noted f.method.cls x.catchType (.cls c)).assignable cell.cls c = s.vm.assignable cell.cls c := hal.assignable ..
  cases hfit : s.vm.assignable cell.cls c <;>
    simp [findHandler.go, hx, h0, ha, ht, hcell, hobj, hk1', hk2', hfit', hfit, VmOp.dirties, VmOp.acts]
/-- where the handlers' list finds an exception of the kind C: at tgt; those ahead of it are for the other kind -/
def mj_hc (own : String) (hh : List (Nat × Nat × Nat × Nat)) (pc C tgt : Nat) : Prop := ∃ (pre : List (Nat × Nat × Nat × Nat)) (s0 e0 ct : Nat) (rest : List (Nat × Nat × Nat × Nat)), hh = pre ++ (s0, e0, tgt, ct) :: rest ∧ (s0 ≤ pc ∧ pc < e0) ∧ ct ≠ 0 ∧ Cond.classLink own ct (mj_ex C) ∈ tw_tbl ∧ Cond.castable (mj_ex C) (mj_ex C) ∈ tw_tbl ∧
  ∀ q ∈ pre, (q.1 ≤ pc ∧ pc < q.2.1) ∧ q.2.2.2 ≠ 0 ∧ C = 1 ∧ Cond.classLink own q.2.2.2 (mj_ex 0) ∈ tw_tbl
theorem mj_search {e : Env} {s : State} {f : JFrame} {a : Addr} {args : Array Value} {own : String} {cell : Cell} (hpl : e.platform.magicAccessors = ({} : Platform).magicAccessors) (hown : s.vm.findClass own = some f.method.cls) (hobj : cell.vm.isStatics = false) {x : ExceptionTableEntry} {rest : List ExceptionTableEntry} {nm : String} {cT : ClassId} (hx : covers x f.pc = true) (h0 : x.catchType ≠ 0)
    (hlink : (Cond.classLink own x.catchType nm).before args s = true) (hcT : s.vm.findClass nm = some cT) (hfit : s.vm.assignable cell.cls cT = true) :
    ∀ (pre : List ExceptionTableEntry) (U : State), s.WarmedH U.vm → U.heap[a]? = some cell → (∀ z ∈ pre, covers z f.pc = true ∧ z.catchType ≠ 0 ∧ ∃ (n9 : String) (c9 : ClassId), (Cond.classLink own z.catchType n9).before args s = true ∧ s.vm.findClass n9 = some c9 ∧ s.vm.assignable cell.cls c9 = false) →
      ∃ vm', s.WarmedH vm' ∧ ∀ (Q : Handler → Pre) (E : CtlPost) (d : Bool) (acts : List Action), wp (findHandler.go f a (pre ++ x :: rest)) Q E e d acts U ↔ Q (.found x.handlerPc) d acts (U.setVm vm') := by
  have one : ∀ (z : ExceptionTableEntry) (n9 : String) (c9 : ClassId) (U : State), s.WarmedH U.vm → (Cond.classLink own z.catchType n9).before args s = true → s.vm.findClass n9 = some c9 → U.vm.ClassLinks e.platform f.method.cls z.catchType c9 ∧ s.WarmedH (U.vm.noted f.method.cls z.catchType (.cls c9)) ∧ ∃ k, U.vm.classes[c9]? = some k := by
    intro z n9 c9 U hW hl hf
    obtain ⟨c', hc', hcl⟩ := Cond.classLink_spec hown hl e.platform hpl
    cases hf.symm.trans hc'
    obtain ⟨dk, _, _, kt, hd, _, _, _, _, hkt, _, hopen⟩ := hcl.here
    obtain ⟨kt', hkt', -⟩ := hW.alike.2.2 _ _ hkt
    exact ⟨hW.classLinks hcl, hW.noted hd hopen (State.rightAt_cls hcl), kt', hkt'⟩
  obtain ⟨hkT0⟩ : ∃ k, s.vm.classes[cT]? = some k := Vm.classAt_of_findClass hcT
  have hcellK : ∃ k, s.vm.classes[cell.cls]? = some k := Vm.classAt_of_assignable hfit (Vm.classAt_of_findClass hcT)
  intro pre
  induction pre with
  | nil =>
    intro U hW hcell _
    obtain ⟨h1, h2, h3⟩ := one x nm cT U hW hlink hcT
    have hk : ∃ k, U.vm.classes[cell.cls]? = some k := by
      obtain ⟨k, hk⟩ := hcellK
      obtain ⟨k', hk', -⟩ := hW.alike.2.2 _ _ hk
      exact ⟨k', hk'⟩
    refine ⟨_, h2, fun Q E d acts => ?_⟩
    have hfU : U.vm.assignable cell.cls cT = true := by rw [hW.alike.assignable]; exact hfit
    rw [List.nil_append, mj_go hx h0 h1 hcell (VmData.ne_statics_of hobj) hk h3, if_pos hfU]
  | cons z zs ih =>
    intro U hW hcell hz
    obtain ⟨z1, z2, n9, c9, z3, z4, z5⟩ := hz z List.mem_cons_self
    obtain ⟨h1, h2, h3⟩ := one z n9 c9 U hW z3 z4
    have hk : ∃ k, U.vm.classes[cell.cls]? = some k := by
      obtain ⟨k, hk⟩ := hcellK
      obtain ⟨k', hk', -⟩ := hW.alike.2.2 _ _ hk
      exact ⟨k', hk'⟩
    obtain ⟨vm', g1, g2⟩ := ih (U.setVm (U.vm.noted f.method.cls z.catchType (.cls c9))) h2 hcell (fun w hw => hz w (List.mem_cons_of_mem _ hw))
    refine ⟨vm', g1, fun Q E d acts => ?_⟩
    have hfU : ¬ U.vm.assignable cell.cls c9 = true := by rw [hW.alike.assignable, z5]; decide
    rw [List.cons_append, mj_go z1 z2 h1 hcell (VmData.ne_statics_of hobj) hk h3, if_neg hfU]
    exact g2 Q E d acts
theorem mj_stepCatch {tb : Tables} {e : Env} {s target : State} {g : JFrame} {c : Code} {below : List Frame} {a : Addr} (h : At s g.method c below) {pc : Nat} {vm' : Vm}
    (hfind : ∀ (Q : Handler → Pre) (E : CtlPost) (d : Bool) (acts : List Action), wp (findHandler g a) Q E e d acts ((s.setTop g).pushFrame (.throwing a)) ↔ Q (.found pc) d acts (((s.setTop g).pushFrame (.throwing a)).setVm vm')) (hrest : Steps tb e below ((s.setVm vm').setTop { g with pc := pc, stack := [.ref a] }) target) :
    Steps tb e below ((s.setTop g).pushFrame (.throwing a)) target := by
  obtain ⟨hgo, hw⟩ := h.throwing a
  refine Steps.head hgo hw ?_
  obtain ⟨g₀, hg⟩ := Option.isSome_iff_exists.mp h.top
  obtain ⟨r, hr⟩ := State.topJava?_eq_some.mp hg
  have his : ∀ (w : State), (∀ (Q : Handler → Pre) (E : CtlPost) (d : Bool) (acts : List Action), wp (findHandler g a) Q E e d acts w ↔ Q (.found pc) d acts (w.setVm vm')) → ∀ r9 : List Frame, (stepThrowing e w a (.java g :: r9)).Is ((w.setVm vm').setFrames (.java { g with pc := pc, stack := [.ref a] } :: r9)) [] := by
    intro w hf r9
    simp only [stepThrowing, searchFrame, vmDo]
    generalize hres : Sem.go _ e false [] w = res
    obtain ⟨as, rfl, ha⟩ := Sem.eq_ok_of hres (a := Handler.found pc) (s' := w.setVm vm') (acts' := []) (by simp [hf])
    exact ⟨rfl, ha⟩
  rw [stepThread_throwing (frames_entered h.top _), (his _ hfind _).1]
  have hr' : (s.setVm vm').frames = .java g₀ :: r := hr
  rw [State.setTop_of_frames _ hr'] at hrest
  have e1 : ∀ (u : State) (F G : List Frame), ((u.setFrames F).setVm vm').setFrames G = (u.setVm vm').setFrames G := fun u F G => by
    have h1 : (u.setFrames F).setVm vm' = (u.setVm vm').setFrames F := rfl
    rw [h1, State.setFrames_setFrames]
  rw [hr, List.tail_cons, State.pushFrame, e1, State.setTop_of_frames _ hr, e1]
  exact hrest
variable {p : Program} {l : Launch} {e : Env} {R : Room} {s : State} {m : MethodId} {args : Array Value} {below : List Frame} {meth : Method} {c : Code} {locs : List Loc} {cells slots : Nat} {F : Nat → Prop} {nc ns : Nat} {D : va_G} {ad ad0 : Nat → Nat} {cy : Nat → ClassId} {n0 : Nat} {lsC : Array Slot}
variable {y : MethodName} {cc : ByteArray} {nL : Nat} {rt : Option FieldType} {hh : List (Nat × Nat × Nat × Nat)} {d : Nat} {sc : Option (Nat × (Nat → Int32))} {pc : Nat} {ls : List (Nat × Value)} {st : List Value} {A : mj_H} {post : mj_O → mj_H → Prop}
variable {y' : MethodName} {cc' : ByteArray} {nL' : Nat} {rt' : Option FieldType} {hh' : List (Nat × Nat × Nat × Nat)} {As : List Value} {post' : mj_O → mj_H → Prop}
theorem mj_caught {U : State} {x : Addr} {C tgt : Nat} {cell : Cell} {g : JFrame} (X : Stand p l e R s m args below meth c U locs cells slots) (hX : mj_X y cc nL rt hh d p e R s m args meth c F nc ns) (hg : g.method = m) (hpc : g.pc = pc) (hhc : mj_hc y.cls hh pc C tgt) (hcell : U.heap[x]? = some cell) (hobj : cell.vm.isStatics = false) (hcls : s.vm.findClass (mj_ex C) = some cell.cls) :
    ∃ vm', Stand p l e R s m args below meth c (U.setVm vm') locs cells slots ∧ ∀ target, Steps p.tables e below ((U.setVm vm').setTop { g with pc := tgt, stack := [.ref x] }) target → Steps p.tables e below ((U.setTop g).pushFrame (.throwing x)) target := by
  subst hg
  have hpl : e.platform.magicAccessors = ({} : Platform).magicAccessors := by rw [X.admits.platform]
  obtain ⟨pre, s0, e0, ct, rest, h1, h2, h3, h4, h5, h6⟩ := hhc
  have hts := hX.2.2.2.2.2.2.2.2.1
  have htab := hX.2.2.2.2.2.2.2.2.2.1
  rw [h1] at htab
  obtain ⟨preT, restT, t1, t2, t3⟩ := List.map_eq_append_iff.mp htab
  obtain ⟨xE, restE, u1, u2, u3⟩ := List.map_eq_cons_iff.mp t3
  subst u1
  have ux1 : xE.startPc = s0 := congrArg (·.1) u2
  have ux2 : xE.endPc = e0 := congrArg (·.2.1) u2
  have ux3 : xE.handlerPc = tgt := congrArg (·.2.2.1) u2
  have ux4 : xE.catchType = ct := congrArg (·.2.2.2) u2
  obtain ⟨c1, c2, k1, k2, k3⟩ := Cond.castable_spec (hts _ h5)
  cases hcls.symm.trans k1
  cases hcls.symm.trans k2
  obtain ⟨vm', g1, g2⟩ := mj_search (e := e) (s := s) (f := g) (a := x) (args := args) (own := y.cls) (cell := cell) hpl hX.2.2.2.2.2.2.2.1 hobj (x := xE) (rest := restE) (nm := mj_ex C) (cT := cell.cls) (by simp only [covers, hpc, ux1, ux2]; simp [h2]) (by rw [ux4]; exact h3) (by rw [ux4]; exact hts _ h4) hcls k3 preT ((U.setTop g).pushFrame (.throwing x)) X.warmed hcell (by
    intro z hz
    have hzm : (z.startPc, z.endPc, z.handlerPc, z.catchType) ∈ pre := by rw [← t2]; exact List.mem_map.mpr ⟨z, hz, rfl⟩
    obtain ⟨w1, w2, w3, w4⟩ := h6 _ hzm
    have w1' : z.startPc ≤ pc ∧ pc < z.endPc := w1
    refine ⟨by simp only [covers, hpc]; simp [w1'], w2, ?_⟩
    subst w3
    obtain ⟨cc1, cc2, v1, v2, v3⟩ := hX.2.2.2.2.2.2.2.2.2.2.2.2.2.2.2
    cases hcls.symm.trans v1
    exact ⟨mj_ex 0, cc2, hts _ w4, v2, v3⟩)
  refine ⟨vm', X.noted g1, fun target hrest => ?_⟩
  refine mj_stepCatch X.here (vm' := vm') (pc := tgt) (fun Q E d acts => ?_) hrest
  rw [W.findHandler_eq (s := (U.setTop g).pushFrame (.throwing x)) (meth := meth) (code := c) X.method' X.code, t1, ← ux3]
  exact g2 Q E d acts
theorem mj_lv_tl {ls : Array Slot} {nL : Nat} {q : Nat × Value} {l : List (Nat × Value)} (h : lv_has ls nL (q :: l)) : lv_has ls nL l := ⟨h.1, h.2.1, fun z hz => h.2.2 z (List.mem_cons_of_mem _ hz)⟩
/-- behind a call that may throw what this method catches: the handler's first instruction stores the exception away -/
theorem mj_afterC {S0 : State} (hX : mj_X y cc nL rt hh d p e R s m args meth c F nc ns) (hZ : mj_Z sc ad F s) (hE : mj_Ext ad ad0 n0 A.1.length) (hn : n0 ≤ A.1.length) (hl : lv_has lsC nL (mj_ls ad ls))
    (hlen : ∀ out A', post' out A' → A'.1.length = A.1.length)
    (h : mj_Af p l e R s m args below meth c F D nc ns ad A.1.length post' S0 (F0 m pc lsC (st.map (mj_v ad))) 3)
    (kr : ∀ v A', post' (.inl v) A' → mj_G y cc nL rt hh d sc (pc + 3) ls (v.toList ++ st) A' post)
    (kt : ∀ C A', post' (.inr C) A' → ∃ tgt i len, mj_hc y.cls hh pc C tgt ∧ ((∃ w4 : Fin 4, decode cc tgt = .ok (.astore_n w4, 1) ∧ (w4 : Nat) = i ∧ len = 1) ∨ (decode cc tgt = .ok (.astore i, 2) ∧ len = 2)) ∧ i < nL ∧ mj_G y cc nL rt hh d sc (tgt + len) (ls.filter (fun q => !(q.1 == i) && !(q.1 + 1 == i && q.2.category == 2))) [] A' post) : ∃ t, Steps p.tables e below S0 t ∧ mj_end below s F D ad0 n0 nc ns post t := by
  obtain ⟨o, U, L, k, n, out, A', ad', cy', X', q1, q2, q3, q4, q5, q6, q7, q8, q9, q10⟩ := h
  have hl' := hlen out A' q1
  have he : ad' = ad := funext fun j => q4 j (by rw [hl']; exact Nat.lt_or_ge j _)
  subst he
  have hE' : mj_Ext ad' ad0 n0 A'.1.length := by rw [hl']; exact hE
  have hn' : n0 ≤ A'.1.length := by rw [hl']; exact hn
  rcases out with v | C
  · have ho : o = .returned (v.map (mj_v ad')) := q2
    have hst := q9 _ ho
    obtain ⟨t, a1, b1⟩ := kr v A' q1 p l e R s m args below meth c U.heap L k n F nc ns D ad' ad0 cy' n0 lsC hX hZ q3 hE' hn' q6 q7 q8 hl U rfl X'
    refine ⟨t, hst.trans ?_, b1⟩
    have e1 : ({ F0 m pc lsC (st.map (mj_v ad')) with pc := pc + 3, stack := (v.map (mj_v ad')).toList ++ st.map (mj_v ad') } : JFrame) = F0 m (pc + 3) lsC ((v.toList ++ st).map (mj_v ad')) := by
      cases v <;> rfl
    rw [← e1] at a1
    exact a1
  · obtain ⟨x, cell, r1, r2, r3, r4⟩ := q2
    have hst := q10 x r1
    obtain ⟨tgt, i, len, k1, k2, k3, k4⟩ := kt C A' q1
    obtain ⟨vm', X2, hs2⟩ := mj_caught (g := F0 m pc lsC (st.map (mj_v ad'))) X' hX rfl rfl k1 r2 r3 r4
    have KW : W p l e R s m args below meth c U.heap L k n (mj_end below s F D ad0 n0 nc ns post) (F0 m tgt lsC [.ref x]) := by
      have hfl := mj_ls_f (ad := ad') (ls := ls) (fun a b => !(a == i) && !(a + 1 == i && b == 2))
      rcases k2 with ⟨w4, g1, g2, rfl⟩ | ⟨g1, rfl⟩
      · subst g2
        refine lv_astore_n (lv' := _) hX.1 hX.2.2.1 g1 rfl hl k3 rfl (fun lsC' hl2 => ?_)
        have hl3 := mj_lv_tl hl2
        rw [hfl] at hl3
        exact k4 p l e R s m args below meth c U.heap L k n F nc ns D ad' ad0 cy' n0 lsC' hX hZ q3 hE' hn' q6 q7 q8 hl3
      · refine lv_astore (lv' := _) hX.1 hX.2.2.1 g1 hl k3 rfl (fun lsC' hl2 => ?_)
        have hl3 := mj_lv_tl hl2
        rw [hfl] at hl3
        exact k4 p l e R s m args below meth c U.heap L k n F nc ns D ad' ad0 cy' n0 lsC' hX hZ q3 hE' hn' q6 q7 q8 hl3
    obtain ⟨t, a1, b1⟩ := KW (U.setVm vm') rfl X2
    exact ⟨t, hst.trans (hs2 t a1), b1⟩
theorem G_callvc {index ci b : Nat} {fs : List Value} (hd : decode cc pc = .ok (.invokevirtual index, 3)) (hcv : mj_cv y.cls index y' ci) (hcw : mj_cw y' cc' nL' rt' hh') (hb : A.1[b]? = some (.inr (ci, fs))) (hn1 : (parseMethodDescriptor y'.desc).map (fun d => d.parameters.length) = some As.length) (hsl : (lg_sl (.ref b :: As)).length ≤ nL') (hw : (st.map fun v => v.category).sum + (nL' + 11) ≤ 41)
    (hG : mj_G y' cc' nL' rt' hh' d none 0 (lv_args 0 (.ref b :: As)) [] A post') (hlen : ∀ out A', post' out A' → A'.1.length = A.1.length)
    (kr : ∀ v A', post' (.inl v) A' → mj_G y cc nL rt hh (d + 1) sc (pc + 3) ls (v.toList ++ st) A' post)
    (kt : ∀ C A', post' (.inr C) A' → ∃ tgt i len, mj_hc y.cls hh pc C tgt ∧ ((∃ w4 : Fin 4, decode cc tgt = .ok (.astore_n w4, 1) ∧ (w4 : Nat) = i ∧ len = 1) ∨ (decode cc tgt = .ok (.astore i, 2) ∧ len = 2)) ∧ i < nL ∧ mj_G y cc nL rt hh (d + 1) sc (tgt + len) (ls.filter (fun q => !(q.1 == i) && !(q.1 + 1 == i && q.2.category == 2))) [] A' post) :
    mj_G y cc nL rt hh (d + 1) sc pc ls (As.reverse ++ .ref b :: st) A post := by
  intro p l e R s m args below meth c H locs cells slots F nc ns D ad ad0 cy n0 lsC hX hZ hH hE hn hS hc hs hl
  obtain ⟨w1, w2, w3, w4, ⟨T0, N0, w5⟩, w6, w7⟩ := hcv
  have hts := hX.2.2.2.2.2.2.2.2.1
  obtain ⟨cellB, hcB, hoB, hclB⟩ := va_recv hH.2.2.1 hH.1 (ci := ci) (q0 := b) w5 (mj_W_get hb)
  intro T hT X
  obtain ⟨mk, methM, hnamed, hmethM, hstM, habM⟩ := Cond.instanceMethod_spec (hts _ w2)
  obtain ⟨methM', cM, hmethM', -, -, -, -, -, -, hsigM⟩ := mj_cw_spec hcw hts hnamed
  cases hmethM.symm.trans hmethM'
  obtain ⟨c2, r2, m2, q1, q2, q3, q4, kP, hkP, hkPi⟩ := Cond.selects_spec (hts _ w3)
  cases hclB.symm.trans q1
  cases (State.methodFound?_of_named hnamed w6).symm.trans q2
  cases hnamed.symm.trans q3
  have hselP : selectMethod e.platform s.vm cellB.cls mk = .method mk := by rw [Launch.admits_selectMethod X.admits]; exact q4
  have hlenA : (As.map (mj_v ad)).length = methM.sig.parameters.length := by
    rw [hsigM] at hn1
    rw [List.length_map]
    exact (Option.some.inj hn1).symm
  have hstk : (F0 m pc lsC ((As.reverse ++ .ref b :: st).map (mj_v ad))).stack = (As.map (mj_v ad)).reverse ++ .ref (ad b) :: st.map (mj_v ad) := by
    show (As.reverse ++ .ref b :: st).map (mj_v ad) = _
    rw [List.map_append, List.map_reverse]; rfl
  have hstep : ∃ (vm₁ : Vm), Stand p l e R s m args below meth c (T.setVm vm₁) locs cells slots ∧ ∀ target, (∀ acts, Steps p.tables e below (doInvoke e ((T.setVm vm₁).setTop (F0 m pc lsC (st.map (mj_v ad)))) acts mk (((.ref b :: As).map (mj_v ad)).toArray)).1 target) → Steps p.tables e below (T.setTop (F0 m pc lsC ((As.reverse ++ .ref b :: st).map (mj_v ad)))) target := by
    rcases w1 with w1 | ⟨host, w1⟩
    · obtain ⟨vm₁, X₁, hstep₁⟩ := X.invokevirtual hX.1 hX.2.2.2.2.2.2.2.1 (hts _ w1) hnamed hmethM hstM hkP hkPi w6 (a := ad b) (cell := cellB) (by rw [hT]; exact hcB)
        (fun z h => by rw [h] at hoB; cases hoB) hselP hmethM habM hkP hkPi (g := F0 m pc lsC ((As.reverse ++ .ref b :: st).map (mj_v ad))) rfl (argsL := As.map (mj_v ad)) (rest := st.map (mj_v ad)) hlenA hstk (by rw [hX.2.2.1]; exact hd)
      exact ⟨vm₁, X₁, hstep₁⟩
    · obtain ⟨vm₁, X₁, hstep₁⟩ := X.invokevirtualNest hX.1 hX.2.2.2.2.2.2.2.1 (hts _ w1) hnamed hmethM hstM hkP hkPi w6 (a := ad b) (cell := cellB) (by rw [hT]; exact hcB)
        (fun z h => by rw [h] at hoB; cases hoB) hselP hmethM habM hkP hkPi (g := F0 m pc lsC ((As.reverse ++ .ref b :: st).map (mj_v ad))) rfl (argsL := As.map (mj_v ad)) (rest := st.map (mj_v ad)) hlenA hstk (by rw [hX.2.2.1]; exact hd)
      exact ⟨vm₁, X₁, hstep₁⟩
  obtain ⟨vm₁, X₁, hstep₁⟩ := hstep
  have hAf := mj_inv (T := T.setVm vm₁) (As := .ref b :: As) X₁ hX (by show mj_Hp D F ad cy A.1 s T.heap; rw [hT]; exact hH) (by show va_S F s.heap T.heap locs; rw [hT]; exact hS) hc hs hcw w4 w7 hsl hG (g := F0 m pc lsC (st.map (mj_v ad))) rfl (by rw [hX.2.2.2.1]; exact hl.1) (by rw [hX.2.2.1]; exact hd)
    (by show 2 * 0 + ((st.map (mj_v ad)).map fun v => v.category).sum + (nL' + 11) ≤ 41; rw [List.map_map]; have : ((fun v : Value => v.category) ∘ mj_v ad) = fun v => v.category := funext (mj_cat ad); rw [this]; omega) (X₁.named hnamed)
  obtain ⟨t, a1, b1⟩ := mj_afterC (ls := ls) (sc := sc) hX hZ hE hn hl hlen hAf kr kt
  exact ⟨t, hstep₁ t (fun acts => by rw [doInvoke_state]; exact a1), b1⟩
end GK
end
section
/-! new cells -/
theorem mj_rf_mono {n n' : Nat} {c : mj_C} (h : mj_rf n c) (hn : n ≤ n') : mj_rf n' c := by
  rcases c with ⟨tg, m, x⟩ | ⟨ci, fs⟩
  · rcases x with f | f | f | f | f
    · trivial
    · trivial
    · trivial
    · trivial
    · exact fun i j hj => Nat.lt_of_lt_of_le (h i j hj) hn
  · exact fun v hv j hj => Nat.lt_of_lt_of_le (h v hv j hj) hn
theorem mj_Hp_push {D : va_G} {F : Nat → Prop} {ad : Nat → Nat} {cy : Nat → ClassId} {A : List mj_C} {U : State} {H H1 : Heap} {q : Nat} {cA : ClassId} {c : mj_C} (h : mj_Hp D F ad cy A U H) (hP : va_P D mj_cl (mj_W ad cy A ++ [(q, mj_E ad cA c)]) H1) (hD : va_D F (mj_W ad cy A ++ [(q, mj_E ad cA c)])) (hc : mj_rf A.length c)
    (ht : ∀ x, c = .inl x → ArrOfT U cA (mj_ty x.1) ∧ va_RA U cA (mj_ty x.1)) : mj_Hp D F (va_up ad A.length q) (va_up cy A.length cA) (A ++ [c]) U H1 := by
  rw [mj_W_push h.2.2.2.2 hc] at hP hD
  have hcase : ∀ (k : Nat) (x : mj_C), (A ++ [c])[k]? = some x → (k < A.length ∧ A[k]? = some x) ∨ (k = A.length ∧ x = c) := by
    intro k x hk
    by_cases hl : k < A.length
    · rw [List.getElem?_append_left hl] at hk
      exact Or.inl ⟨hl, hk⟩
    · rw [List.getElem?_append_right (by omega)] at hk
      have h0 : k - A.length < 1 := (List.getElem?_eq_some_iff.mp hk).1
      rw [show k - A.length = 0 by omega] at hk
      exact Or.inr ⟨by omega, (Option.some.inj hk).symm⟩
  refine ⟨hP, hD, h.2.2.1, fun k x hk => ?_, fun k x hk => ?_⟩
  · rcases hcase k _ hk with ⟨h1, h2⟩ | ⟨h1, h2⟩
    · rw [va_up_ne cy cA (Nat.ne_of_lt h1)]
      exact h.2.2.2.1 k x h2
    · subst h1
      rw [va_up_self]
      exact ht x h2.symm
  · rw [List.length_append]
    rcases hcase k _ hk with ⟨h1, h2⟩ | ⟨h1, h2⟩
    · exact mj_rf_mono (h.2.2.2.2 k x h2) (Nat.le_add_right _ _)
    · rw [h2]; exact mj_rf_mono hc (Nat.le_add_right _ _)
section GA
variable {y : MethodName} {cc : ByteArray} {nL : Nat} {rt : Option FieldType} {hh : List (Nat × Nat × Nat × Nat)} {d : Nat} {sc : Option (Nat × (Nat → Int32))} {pc : Nat} {ls : List (Nat × Value)} {st : List Value} {A : mj_H} {post : mj_O → mj_H → Prop}
/-- what a fresh cell at the end of the heap leaves of the rest -/
theorem mj_fresh {ad ad0 : Nat → Nat} {q n0 n : Nat} (hE : mj_Ext ad ad0 n0 n) (hn : n0 ≤ n) (hm : n < 1000000) : mj_Ext (va_up ad n q) ad0 n0 (n + 1) ∧ mj_Ext (va_up ad n q) ad n (n + 1) ∧ n0 ≤ n + 1 := by
  refine ⟨fun k hk => ?_, fun k hk => ?_, by omega⟩
  · rw [va_up_ne ad q (by omega)]; exact hE k (by omega)
  · exact va_up_ne ad q (by omega)
theorem mj_ls_bd {ad ad' : Nat → Nat} {n n1 : Nat} (h : ls.all (fun q => mj_bd n q.2) = true) (he : mj_Ext ad' ad n n1) (h1 : n1 ≤ 1000000) : mj_ls ad' ls = mj_ls ad ls := by
  unfold mj_ls
  exact List.map_congr_left (fun q hq => by rw [mj_bd_ext (List.all_eq_true.mp h q hq) he h1])
theorem mj_st_bd {ad ad' : Nat → Nat} {n n1 : Nat} (h : st.all (mj_bd n) = true) (he : mj_Ext ad' ad n n1) (h1 : n1 ≤ 1000000) : st.map (mj_v ad') = st.map (mj_v ad) :=
  List.map_congr_left (fun q hq => mj_bd_ext (List.all_eq_true.mp h q hq) he h1)
theorem mj_Z_bd {ad ad' : Nat → Nat} {n n1 : Nat} {F : Nat → Prop} {s : State} (hZ : mj_Z sc ad F s) (he : mj_Ext ad' ad n n1) (h1 : n1 ≤ 1000000) : mj_Z sc ad' F s := by
  cases sc with
  | none => trivial
  | some q =>
    have e9 : ad' 1000000 = ad 1000000 := he 1000000 (Or.inr h1)
    show va_X (ad' 1000000) q.1 q.2 s s.heap ∧ ad' 1000000 < s.heap.size ∧ ¬ F (ad' 1000000)
    rw [e9]; exact hZ
theorem G_new {index ci N : Nat} {C : String} {T : u_T} (ty : Nat → FieldType) {fs : List Value} (hd : decode cc pc = .ok (.new index, 3)) (hcl : mj_cl[ci]? = some (C, T, N)) (hin : ∀ w ∈ u_ws C T N, w ∈ tw_tbl) (hty : ∀ k, k < N → parseFieldDescriptor (T k).2.2.1 = some (ty k)) (hlk : Cond.classLink y.cls index C ∈ tw_tbl) (hins : Cond.instantiable C N ∈ tw_tbl) (hini : Cond.initialized C ∈ tw_tbl)
    (hfs : ∀ j, j < N → defaultValue (ty j) = vp_V fs j) (hnr : ∀ ad, fs.map (mj_v ad) = fs) (hr1 : A.2.1 + 1 ≤ 601024) (hr2 : A.2.2 + N ≤ 7293034) (hm : A.1.length < 1000000) (hbl : ls.all (fun q => mj_bd A.1.length q.2) = true) (hbs : st.all (mj_bd A.1.length) = true) (hrf : mj_rf A.1.length (.inr (ci, fs)))
    (kk : mj_G y cc nL rt hh d sc (pc + 3) ls (.ref A.1.length :: st) (A.1 ++ [.inr (ci, fs)], A.2.1 + 1, A.2.2 + N) post) : mj_G y cc nL rt hh d sc pc ls st A post := by
  intro p l e R s m args below meth c H locs cells slots F nc ns D ad ad0 cy n0 lsC hX hZ hH hE hn hS hc hs hl
  have hts := hX.2.2.2.2.2.2.2.2.1
  have hroom := hX.2.2.2.2.2.2.2.2.2.2.1
  refine va_new (ci := ci) (fs := fs) hX.1 hX.2.2.1 hts hin ty hty hX.2.2.2.2.2.2.2.1 (hts _ hlk) (hts _ hins) (hts _ hini) hH.2.2.1 hH.1 hH.2.1 hS hX.2.2.2.2.2.2.2.2.2.2.2.1 hcl hfs (by have := hroom.2.2.1; omega) (by have := hroom.2.2.2; omega) hd (fun q H1 hP hD hS1 => ?_)
  have e1 : mj_E ad (cy 0) (.inr (ci, fs)) = .inr (ci, fs) := by show Sum.inr (ci, fs.map (mj_v ad)) = _; rw [hnr]
  rw [← e1] at hP hD
  have hH1 := mj_Hp_push hH hP hD hrf (fun x hx => by cases hx)
  obtain ⟨g1, g2, g3⟩ := mj_fresh (q := q) hE hn hm
  have hlen : (A.1 ++ [(.inr (ci, fs) : mj_C)]).length = A.1.length + 1 := by simp
  have K := kk p l e R s m args below meth c H1 locs (cells + 1) (slots + N) F nc ns D (va_up ad A.1.length q) ad0 (va_up cy A.1.length (cy 0)) n0 lsC hX (mj_Z_bd hZ g2 hm) hH1 (by rw [hlen]; exact g1) (by rw [hlen]; exact g3) hS1 ⟨by show A.2.1 + 1 = _; omega, hr1⟩ ⟨by show A.2.2 + N = _; omega, hr2⟩ (by rw [mj_ls_bd hbl g2 hm]; exact hl)
  rw [List.map_cons, mj_st_bd hbs g2 hm] at K
  have e2 : mj_v (va_up ad A.1.length q) (.ref A.1.length) = .ref q := by show Value.ref (va_up ad A.1.length q A.1.length) = _; rw [va_up_self]
  rw [e2] at K
  exact K
theorem G_newa {atype : ArrayType} {n : Int32} {N tg : Nat} {a0 : vp_A} (hd : decode cc pc = .ok (.newarray atype, 2)) (harr : Cond.arrayClass (newarray.typeOf atype) ∈ tw_tbl) (hty : newarray.typeOf atype = mj_ty tg) (ha : ∀ cA : ClassId, vp_cell cA a0 = arrV cA N (fun _ => defaultValue (mj_ty tg))) (hnr : ∀ ad, mj_A ad a0 = a0) (hn0 : ¬ n < 0) (hN : n.toNatClampNeg = N) (hb : N * componentBytes (mj_ty tg) ≤ 536870912)
    (hr1 : A.2.1 + 1 ≤ 601024) (hr2 : A.2.2 + N ≤ 7293034) (hm : A.1.length < 1000000) (hbl : ls.all (fun q => mj_bd A.1.length q.2) = true) (hbs : st.all (mj_bd A.1.length) = true) (hrf : mj_rf A.1.length (.inl (tg, a0)))
    (kk : mj_G y cc nL rt hh d sc (pc + 2) ls (.ref A.1.length :: st) (A.1 ++ [.inl (tg, a0)], A.2.1 + 1, A.2.2 + N) post) : mj_G y cc nL rt hh d sc pc ls (.int n :: st) A post := by
  intro p l e R s m args below meth c H locs cells slots F nc ns D ad ad0 cy n0 lsC hX hZ hH hE hn hS hc hs hl
  have hts := hX.2.2.2.2.2.2.2.2.1
  have hroom := hX.2.2.2.2.2.2.2.2.2.2.1
  refine va_newa (a0 := a0) hX.1 hX.2.2.1 (hts _ harr) hty hH.2.2.1 hH.1 hH.2.1 hS hX.2.2.2.2.2.2.2.2.2.2.2.1 ha hn0 hN hb (by have := hroom.2.2.1; omega) (by have := hroom.2.2.2; omega) hd (fun q cA H1 hK hP hD hS1 => ?_)
  have e1 : mj_E ad cA (.inl (tg, a0)) = .inl (cA, a0) := by show Sum.inl (cA, mj_A ad a0) = _; rw [hnr]
  rw [← e1] at hP hD
  have hH1 := mj_Hp_push hH hP hD hrf (fun x hx => by cases hx; exact hK.2 0 _ rfl)
  obtain ⟨g1, g2, g3⟩ := mj_fresh (q := q) hE hn hm
  have hlen : (A.1 ++ [(.inl (tg, a0) : mj_C)]).length = A.1.length + 1 := by simp
  have K := kk p l e R s m args below meth c H1 locs (cells + 1) (slots + N) F nc ns D (va_up ad A.1.length q) ad0 (va_up cy A.1.length cA) n0 lsC hX (mj_Z_bd hZ g2 hm) hH1 (by rw [hlen]; exact g1) (by rw [hlen]; exact g3) hS1 ⟨by show A.2.1 + 1 = _; omega, hr1⟩ ⟨by show A.2.2 + N = _; omega, hr2⟩ (by rw [mj_ls_bd hbl g2 hm]; exact hl)
  rw [List.map_cons, mj_st_bd hbs g2 hm] at K
  have e2 : mj_v (va_up ad A.1.length q) (.ref A.1.length) = .ref q := by show Value.ref (va_up ad A.1.length q A.1.length) = _; rw [va_up_self]
  rw [e2] at K
  exact K
end GA
end
section
theorem d_C_init_0 : decode b_C_init 0 = .ok (.aload_n 0, 1) := by decide +kernel
theorem d_C_init_1 : decode b_C_init 1 = .ok (.invokespecial 1, 3) := by decide +kernel
theorem d_C_init_4 : decode b_C_init 4 = .ok (.aload_n 0, 1) := by decide +kernel
theorem d_C_init_5 : decode b_C_init 5 = .ok (.new 7, 3) := by decide +kernel
theorem d_C_init_8 : decode b_C_init 8 = .ok (.dup, 1) := by decide +kernel
theorem d_C_init_9 : decode b_C_init 9 = .ok (.invokespecial 9, 3) := by decide +kernel
theorem d_C_init_12 : decode b_C_init 12 = .ok (.putfield 10, 3) := by decide +kernel
theorem d_C_init_15 : decode b_C_init 15 = .ok (.aload_n 0, 1) := by decide +kernel
theorem d_C_init_16 : decode b_C_init 16 = .ok (.new 16, 3) := by decide +kernel
theorem d_C_init_19 : decode b_C_init 19 = .ok (.dup, 1) := by decide +kernel
theorem d_C_init_20 : decode b_C_init 20 = .ok (.invokespecial 18, 3) := by decide +kernel
theorem d_C_init_23 : decode b_C_init 23 = .ok (.putfield 19, 3) := by decide +kernel
theorem d_C_init_26 : decode b_C_init 26 = .ok (.aload_n 0, 1) := by decide +kernel
theorem d_C_init_27 : decode b_C_init 27 = .ok (.new 23, 3) := by decide +kernel
theorem d_C_init_30 : decode b_C_init 30 = .ok (.dup, 1) := by decide +kernel
theorem d_C_init_31 : decode b_C_init 31 = .ok (.aload_n 0, 1) := by decide +kernel
theorem d_C_init_32 : decode b_C_init 32 = .ok (.getfield 10, 3) := by decide +kernel
theorem d_C_init_35 : decode b_C_init 35 = .ok (.aload_n 0, 1) := by decide +kernel
theorem d_C_init_36 : decode b_C_init 36 = .ok (.getfield 19, 3) := by decide +kernel
theorem d_C_init_39 : decode b_C_init 39 = .ok (.bipush 8, 2) := by decide +kernel
theorem d_C_init_41 : decode b_C_init 41 = .ok (.bipush 40, 2) := by decide +kernel
theorem d_C_init_43 : decode b_C_init 43 = .ok (.invokespecial 25, 3) := by decide +kernel
theorem d_C_init_46 : decode b_C_init 46 = .ok (.putfield 28, 3) := by decide +kernel
theorem d_C_init_49 : decode b_C_init 49 = .ok (.aload_n 0, 1) := by decide +kernel
theorem d_C_init_50 : decode b_C_init 50 = .ok (.new 23, 3) := by decide +kernel
theorem d_C_init_53 : decode b_C_init 53 = .ok (.dup, 1) := by decide +kernel
theorem d_C_init_54 : decode b_C_init 54 = .ok (.aload_n 0, 1) := by decide +kernel
theorem d_C_init_55 : decode b_C_init 55 = .ok (.getfield 10, 3) := by decide +kernel
theorem d_C_init_58 : decode b_C_init 58 = .ok (.aload_n 0, 1) := by decide +kernel
theorem d_C_init_59 : decode b_C_init 59 = .ok (.getfield 19, 3) := by decide +kernel
theorem d_C_init_62 : decode b_C_init 62 = .ok (.iconst 2, 1) := by decide +kernel
theorem d_C_init_63 : decode b_C_init 63 = .ok (.bipush 24, 2) := by decide +kernel
theorem d_C_init_65 : decode b_C_init 65 = .ok (.invokespecial 25, 3) := by decide +kernel
theorem d_C_init_68 : decode b_C_init 68 = .ok (.putfield 32, 3) := by decide +kernel
theorem d_C_init_71 : decode b_C_init 71 = .ok (.return_, 1) := by decide +kernel
theorem d_S_init_0 : decode b_S_init 0 = .ok (.aload_n 0, 1) := by decide +kernel
theorem d_S_init_1 : decode b_S_init 1 = .ok (.invokespecial 3, 3) := by decide +kernel
theorem d_S_init_4 : decode b_S_init 4 = .ok (.aload_n 0, 1) := by decide +kernel
theorem d_S_init_5 : decode b_S_init 5 = .ok (.iconst 1, 1) := by decide +kernel
theorem d_S_init_6 : decode b_S_init 6 = .ok (.putfield 9, 3) := by decide +kernel
theorem d_S_init_9 : decode b_S_init 9 = .ok (.aload_n 0, 1) := by decide +kernel
theorem d_S_init_10 : decode b_S_init 10 = .ok (.iconst 0, 1) := by decide +kernel
theorem d_S_init_11 : decode b_S_init 11 = .ok (.putfield 15, 3) := by decide +kernel
theorem d_S_init_14 : decode b_S_init 14 = .ok (.aload_n 0, 1) := by decide +kernel
theorem d_S_init_15 : decode b_S_init 15 = .ok (.iconst 1, 1) := by decide +kernel
theorem d_S_init_16 : decode b_S_init 16 = .ok (.putfield 18, 3) := by decide +kernel
theorem d_S_init_19 : decode b_S_init 19 = .ok (.aload_n 0, 1) := by decide +kernel
theorem d_S_init_20 : decode b_S_init 20 = .ok (.iconst 0, 1) := by decide +kernel
theorem d_S_init_21 : decode b_S_init 21 = .ok (.putfield 21, 3) := by decide +kernel
theorem d_S_init_24 : decode b_S_init 24 = .ok (.aload_n 0, 1) := by decide +kernel
theorem d_S_init_25 : decode b_S_init 25 = .ok (.bipush 12, 2) := by decide +kernel
theorem d_S_init_27 : decode b_S_init 27 = .ok (.newarray .int, 2) := by decide +kernel
theorem d_S_init_29 : decode b_S_init 29 = .ok (.putfield 24, 3) := by decide +kernel
theorem d_S_init_32 : decode b_S_init 32 = .ok (.aload_n 0, 1) := by decide +kernel
theorem d_S_init_33 : decode b_S_init 33 = .ok (.bipush 30, 2) := by decide +kernel
theorem d_S_init_35 : decode b_S_init 35 = .ok (.newarray .int, 2) := by decide +kernel
theorem d_S_init_37 : decode b_S_init 37 = .ok (.putfield 28, 3) := by decide +kernel
theorem d_S_init_40 : decode b_S_init 40 = .ok (.aload_n 0, 1) := by decide +kernel
theorem d_S_init_41 : decode b_S_init 41 = .ok (.bipush 30, 2) := by decide +kernel
theorem d_S_init_43 : decode b_S_init 43 = .ok (.newarray .int, 2) := by decide +kernel
theorem d_S_init_45 : decode b_S_init 45 = .ok (.putfield 31, 3) := by decide +kernel
theorem d_S_init_48 : decode b_S_init 48 = .ok (.aload_n 0, 1) := by decide +kernel
theorem d_S_init_49 : decode b_S_init 49 = .ok (.bipush 30, 2) := by decide +kernel
theorem d_S_init_51 : decode b_S_init 51 = .ok (.newarray .int, 2) := by decide +kernel
theorem d_S_init_53 : decode b_S_init 53 = .ok (.putfield 34, 3) := by decide +kernel
theorem d_S_init_56 : decode b_S_init 56 = .ok (.aload_n 0, 1) := by decide +kernel
theorem d_S_init_57 : decode b_S_init 57 = .ok (.bipush 30, 2) := by decide +kernel
theorem d_S_init_59 : decode b_S_init 59 = .ok (.newarray .int, 2) := by decide +kernel
theorem d_S_init_61 : decode b_S_init 61 = .ok (.putfield 37, 3) := by decide +kernel
theorem d_S_init_64 : decode b_S_init 64 = .ok (.return_, 1) := by decide +kernel
theorem d_P_init_0 : decode b_P_init 0 = .ok (.aload_n 0, 1) := by decide +kernel
theorem d_P_init_1 : decode b_P_init 1 = .ok (.invokespecial 3, 3) := by decide +kernel
theorem d_P_init_4 : decode b_P_init 4 = .ok (.aload_n 0, 1) := by decide +kernel
theorem d_P_init_5 : decode b_P_init 5 = .ok (.iconst 0, 1) := by decide +kernel
theorem d_P_init_6 : decode b_P_init 6 = .ok (.putfield 9, 3) := by decide +kernel
theorem d_P_init_9 : decode b_P_init 9 = .ok (.aload_n 0, 1) := by decide +kernel
theorem d_P_init_10 : decode b_P_init 10 = .ok (.sipush 200, 3) := by decide +kernel
theorem d_P_init_13 : decode b_P_init 13 = .ok (.newarray .int, 2) := by decide +kernel
theorem d_P_init_15 : decode b_P_init 15 = .ok (.putfield 15, 3) := by decide +kernel
theorem d_P_init_18 : decode b_P_init 18 = .ok (.aload_n 0, 1) := by decide +kernel
theorem d_P_init_19 : decode b_P_init 19 = .ok (.sipush 200, 3) := by decide +kernel
theorem d_P_init_22 : decode b_P_init 22 = .ok (.newarray .int, 2) := by decide +kernel
theorem d_P_init_24 : decode b_P_init 24 = .ok (.putfield 19, 3) := by decide +kernel
theorem d_P_init_27 : decode b_P_init 27 = .ok (.aload_n 0, 1) := by decide +kernel
theorem d_P_init_28 : decode b_P_init 28 = .ok (.sipush 200, 3) := by decide +kernel
theorem d_P_init_31 : decode b_P_init 31 = .ok (.newarray .int, 2) := by decide +kernel
theorem d_P_init_33 : decode b_P_init 33 = .ok (.putfield 22, 3) := by decide +kernel
theorem d_P_init_36 : decode b_P_init 36 = .ok (.aload_n 0, 1) := by decide +kernel
theorem d_P_init_37 : decode b_P_init 37 = .ok (.sipush 200, 3) := by decide +kernel
theorem d_P_init_40 : decode b_P_init 40 = .ok (.newarray .int, 2) := by decide +kernel
theorem d_P_init_42 : decode b_P_init 42 = .ok (.putfield 25, 3) := by decide +kernel
theorem d_P_init_45 : decode b_P_init 45 = .ok (.aload_n 0, 1) := by decide +kernel
theorem d_P_init_46 : decode b_P_init 46 = .ok (.sipush 200, 3) := by decide +kernel
theorem d_P_init_49 : decode b_P_init 49 = .ok (.newarray .int, 2) := by decide +kernel
theorem d_P_init_51 : decode b_P_init 51 = .ok (.putfield 28, 3) := by decide +kernel
theorem d_P_init_54 : decode b_P_init 54 = .ok (.aload_n 0, 1) := by decide +kernel
theorem d_P_init_55 : decode b_P_init 55 = .ok (.sipush 200, 3) := by decide +kernel
theorem d_P_init_58 : decode b_P_init 58 = .ok (.newarray .int, 2) := by decide +kernel
theorem d_P_init_60 : decode b_P_init 60 = .ok (.putfield 31, 3) := by decide +kernel
theorem d_P_init_63 : decode b_P_init 63 = .ok (.return_, 1) := by decide +kernel
theorem d_H_init_0 : decode b_H_init 0 = .ok (.aload_n 0, 1) := by decide +kernel
theorem d_H_init_1 : decode b_H_init 1 = .ok (.invokespecial 3, 3) := by decide +kernel
theorem d_H_init_4 : decode b_H_init 4 = .ok (.aload_n 0, 1) := by decide +kernel
theorem d_H_init_5 : decode b_H_init 5 = .ok (.aload_n 1, 1) := by decide +kernel
theorem d_H_init_6 : decode b_H_init 6 = .ok (.putfield 9, 3) := by decide +kernel
theorem d_H_init_9 : decode b_H_init 9 = .ok (.aload_n 0, 1) := by decide +kernel
theorem d_H_init_10 : decode b_H_init 10 = .ok (.aload_n 2, 1) := by decide +kernel
theorem d_H_init_11 : decode b_H_init 11 = .ok (.putfield 15, 3) := by decide +kernel
theorem d_H_init_14 : decode b_H_init 14 = .ok (.aload_n 0, 1) := by decide +kernel
theorem d_H_init_15 : decode b_H_init 15 = .ok (.iload_n 3, 1) := by decide +kernel
theorem d_H_init_16 : decode b_H_init 16 = .ok (.newarray .long, 2) := by decide +kernel
theorem d_H_init_18 : decode b_H_init 18 = .ok (.putfield 19, 3) := by decide +kernel
theorem d_H_init_21 : decode b_H_init 21 = .ok (.aload_n 0, 1) := by decide +kernel
theorem d_H_init_22 : decode b_H_init 22 = .ok (.iload_n 3, 1) := by decide +kernel
theorem d_H_init_23 : decode b_H_init 23 = .ok (.iload 4, 2) := by decide +kernel
theorem d_H_init_25 : decode b_H_init 25 = .ok (.multianewarray 23 2, 4) := by decide +kernel
theorem d_H_init_29 : decode b_H_init 29 = .ok (.putfield 25, 3) := by decide +kernel
theorem d_H_init_32 : decode b_H_init 32 = .ok (.aload_n 0, 1) := by decide +kernel
theorem d_H_init_33 : decode b_H_init 33 = .ok (.iload 4, 2) := by decide +kernel
theorem d_H_init_35 : decode b_H_init 35 = .ok (.newarray .int, 2) := by decide +kernel
theorem d_H_init_37 : decode b_H_init 37 = .ok (.putfield 28, 3) := by decide +kernel
theorem d_H_init_40 : decode b_H_init 40 = .ok (.aload_n 0, 1) := by decide +kernel
theorem d_H_init_41 : decode b_H_init 41 = .ok (.iload 4, 2) := by decide +kernel
theorem d_H_init_43 : decode b_H_init 43 = .ok (.newarray .int, 2) := by decide +kernel
theorem d_H_init_45 : decode b_H_init 45 = .ok (.putfield 32, 3) := by decide +kernel
theorem d_H_init_48 : decode b_H_init 48 = .ok (.aload_n 0, 1) := by decide +kernel
theorem d_H_init_49 : decode b_H_init 49 = .ok (.iload 4, 2) := by decide +kernel
theorem d_H_init_51 : decode b_H_init 51 = .ok (.newarray .int, 2) := by decide +kernel
theorem d_H_init_53 : decode b_H_init 53 = .ok (.putfield 35, 3) := by decide +kernel
theorem d_H_init_56 : decode b_H_init 56 = .ok (.aload_n 0, 1) := by decide +kernel
theorem d_H_init_57 : decode b_H_init 57 = .ok (.iload 4, 2) := by decide +kernel
theorem d_H_init_59 : decode b_H_init 59 = .ok (.newarray .int, 2) := by decide +kernel
theorem d_H_init_61 : decode b_H_init 61 = .ok (.putfield 38, 3) := by decide +kernel
theorem d_H_init_64 : decode b_H_init 64 = .ok (.aload_n 0, 1) := by decide +kernel
theorem d_H_init_65 : decode b_H_init 65 = .ok (.iconst 0, 1) := by decide +kernel
theorem d_H_init_66 : decode b_H_init 66 = .ok (.invokevirtual 41, 3) := by decide +kernel
theorem d_H_init_69 : decode b_H_init 69 = .ok (.return_, 1) := by decide +kernel
theorem d_H_clear_0 : decode b_H_clear 0 = .ok (.aload_n 0, 1) := by decide +kernel
theorem d_H_clear_1 : decode b_H_clear 1 = .ok (.iload_n 1, 1) := by decide +kernel
theorem d_H_clear_2 : decode b_H_clear 2 = .ok (.putfield 45, 3) := by decide +kernel
theorem d_H_clear_5 : decode b_H_clear 5 = .ok (.aload_n 0, 1) := by decide +kernel
theorem d_H_clear_6 : decode b_H_clear 6 = .ok (.iconst 0, 1) := by decide +kernel
theorem d_H_clear_7 : decode b_H_clear 7 = .ok (.putfield 49, 3) := by decide +kernel
theorem d_H_clear_10 : decode b_H_clear 10 = .ok (.aload_n 0, 1) := by decide +kernel
theorem d_H_clear_11 : decode b_H_clear 11 = .ok (.iconst 1, 1) := by decide +kernel
theorem d_H_clear_12 : decode b_H_clear 12 = .ok (.putfield 52, 3) := by decide +kernel
theorem d_H_clear_15 : decode b_H_clear 15 = .ok (.aload_n 0, 1) := by decide +kernel
theorem d_H_clear_16 : decode b_H_clear 16 = .ok (.iconst 0, 1) := by decide +kernel
theorem d_H_clear_17 : decode b_H_clear 17 = .ok (.putfield 55, 3) := by decide +kernel
theorem d_H_clear_20 : decode b_H_clear 20 = .ok (.aload_n 0, 1) := by decide +kernel
theorem d_H_clear_21 : decode b_H_clear 21 = .ok (.getfield 28, 3) := by decide +kernel
theorem d_H_clear_24 : decode b_H_clear 24 = .ok (.iconst 0, 1) := by decide +kernel
theorem d_H_clear_25 : decode b_H_clear 25 = .ok (.iload_n 1, 1) := by decide +kernel
theorem d_H_clear_26 : decode b_H_clear 26 = .ok (.iastore, 1) := by decide +kernel
theorem d_H_clear_27 : decode b_H_clear 27 = .ok (.return_, 1) := by decide +kernel
theorem d_C_open_0 : decode b_C_open 0 = .ok (.aload_n 0, 1) := by decide +kernel
theorem d_C_open_1 : decode b_C_open 1 = .ok (.getfield 28, 3) := by decide +kernel
theorem d_C_open_4 : decode b_C_open 4 = .ok (.invokevirtual 131, 3) := by decide +kernel
theorem d_C_open_7 : decode b_C_open 7 = .ok (.ireturn, 1) := by decide +kernel
theorem d_H_leavesSome_0 : decode b_H_leavesSome 0 = .ok (.aload_n 0, 1) := by decide +kernel
theorem d_H_leavesSome_1 : decode b_H_leavesSome 1 = .ok (.getfield 9, 3) := by decide +kernel
theorem d_H_leavesSome_4 : decode b_H_leavesSome 4 = .ok (.aload_n 0, 1) := by decide +kernel
theorem d_H_leavesSome_5 : decode b_H_leavesSome 5 = .ok (.getfield 45, 3) := by decide +kernel
theorem d_H_leavesSome_8 : decode b_H_leavesSome 8 = .ok (.invokevirtual 100, 3) := by decide +kernel
theorem d_H_leavesSome_11 : decode b_H_leavesSome 11 = .ok (.ifCond .eq 24, 3) := by decide +kernel
theorem d_H_leavesSome_14 : decode b_H_leavesSome 14 = .ok (.aload_n 0, 1) := by decide +kernel
theorem d_H_leavesSome_15 : decode b_H_leavesSome 15 = .ok (.iconst 1, 1) := by decide +kernel
theorem d_H_leavesSome_16 : decode b_H_leavesSome 16 = .ok (.aload_n 0, 1) := by decide +kernel
theorem d_H_leavesSome_17 : decode b_H_leavesSome 17 = .ok (.getfield 49, 3) := by decide +kernel
theorem d_H_leavesSome_20 : decode b_H_leavesSome 20 = .ok (.ishl, 1) := by decide +kernel
theorem d_H_leavesSome_21 : decode b_H_leavesSome 21 = .ok (.iconst 1, 1) := by decide +kernel
theorem d_H_leavesSome_22 : decode b_H_leavesSome 22 = .ok (.isub, 1) := by decide +kernel
theorem d_H_leavesSome_23 : decode b_H_leavesSome 23 = .ok (.lconst 0, 1) := by decide +kernel
theorem d_H_leavesSome_24 : decode b_H_leavesSome 24 = .ok (.iconst 0, 1) := by decide +kernel
theorem d_H_leavesSome_25 : decode b_H_leavesSome 25 = .ok (.invokevirtual 96, 3) := by decide +kernel
theorem d_H_leavesSome_28 : decode b_H_leavesSome 28 = .ok (.ifCond .eq 7, 3) := by decide +kernel
theorem d_H_leavesSome_31 : decode b_H_leavesSome 31 = .ok (.iconst 1, 1) := by decide +kernel
theorem d_H_leavesSome_32 : decode b_H_leavesSome 32 = .ok (.goto 4, 3) := by decide +kernel
theorem d_H_leavesSome_35 : decode b_H_leavesSome 35 = .ok (.iconst 0, 1) := by decide +kernel
theorem d_H_leavesSome_36 : decode b_H_leavesSome 36 = .ok (.ireturn, 1) := by decide +kernel
theorem d_S_isSortLiving_0 : decode b_S_isSortLiving 0 = .ok (.aload_n 0, 1) := by decide +kernel
theorem d_S_isSortLiving_1 : decode b_S_isSortLiving 1 = .ok (.getfield 18, 3) := by decide +kernel
theorem d_S_isSortLiving_4 : decode b_S_isSortLiving 4 = .ok (.iload_n 1, 1) := by decide +kernel
theorem d_S_isSortLiving_5 : decode b_S_isSortLiving 5 = .ok (.ishr, 1) := by decide +kernel
theorem d_S_isSortLiving_6 : decode b_S_isSortLiving 6 = .ok (.iconst 1, 1) := by decide +kernel
theorem d_S_isSortLiving_7 : decode b_S_isSortLiving 7 = .ok (.iand, 1) := by decide +kernel
theorem d_S_isSortLiving_8 : decode b_S_isSortLiving 8 = .ok (.ifCond .eq 7, 3) := by decide +kernel
theorem d_S_isSortLiving_11 : decode b_S_isSortLiving 11 = .ok (.iconst 1, 1) := by decide +kernel
theorem d_S_isSortLiving_12 : decode b_S_isSortLiving 12 = .ok (.goto 4, 3) := by decide +kernel
theorem d_S_isSortLiving_15 : decode b_S_isSortLiving 15 = .ok (.iconst 0, 1) := by decide +kernel
theorem d_S_isSortLiving_16 : decode b_S_isSortLiving 16 = .ok (.ireturn, 1) := by decide +kernel
theorem d_H_escapes_0 : decode b_H_escapes 0 = .ok (.iload_n 1, 1) := by decide +kernel
theorem d_H_escapes_1 : decode b_H_escapes 1 = .ok (.ifCond .ne 5, 3) := by decide +kernel
theorem d_H_escapes_4 : decode b_H_escapes 4 = .ok (.iconst 1, 1) := by decide +kernel
theorem d_H_escapes_5 : decode b_H_escapes 5 = .ok (.ireturn, 1) := by decide +kernel
theorem d_H_escapes_6 : decode b_H_escapes 6 = .ok (.aload_n 0, 1) := by decide +kernel
theorem d_H_escapes_7 : decode b_H_escapes 7 = .ok (.getfield 19, 3) := by decide +kernel
theorem d_H_escapes_10 : decode b_H_escapes 10 = .ok (.aload_n 0, 1) := by decide +kernel
theorem d_H_escapes_11 : decode b_H_escapes 11 = .ok (.iload_n 1, 1) := by decide +kernel
theorem d_H_escapes_12 : decode b_H_escapes 12 = .ok (.lload_n 2, 1) := by decide +kernel
theorem d_H_escapes_13 : decode b_H_escapes 13 = .ok (.invokevirtual 116, 3) := by decide +kernel
theorem d_H_escapes_16 : decode b_H_escapes 16 = .ok (.laload, 1) := by decide +kernel
theorem d_H_escapes_17 : decode b_H_escapes 17 = .ok (.lload_n 2, 1) := by decide +kernel
theorem d_H_escapes_18 : decode b_H_escapes 18 = .ok (.ldc2_w 120, 3) := by decide +kernel
theorem d_H_escapes_21 : decode b_H_escapes 21 = .ok (.lxor, 1) := by decide +kernel
theorem d_H_escapes_22 : decode b_H_escapes 22 = .ok (.land, 1) := by decide +kernel
theorem d_H_escapes_23 : decode b_H_escapes 23 = .ok (.lstore 5, 2) := by decide +kernel
theorem d_H_escapes_25 : decode b_H_escapes 25 = .ok (.lload 5, 2) := by decide +kernel
theorem d_H_escapes_27 : decode b_H_escapes 27 = .ok (.lconst 0, 1) := by decide +kernel
theorem d_H_escapes_28 : decode b_H_escapes 28 = .ok (.lcmp, 1) := by decide +kernel
theorem d_H_escapes_29 : decode b_H_escapes 29 = .ok (.ifCond .eq 10, 3) := by decide +kernel
theorem d_H_escapes_32 : decode b_H_escapes 32 = .ok (.iload 4, 2) := by decide +kernel
theorem d_H_escapes_34 : decode b_H_escapes 34 = .ok (.bipush 40, 2) := by decide +kernel
theorem d_H_escapes_36 : decode b_H_escapes 36 = .ok (.if_icmp .lt 5, 3) := by decide +kernel
theorem d_H_escapes_39 : decode b_H_escapes 39 = .ok (.iconst 0, 1) := by decide +kernel
theorem d_H_escapes_40 : decode b_H_escapes 40 = .ok (.ireturn, 1) := by decide +kernel
theorem d_H_escapes_41 : decode b_H_escapes 41 = .ok (.lload 5, 2) := by decide +kernel
theorem d_H_escapes_43 : decode b_H_escapes 43 = .ok (.invokestatic 122, 3) := by decide +kernel
theorem d_H_escapes_46 : decode b_H_escapes 46 = .ok (.istore 7, 2) := by decide +kernel
theorem d_H_escapes_48 : decode b_H_escapes 48 = .ok (.lload_n 2, 1) := by decide +kernel
theorem d_H_escapes_49 : decode b_H_escapes 49 = .ok (.lconst 1, 1) := by decide +kernel
theorem d_H_escapes_50 : decode b_H_escapes 50 = .ok (.iload 7, 2) := by decide +kernel
theorem d_H_escapes_52 : decode b_H_escapes 52 = .ok (.lshl, 1) := by decide +kernel
theorem d_H_escapes_53 : decode b_H_escapes 53 = .ok (.lor, 1) := by decide +kernel
theorem d_H_escapes_54 : decode b_H_escapes 54 = .ok (.lstore 8, 2) := by decide +kernel
theorem d_H_escapes_56 : decode b_H_escapes 56 = .ok (.aload_n 0, 1) := by decide +kernel
theorem d_H_escapes_57 : decode b_H_escapes 57 = .ok (.iload_n 1, 1) := by decide +kernel
theorem d_H_escapes_58 : decode b_H_escapes 58 = .ok (.iload 7, 2) := by decide +kernel
theorem d_H_escapes_60 : decode b_H_escapes 60 = .ok (.invokevirtual 128, 3) := by decide +kernel
theorem d_H_escapes_63 : decode b_H_escapes 63 = .ok (.istore 10, 2) := by decide +kernel
theorem d_H_escapes_65 : decode b_H_escapes 65 = .ok (.aload_n 0, 1) := by decide +kernel
theorem d_H_escapes_66 : decode b_H_escapes 66 = .ok (.getfield 28, 3) := by decide +kernel
theorem d_H_escapes_69 : decode b_H_escapes 69 = .ok (.iload 7, 2) := by decide +kernel
theorem d_H_escapes_71 : decode b_H_escapes 71 = .ok (.iaload, 1) := by decide +kernel
theorem d_H_escapes_72 : decode b_H_escapes 72 = .ok (.ifCond .ne 16, 3) := by decide +kernel
theorem d_H_escapes_75 : decode b_H_escapes 75 = .ok (.aload_n 0, 1) := by decide +kernel
theorem d_H_escapes_76 : decode b_H_escapes 76 = .ok (.iload 10, 2) := by decide +kernel
theorem d_H_escapes_78 : decode b_H_escapes 78 = .ok (.lload 8, 2) := by decide +kernel
theorem d_H_escapes_80 : decode b_H_escapes 80 = .ok (.iload 4, 2) := by decide +kernel
theorem d_H_escapes_82 : decode b_H_escapes 82 = .ok (.iconst 1, 1) := by decide +kernel
theorem d_H_escapes_83 : decode b_H_escapes 83 = .ok (.iadd, 1) := by decide +kernel
theorem d_H_escapes_84 : decode b_H_escapes 84 = .ok (.invokevirtual 96, 3) := by decide +kernel
theorem d_H_escapes_87 : decode b_H_escapes 87 = .ok (.ireturn, 1) := by decide +kernel
theorem d_H_escapes_88 : decode b_H_escapes 88 = .ok (.aload_n 0, 1) := by decide +kernel
theorem d_H_escapes_89 : decode b_H_escapes 89 = .ok (.getfield 9, 3) := by decide +kernel
theorem d_H_escapes_92 : decode b_H_escapes 92 = .ok (.aload_n 0, 1) := by decide +kernel
theorem d_H_escapes_93 : decode b_H_escapes 93 = .ok (.getfield 28, 3) := by decide +kernel
theorem d_H_escapes_96 : decode b_H_escapes 96 = .ok (.iload 7, 2) := by decide +kernel
theorem d_H_escapes_98 : decode b_H_escapes 98 = .ok (.iaload, 1) := by decide +kernel
theorem d_H_escapes_99 : decode b_H_escapes 99 = .ok (.invokevirtual 131, 3) := by decide +kernel
theorem d_H_escapes_102 : decode b_H_escapes 102 = .ok (.istore 11, 2) := by decide +kernel
theorem d_H_escapes_104 : decode b_H_escapes 104 = .ok (.iload 11, 2) := by decide +kernel
theorem d_H_escapes_106 : decode b_H_escapes 106 = .ok (.aload_n 0, 1) := by decide +kernel
theorem d_H_escapes_107 : decode b_H_escapes 107 = .ok (.iload_n 1, 1) := by decide +kernel
theorem d_H_escapes_108 : decode b_H_escapes 108 = .ok (.iload 7, 2) := by decide +kernel
theorem d_H_escapes_110 : decode b_H_escapes 110 = .ok (.invokevirtual 134, 3) := by decide +kernel
theorem d_H_escapes_113 : decode b_H_escapes 113 = .ok (.iconst (-1), 1) := by decide +kernel
theorem d_H_escapes_114 : decode b_H_escapes 114 = .ok (.ixor, 1) := by decide +kernel
theorem d_H_escapes_115 : decode b_H_escapes 115 = .ok (.iand, 1) := by decide +kernel
theorem d_H_escapes_116 : decode b_H_escapes 116 = .ok (.ifCond .eq 16, 3) := by decide +kernel
theorem d_H_escapes_119 : decode b_H_escapes 119 = .ok (.aload_n 0, 1) := by decide +kernel
theorem d_H_escapes_120 : decode b_H_escapes 120 = .ok (.iload 10, 2) := by decide +kernel
theorem d_H_escapes_122 : decode b_H_escapes 122 = .ok (.lload 8, 2) := by decide +kernel
theorem d_H_escapes_124 : decode b_H_escapes 124 = .ok (.iload 4, 2) := by decide +kernel
theorem d_H_escapes_126 : decode b_H_escapes 126 = .ok (.iconst 1, 1) := by decide +kernel
theorem d_H_escapes_127 : decode b_H_escapes 127 = .ok (.iadd, 1) := by decide +kernel
theorem d_H_escapes_128 : decode b_H_escapes 128 = .ok (.invokevirtual 96, 3) := by decide +kernel
theorem d_H_escapes_131 : decode b_H_escapes 131 = .ok (.ireturn, 1) := by decide +kernel
theorem d_H_escapes_132 : decode b_H_escapes 132 = .ok (.iconst 0, 1) := by decide +kernel
theorem d_H_escapes_133 : decode b_H_escapes 133 = .ok (.istore 12, 2) := by decide +kernel
theorem d_H_escapes_135 : decode b_H_escapes 135 = .ok (.iload 12, 2) := by decide +kernel
theorem d_H_escapes_137 : decode b_H_escapes 137 = .ok (.bipush 30, 2) := by decide +kernel
theorem d_H_escapes_139 : decode b_H_escapes 139 = .ok (.if_icmp .ge 58, 3) := by decide +kernel
theorem d_H_escapes_142 : decode b_H_escapes 142 = .ok (.iload 11, 2) := by decide +kernel
theorem d_H_escapes_144 : decode b_H_escapes 144 = .ok (.iload 12, 2) := by decide +kernel
theorem d_H_escapes_146 : decode b_H_escapes 146 = .ok (.ishr, 1) := by decide +kernel
theorem d_H_escapes_147 : decode b_H_escapes 147 = .ok (.iconst 1, 1) := by decide +kernel
theorem d_H_escapes_148 : decode b_H_escapes 148 = .ok (.iand, 1) := by decide +kernel
theorem d_H_escapes_149 : decode b_H_escapes 149 = .ok (.ifCond .eq 7, 3) := by decide +kernel
theorem d_H_escapes_152 : decode b_H_escapes 152 = .ok (.iconst 1, 1) := by decide +kernel
theorem d_H_escapes_153 : decode b_H_escapes 153 = .ok (.goto 4, 3) := by decide +kernel
theorem d_H_escapes_156 : decode b_H_escapes 156 = .ok (.iconst 0, 1) := by decide +kernel
theorem d_H_escapes_157 : decode b_H_escapes 157 = .ok (.istore 13, 2) := by decide +kernel
theorem d_H_escapes_159 : decode b_H_escapes 159 = .ok (.iload 13, 2) := by decide +kernel
theorem d_H_escapes_161 : decode b_H_escapes 161 = .ok (.ifCond .eq 30, 3) := by decide +kernel
theorem d_H_escapes_164 : decode b_H_escapes 164 = .ok (.aload_n 0, 1) := by decide +kernel
theorem d_H_escapes_165 : decode b_H_escapes 165 = .ok (.iload 10, 2) := by decide +kernel
theorem d_H_escapes_167 : decode b_H_escapes 167 = .ok (.aload_n 0, 1) := by decide +kernel
theorem d_H_escapes_168 : decode b_H_escapes 168 = .ok (.iload_n 1, 1) := by decide +kernel
theorem d_H_escapes_169 : decode b_H_escapes 169 = .ok (.iload 7, 2) := by decide +kernel
theorem d_H_escapes_171 : decode b_H_escapes 171 = .ok (.iload 12, 2) := by decide +kernel
theorem d_H_escapes_173 : decode b_H_escapes 173 = .ok (.invokevirtual 137, 3) := by decide +kernel
theorem d_H_escapes_176 : decode b_H_escapes 176 = .ok (.ior, 1) := by decide +kernel
theorem d_H_escapes_177 : decode b_H_escapes 177 = .ok (.lload 8, 2) := by decide +kernel
theorem d_H_escapes_179 : decode b_H_escapes 179 = .ok (.iload 4, 2) := by decide +kernel
theorem d_H_escapes_181 : decode b_H_escapes 181 = .ok (.iconst 1, 1) := by decide +kernel
theorem d_H_escapes_182 : decode b_H_escapes 182 = .ok (.iadd, 1) := by decide +kernel
theorem d_H_escapes_183 : decode b_H_escapes 183 = .ok (.invokevirtual 96, 3) := by decide +kernel
theorem d_H_escapes_186 : decode b_H_escapes 186 = .ok (.ifCond .eq 5, 3) := by decide +kernel
theorem d_H_escapes_189 : decode b_H_escapes 189 = .ok (.iconst 1, 1) := by decide +kernel
theorem d_H_escapes_190 : decode b_H_escapes 190 = .ok (.ireturn, 1) := by decide +kernel
theorem d_H_escapes_191 : decode b_H_escapes 191 = .ok (.iinc 12 1, 3) := by decide +kernel
theorem d_H_escapes_194 : decode b_H_escapes 194 = .ok (.goto (-59), 3) := by decide +kernel
theorem d_H_escapes_197 : decode b_H_escapes 197 = .ok (.iconst 0, 1) := by decide +kernel
theorem d_H_escapes_198 : decode b_H_escapes 198 = .ok (.ireturn, 1) := by decide +kernel
theorem d_H_rowWithLeastLeft_0 : decode b_H_rowWithLeastLeft 0 = .ok (.iconst 0, 1) := by decide +kernel
theorem d_H_rowWithLeastLeft_1 : decode b_H_rowWithLeastLeft 1 = .ok (.istore 4, 2) := by decide +kernel
theorem d_H_rowWithLeastLeft_3 : decode b_H_rowWithLeastLeft 3 = .ok (.bipush 41, 2) := by decide +kernel
theorem d_H_rowWithLeastLeft_5 : decode b_H_rowWithLeastLeft 5 = .ok (.istore 5, 2) := by decide +kernel
theorem d_H_rowWithLeastLeft_7 : decode b_H_rowWithLeastLeft 7 = .ok (.iconst 0, 1) := by decide +kernel
theorem d_H_rowWithLeastLeft_8 : decode b_H_rowWithLeastLeft 8 = .ok (.istore 6, 2) := by decide +kernel
theorem d_H_rowWithLeastLeft_10 : decode b_H_rowWithLeastLeft 10 = .ok (.iload 6, 2) := by decide +kernel
theorem d_H_rowWithLeastLeft_12 : decode b_H_rowWithLeastLeft 12 = .ok (.aload_n 0, 1) := by decide +kernel
theorem d_H_rowWithLeastLeft_13 : decode b_H_rowWithLeastLeft 13 = .ok (.getfield 49, 3) := by decide +kernel
theorem d_H_rowWithLeastLeft_16 : decode b_H_rowWithLeastLeft 16 = .ok (.if_icmp .ge 51, 3) := by decide +kernel
theorem d_H_rowWithLeastLeft_19 : decode b_H_rowWithLeastLeft 19 = .ok (.aload_n 0, 1) := by decide +kernel
theorem d_H_rowWithLeastLeft_20 : decode b_H_rowWithLeastLeft 20 = .ok (.getfield 19, 3) := by decide +kernel
theorem d_H_rowWithLeastLeft_23 : decode b_H_rowWithLeastLeft 23 = .ok (.iload 6, 2) := by decide +kernel
theorem d_H_rowWithLeastLeft_25 : decode b_H_rowWithLeastLeft 25 = .ok (.laload, 1) := by decide +kernel
theorem d_H_rowWithLeastLeft_26 : decode b_H_rowWithLeastLeft 26 = .ok (.lload_n 2, 1) := by decide +kernel
theorem d_H_rowWithLeastLeft_27 : decode b_H_rowWithLeastLeft 27 = .ok (.ldc2_w 120, 3) := by decide +kernel
theorem d_H_rowWithLeastLeft_30 : decode b_H_rowWithLeastLeft 30 = .ok (.lxor, 1) := by decide +kernel
theorem d_H_rowWithLeastLeft_31 : decode b_H_rowWithLeastLeft 31 = .ok (.land, 1) := by decide +kernel
theorem d_H_rowWithLeastLeft_32 : decode b_H_rowWithLeastLeft 32 = .ok (.invokestatic 140, 3) := by decide +kernel
theorem d_H_rowWithLeastLeft_35 : decode b_H_rowWithLeastLeft 35 = .ok (.istore 7, 2) := by decide +kernel
theorem d_H_rowWithLeastLeft_37 : decode b_H_rowWithLeastLeft 37 = .ok (.iload_n 1, 1) := by decide +kernel
theorem d_H_rowWithLeastLeft_38 : decode b_H_rowWithLeastLeft 38 = .ok (.iload 6, 2) := by decide +kernel
theorem d_H_rowWithLeastLeft_40 : decode b_H_rowWithLeastLeft 40 = .ok (.ishr, 1) := by decide +kernel
theorem d_H_rowWithLeastLeft_41 : decode b_H_rowWithLeastLeft 41 = .ok (.iconst 1, 1) := by decide +kernel
theorem d_H_rowWithLeastLeft_42 : decode b_H_rowWithLeastLeft 42 = .ok (.iand, 1) := by decide +kernel
theorem d_H_rowWithLeastLeft_43 : decode b_H_rowWithLeastLeft 43 = .ok (.ifCond .eq 18, 3) := by decide +kernel
theorem d_H_rowWithLeastLeft_46 : decode b_H_rowWithLeastLeft 46 = .ok (.iload 7, 2) := by decide +kernel
theorem d_H_rowWithLeastLeft_48 : decode b_H_rowWithLeastLeft 48 = .ok (.iload 5, 2) := by decide +kernel
theorem d_H_rowWithLeastLeft_50 : decode b_H_rowWithLeastLeft 50 = .ok (.if_icmp .ge 11, 3) := by decide +kernel
theorem d_H_rowWithLeastLeft_53 : decode b_H_rowWithLeastLeft 53 = .ok (.iload 6, 2) := by decide +kernel
theorem d_H_rowWithLeastLeft_55 : decode b_H_rowWithLeastLeft 55 = .ok (.istore 4, 2) := by decide +kernel
theorem d_H_rowWithLeastLeft_57 : decode b_H_rowWithLeastLeft 57 = .ok (.iload 7, 2) := by decide +kernel
theorem d_H_rowWithLeastLeft_59 : decode b_H_rowWithLeastLeft 59 = .ok (.istore 5, 2) := by decide +kernel
theorem d_H_rowWithLeastLeft_61 : decode b_H_rowWithLeastLeft 61 = .ok (.iinc 6 1, 3) := by decide +kernel
theorem d_H_rowWithLeastLeft_64 : decode b_H_rowWithLeastLeft 64 = .ok (.goto (-54), 3) := by decide +kernel
theorem d_H_rowWithLeastLeft_67 : decode b_H_rowWithLeastLeft 67 = .ok (.iload 4, 2) := by decide +kernel
theorem d_H_rowWithLeastLeft_69 : decode b_H_rowWithLeastLeft 69 = .ok (.ireturn, 1) := by decide +kernel
theorem d_JL_bitCount_0 : decode b_JL_bitCount 0 = .ok (.lload_n 0, 1) := by decide +kernel
theorem d_JL_bitCount_1 : decode b_JL_bitCount 1 = .ok (.lload_n 0, 1) := by decide +kernel
theorem d_JL_bitCount_2 : decode b_JL_bitCount 2 = .ok (.iconst 1, 1) := by decide +kernel
theorem d_JL_bitCount_3 : decode b_JL_bitCount 3 = .ok (.lushr, 1) := by decide +kernel
theorem d_JL_bitCount_4 : decode b_JL_bitCount 4 = .ok (.ldc2_w 314, 3) := by decide +kernel
theorem d_JL_bitCount_7 : decode b_JL_bitCount 7 = .ok (.land, 1) := by decide +kernel
theorem d_JL_bitCount_8 : decode b_JL_bitCount 8 = .ok (.lsub, 1) := by decide +kernel
theorem d_JL_bitCount_9 : decode b_JL_bitCount 9 = .ok (.lstore_n 0, 1) := by decide +kernel
theorem d_JL_bitCount_10 : decode b_JL_bitCount 10 = .ok (.lload_n 0, 1) := by decide +kernel
theorem d_JL_bitCount_11 : decode b_JL_bitCount 11 = .ok (.ldc2_w 316, 3) := by decide +kernel
theorem d_JL_bitCount_14 : decode b_JL_bitCount 14 = .ok (.land, 1) := by decide +kernel
theorem d_JL_bitCount_15 : decode b_JL_bitCount 15 = .ok (.lload_n 0, 1) := by decide +kernel
theorem d_JL_bitCount_16 : decode b_JL_bitCount 16 = .ok (.iconst 2, 1) := by decide +kernel
theorem d_JL_bitCount_17 : decode b_JL_bitCount 17 = .ok (.lushr, 1) := by decide +kernel
theorem d_JL_bitCount_18 : decode b_JL_bitCount 18 = .ok (.ldc2_w 316, 3) := by decide +kernel
theorem d_JL_bitCount_21 : decode b_JL_bitCount 21 = .ok (.land, 1) := by decide +kernel
theorem d_JL_bitCount_22 : decode b_JL_bitCount 22 = .ok (.ladd, 1) := by decide +kernel
theorem d_JL_bitCount_23 : decode b_JL_bitCount 23 = .ok (.lstore_n 0, 1) := by decide +kernel
theorem d_JL_bitCount_24 : decode b_JL_bitCount 24 = .ok (.lload_n 0, 1) := by decide +kernel
theorem d_JL_bitCount_25 : decode b_JL_bitCount 25 = .ok (.lload_n 0, 1) := by decide +kernel
theorem d_JL_bitCount_26 : decode b_JL_bitCount 26 = .ok (.iconst 4, 1) := by decide +kernel
theorem d_JL_bitCount_27 : decode b_JL_bitCount 27 = .ok (.lushr, 1) := by decide +kernel
theorem d_JL_bitCount_28 : decode b_JL_bitCount 28 = .ok (.ladd, 1) := by decide +kernel
theorem d_JL_bitCount_29 : decode b_JL_bitCount 29 = .ok (.ldc2_w 318, 3) := by decide +kernel
theorem d_JL_bitCount_32 : decode b_JL_bitCount 32 = .ok (.land, 1) := by decide +kernel
theorem d_JL_bitCount_33 : decode b_JL_bitCount 33 = .ok (.lstore_n 0, 1) := by decide +kernel
theorem d_JL_bitCount_34 : decode b_JL_bitCount 34 = .ok (.lload_n 0, 1) := by decide +kernel
theorem d_JL_bitCount_35 : decode b_JL_bitCount 35 = .ok (.lload_n 0, 1) := by decide +kernel
theorem d_JL_bitCount_36 : decode b_JL_bitCount 36 = .ok (.bipush 8, 2) := by decide +kernel
theorem d_JL_bitCount_38 : decode b_JL_bitCount 38 = .ok (.lushr, 1) := by decide +kernel
theorem d_JL_bitCount_39 : decode b_JL_bitCount 39 = .ok (.ladd, 1) := by decide +kernel
theorem d_JL_bitCount_40 : decode b_JL_bitCount 40 = .ok (.lstore_n 0, 1) := by decide +kernel
theorem d_JL_bitCount_41 : decode b_JL_bitCount 41 = .ok (.lload_n 0, 1) := by decide +kernel
theorem d_JL_bitCount_42 : decode b_JL_bitCount 42 = .ok (.lload_n 0, 1) := by decide +kernel
theorem d_JL_bitCount_43 : decode b_JL_bitCount 43 = .ok (.bipush 16, 2) := by decide +kernel
theorem d_JL_bitCount_45 : decode b_JL_bitCount 45 = .ok (.lushr, 1) := by decide +kernel
theorem d_JL_bitCount_46 : decode b_JL_bitCount 46 = .ok (.ladd, 1) := by decide +kernel
theorem d_JL_bitCount_47 : decode b_JL_bitCount 47 = .ok (.lstore_n 0, 1) := by decide +kernel
theorem d_JL_bitCount_48 : decode b_JL_bitCount 48 = .ok (.lload_n 0, 1) := by decide +kernel
theorem d_JL_bitCount_49 : decode b_JL_bitCount 49 = .ok (.lload_n 0, 1) := by decide +kernel
theorem d_JL_bitCount_50 : decode b_JL_bitCount 50 = .ok (.bipush 32, 2) := by decide +kernel
theorem d_JL_bitCount_52 : decode b_JL_bitCount 52 = .ok (.lushr, 1) := by decide +kernel
theorem d_JL_bitCount_53 : decode b_JL_bitCount 53 = .ok (.ladd, 1) := by decide +kernel
theorem d_JL_bitCount_54 : decode b_JL_bitCount 54 = .ok (.lstore_n 0, 1) := by decide +kernel
theorem d_JL_bitCount_55 : decode b_JL_bitCount 55 = .ok (.lload_n 0, 1) := by decide +kernel
theorem d_JL_bitCount_56 : decode b_JL_bitCount 56 = .ok (.l2i, 1) := by decide +kernel
theorem d_JL_bitCount_57 : decode b_JL_bitCount 57 = .ok (.bipush 127, 2) := by decide +kernel
theorem d_JL_bitCount_59 : decode b_JL_bitCount 59 = .ok (.iand, 1) := by decide +kernel
theorem d_JL_bitCount_60 : decode b_JL_bitCount 60 = .ok (.ireturn, 1) := by decide +kernel
theorem d_JL_numberOfTrailingZeros_0 : decode b_JL_numberOfTrailingZeros 0 = .ok (.lload_n 0, 1) := by decide +kernel
theorem d_JL_numberOfTrailingZeros_1 : decode b_JL_numberOfTrailingZeros 1 = .ok (.l2i, 1) := by decide +kernel
theorem d_JL_numberOfTrailingZeros_2 : decode b_JL_numberOfTrailingZeros 2 = .ok (.istore_n 2, 1) := by decide +kernel
theorem d_JL_numberOfTrailingZeros_3 : decode b_JL_numberOfTrailingZeros 3 = .ok (.iload_n 2, 1) := by decide +kernel
theorem d_JL_numberOfTrailingZeros_4 : decode b_JL_numberOfTrailingZeros 4 = .ok (.ifCond .ne 17, 3) := by decide +kernel
theorem d_JL_numberOfTrailingZeros_7 : decode b_JL_numberOfTrailingZeros 7 = .ok (.bipush 32, 2) := by decide +kernel
theorem d_JL_numberOfTrailingZeros_9 : decode b_JL_numberOfTrailingZeros 9 = .ok (.lload_n 0, 1) := by decide +kernel
theorem d_JL_numberOfTrailingZeros_10 : decode b_JL_numberOfTrailingZeros 10 = .ok (.bipush 32, 2) := by decide +kernel
theorem d_JL_numberOfTrailingZeros_12 : decode b_JL_numberOfTrailingZeros 12 = .ok (.lushr, 1) := by decide +kernel
theorem d_JL_numberOfTrailingZeros_13 : decode b_JL_numberOfTrailingZeros 13 = .ok (.l2i, 1) := by decide +kernel
theorem d_JL_numberOfTrailingZeros_14 : decode b_JL_numberOfTrailingZeros 14 = .ok (.invokestatic 311, 3) := by decide +kernel
theorem d_JL_numberOfTrailingZeros_17 : decode b_JL_numberOfTrailingZeros 17 = .ok (.iadd, 1) := by decide +kernel
theorem d_JL_numberOfTrailingZeros_18 : decode b_JL_numberOfTrailingZeros 18 = .ok (.goto 7, 3) := by decide +kernel
theorem d_JL_numberOfTrailingZeros_21 : decode b_JL_numberOfTrailingZeros 21 = .ok (.iload_n 2, 1) := by decide +kernel
theorem d_JL_numberOfTrailingZeros_22 : decode b_JL_numberOfTrailingZeros 22 = .ok (.invokestatic 311, 3) := by decide +kernel
theorem d_JL_numberOfTrailingZeros_25 : decode b_JL_numberOfTrailingZeros 25 = .ok (.ireturn, 1) := by decide +kernel
theorem d_JI_numberOfTrailingZeros_0 : decode b_JI_numberOfTrailingZeros 0 = .ok (.iload_n 0, 1) := by decide +kernel
theorem d_JI_numberOfTrailingZeros_1 : decode b_JI_numberOfTrailingZeros 1 = .ok (.iconst (-1), 1) := by decide +kernel
theorem d_JI_numberOfTrailingZeros_2 : decode b_JI_numberOfTrailingZeros 2 = .ok (.ixor, 1) := by decide +kernel
theorem d_JI_numberOfTrailingZeros_3 : decode b_JI_numberOfTrailingZeros 3 = .ok (.iload_n 0, 1) := by decide +kernel
theorem d_JI_numberOfTrailingZeros_4 : decode b_JI_numberOfTrailingZeros 4 = .ok (.iconst 1, 1) := by decide +kernel
theorem d_JI_numberOfTrailingZeros_5 : decode b_JI_numberOfTrailingZeros 5 = .ok (.isub, 1) := by decide +kernel
theorem d_JI_numberOfTrailingZeros_6 : decode b_JI_numberOfTrailingZeros 6 = .ok (.iand, 1) := by decide +kernel
theorem d_JI_numberOfTrailingZeros_7 : decode b_JI_numberOfTrailingZeros 7 = .ok (.istore_n 0, 1) := by decide +kernel
theorem d_JI_numberOfTrailingZeros_8 : decode b_JI_numberOfTrailingZeros 8 = .ok (.iload_n 0, 1) := by decide +kernel
theorem d_JI_numberOfTrailingZeros_9 : decode b_JI_numberOfTrailingZeros 9 = .ok (.ifCond .gt 8, 3) := by decide +kernel
theorem d_JI_numberOfTrailingZeros_12 : decode b_JI_numberOfTrailingZeros 12 = .ok (.iload_n 0, 1) := by decide +kernel
theorem d_JI_numberOfTrailingZeros_13 : decode b_JI_numberOfTrailingZeros 13 = .ok (.bipush 32, 2) := by decide +kernel
theorem d_JI_numberOfTrailingZeros_15 : decode b_JI_numberOfTrailingZeros 15 = .ok (.iand, 1) := by decide +kernel
theorem d_JI_numberOfTrailingZeros_16 : decode b_JI_numberOfTrailingZeros 16 = .ok (.ireturn, 1) := by decide +kernel
theorem d_JI_numberOfTrailingZeros_17 : decode b_JI_numberOfTrailingZeros 17 = .ok (.iconst 1, 1) := by decide +kernel
theorem d_JI_numberOfTrailingZeros_18 : decode b_JI_numberOfTrailingZeros 18 = .ok (.istore_n 1, 1) := by decide +kernel
theorem d_JI_numberOfTrailingZeros_19 : decode b_JI_numberOfTrailingZeros 19 = .ok (.iload_n 0, 1) := by decide +kernel
theorem d_JI_numberOfTrailingZeros_20 : decode b_JI_numberOfTrailingZeros 20 = .ok (.ldc_w 264, 3) := by decide +kernel
theorem d_JI_numberOfTrailingZeros_23 : decode b_JI_numberOfTrailingZeros 23 = .ok (.if_icmp .le 11, 3) := by decide +kernel
theorem d_JI_numberOfTrailingZeros_26 : decode b_JI_numberOfTrailingZeros 26 = .ok (.iinc 1 16, 3) := by decide +kernel
theorem d_JI_numberOfTrailingZeros_29 : decode b_JI_numberOfTrailingZeros 29 = .ok (.iload_n 0, 1) := by decide +kernel
theorem d_JI_numberOfTrailingZeros_30 : decode b_JI_numberOfTrailingZeros 30 = .ok (.bipush 16, 2) := by decide +kernel
theorem d_JI_numberOfTrailingZeros_32 : decode b_JI_numberOfTrailingZeros 32 = .ok (.iushr, 1) := by decide +kernel
theorem d_JI_numberOfTrailingZeros_33 : decode b_JI_numberOfTrailingZeros 33 = .ok (.istore_n 0, 1) := by decide +kernel
theorem d_JI_numberOfTrailingZeros_34 : decode b_JI_numberOfTrailingZeros 34 = .ok (.iload_n 0, 1) := by decide +kernel
theorem d_JI_numberOfTrailingZeros_35 : decode b_JI_numberOfTrailingZeros 35 = .ok (.sipush 256, 3) := by decide +kernel
theorem d_JI_numberOfTrailingZeros_38 : decode b_JI_numberOfTrailingZeros 38 = .ok (.if_icmp .le 11, 3) := by decide +kernel
theorem d_JI_numberOfTrailingZeros_41 : decode b_JI_numberOfTrailingZeros 41 = .ok (.iinc 1 8, 3) := by decide +kernel
theorem d_JI_numberOfTrailingZeros_44 : decode b_JI_numberOfTrailingZeros 44 = .ok (.iload_n 0, 1) := by decide +kernel
theorem d_JI_numberOfTrailingZeros_45 : decode b_JI_numberOfTrailingZeros 45 = .ok (.bipush 8, 2) := by decide +kernel
theorem d_JI_numberOfTrailingZeros_47 : decode b_JI_numberOfTrailingZeros 47 = .ok (.iushr, 1) := by decide +kernel
theorem d_JI_numberOfTrailingZeros_48 : decode b_JI_numberOfTrailingZeros 48 = .ok (.istore_n 0, 1) := by decide +kernel
theorem d_JI_numberOfTrailingZeros_49 : decode b_JI_numberOfTrailingZeros 49 = .ok (.iload_n 0, 1) := by decide +kernel
theorem d_JI_numberOfTrailingZeros_50 : decode b_JI_numberOfTrailingZeros 50 = .ok (.bipush 16, 2) := by decide +kernel
theorem d_JI_numberOfTrailingZeros_52 : decode b_JI_numberOfTrailingZeros 52 = .ok (.if_icmp .le 10, 3) := by decide +kernel
theorem d_JI_numberOfTrailingZeros_55 : decode b_JI_numberOfTrailingZeros 55 = .ok (.iinc 1 4, 3) := by decide +kernel
theorem d_JI_numberOfTrailingZeros_58 : decode b_JI_numberOfTrailingZeros 58 = .ok (.iload_n 0, 1) := by decide +kernel
theorem d_JI_numberOfTrailingZeros_59 : decode b_JI_numberOfTrailingZeros 59 = .ok (.iconst 4, 1) := by decide +kernel
theorem d_JI_numberOfTrailingZeros_60 : decode b_JI_numberOfTrailingZeros 60 = .ok (.iushr, 1) := by decide +kernel
theorem d_JI_numberOfTrailingZeros_61 : decode b_JI_numberOfTrailingZeros 61 = .ok (.istore_n 0, 1) := by decide +kernel
theorem d_JI_numberOfTrailingZeros_62 : decode b_JI_numberOfTrailingZeros 62 = .ok (.iload_n 0, 1) := by decide +kernel
theorem d_JI_numberOfTrailingZeros_63 : decode b_JI_numberOfTrailingZeros 63 = .ok (.iconst 4, 1) := by decide +kernel
theorem d_JI_numberOfTrailingZeros_64 : decode b_JI_numberOfTrailingZeros 64 = .ok (.if_icmp .le 10, 3) := by decide +kernel
theorem d_JI_numberOfTrailingZeros_67 : decode b_JI_numberOfTrailingZeros 67 = .ok (.iinc 1 2, 3) := by decide +kernel
theorem d_JI_numberOfTrailingZeros_70 : decode b_JI_numberOfTrailingZeros 70 = .ok (.iload_n 0, 1) := by decide +kernel
theorem d_JI_numberOfTrailingZeros_71 : decode b_JI_numberOfTrailingZeros 71 = .ok (.iconst 2, 1) := by decide +kernel
theorem d_JI_numberOfTrailingZeros_72 : decode b_JI_numberOfTrailingZeros 72 = .ok (.iushr, 1) := by decide +kernel
theorem d_JI_numberOfTrailingZeros_73 : decode b_JI_numberOfTrailingZeros 73 = .ok (.istore_n 0, 1) := by decide +kernel
theorem d_JI_numberOfTrailingZeros_74 : decode b_JI_numberOfTrailingZeros 74 = .ok (.iload_n 1, 1) := by decide +kernel
theorem d_JI_numberOfTrailingZeros_75 : decode b_JI_numberOfTrailingZeros 75 = .ok (.iload_n 0, 1) := by decide +kernel
theorem d_JI_numberOfTrailingZeros_76 : decode b_JI_numberOfTrailingZeros 76 = .ok (.iconst 1, 1) := by decide +kernel
theorem d_JI_numberOfTrailingZeros_77 : decode b_JI_numberOfTrailingZeros 77 = .ok (.iushr, 1) := by decide +kernel
theorem d_JI_numberOfTrailingZeros_78 : decode b_JI_numberOfTrailingZeros 78 = .ok (.iadd, 1) := by decide +kernel
theorem d_JI_numberOfTrailingZeros_79 : decode b_JI_numberOfTrailingZeros 79 = .ok (.ireturn, 1) := by decide +kernel
theorem d_H_rowsSilentAt_0 : decode b_H_rowsSilentAt 0 = .ok (.iconst 0, 1) := by decide +kernel
theorem d_H_rowsSilentAt_1 : decode b_H_rowsSilentAt 1 = .ok (.istore_n 3, 1) := by decide +kernel
theorem d_H_rowsSilentAt_2 : decode b_H_rowsSilentAt 2 = .ok (.iconst 0, 1) := by decide +kernel
theorem d_H_rowsSilentAt_3 : decode b_H_rowsSilentAt 3 = .ok (.istore 4, 2) := by decide +kernel
theorem d_H_rowsSilentAt_5 : decode b_H_rowsSilentAt 5 = .ok (.iload 4, 2) := by decide +kernel
theorem d_H_rowsSilentAt_7 : decode b_H_rowsSilentAt 7 = .ok (.aload_n 0, 1) := by decide +kernel
theorem d_H_rowsSilentAt_8 : decode b_H_rowsSilentAt 8 = .ok (.getfield 49, 3) := by decide +kernel
theorem d_H_rowsSilentAt_11 : decode b_H_rowsSilentAt 11 = .ok (.if_icmp .ge 35, 3) := by decide +kernel
theorem d_H_rowsSilentAt_14 : decode b_H_rowsSilentAt 14 = .ok (.iload_n 1, 1) := by decide +kernel
theorem d_H_rowsSilentAt_15 : decode b_H_rowsSilentAt 15 = .ok (.iload 4, 2) := by decide +kernel
theorem d_H_rowsSilentAt_17 : decode b_H_rowsSilentAt 17 = .ok (.ishr, 1) := by decide +kernel
theorem d_H_rowsSilentAt_18 : decode b_H_rowsSilentAt 18 = .ok (.iconst 1, 1) := by decide +kernel
theorem d_H_rowsSilentAt_19 : decode b_H_rowsSilentAt 19 = .ok (.iand, 1) := by decide +kernel
theorem d_H_rowsSilentAt_20 : decode b_H_rowsSilentAt 20 = .ok (.ifCond .eq 20, 3) := by decide +kernel
theorem d_H_rowsSilentAt_23 : decode b_H_rowsSilentAt 23 = .ok (.aload_n 0, 1) := by decide +kernel
theorem d_H_rowsSilentAt_24 : decode b_H_rowsSilentAt 24 = .ok (.iload 4, 2) := by decide +kernel
theorem d_H_rowsSilentAt_26 : decode b_H_rowsSilentAt 26 = .ok (.iload_n 2, 1) := by decide +kernel
theorem d_H_rowsSilentAt_27 : decode b_H_rowsSilentAt 27 = .ok (.invokevirtual 106, 3) := by decide +kernel
theorem d_H_rowsSilentAt_30 : decode b_H_rowsSilentAt 30 = .ok (.ifCond .ne 10, 3) := by decide +kernel
theorem d_H_rowsSilentAt_33 : decode b_H_rowsSilentAt 33 = .ok (.iload_n 3, 1) := by decide +kernel
theorem d_H_rowsSilentAt_34 : decode b_H_rowsSilentAt 34 = .ok (.iconst 1, 1) := by decide +kernel
theorem d_H_rowsSilentAt_35 : decode b_H_rowsSilentAt 35 = .ok (.iload 4, 2) := by decide +kernel
theorem d_H_rowsSilentAt_37 : decode b_H_rowsSilentAt 37 = .ok (.ishl, 1) := by decide +kernel
theorem d_H_rowsSilentAt_38 : decode b_H_rowsSilentAt 38 = .ok (.ior, 1) := by decide +kernel
theorem d_H_rowsSilentAt_39 : decode b_H_rowsSilentAt 39 = .ok (.istore_n 3, 1) := by decide +kernel
theorem d_H_rowsSilentAt_40 : decode b_H_rowsSilentAt 40 = .ok (.iinc 4 1, 3) := by decide +kernel
theorem d_H_rowsSilentAt_43 : decode b_H_rowsSilentAt 43 = .ok (.goto (-38), 3) := by decide +kernel
theorem d_H_rowsSilentAt_46 : decode b_H_rowsSilentAt 46 = .ok (.iload_n 3, 1) := by decide +kernel
theorem d_H_rowsSilentAt_47 : decode b_H_rowsSilentAt 47 = .ok (.ireturn, 1) := by decide +kernel
theorem d_H_isAsked_0 : decode b_H_isAsked 0 = .ok (.aload_n 0, 1) := by decide +kernel
theorem d_H_isAsked_1 : decode b_H_isAsked 1 = .ok (.getfield 19, 3) := by decide +kernel
theorem d_H_isAsked_4 : decode b_H_isAsked 4 = .ok (.iload_n 1, 1) := by decide +kernel
theorem d_H_isAsked_5 : decode b_H_isAsked 5 = .ok (.laload, 1) := by decide +kernel
theorem d_H_isAsked_6 : decode b_H_isAsked 6 = .ok (.iload_n 2, 1) := by decide +kernel
theorem d_H_isAsked_7 : decode b_H_isAsked 7 = .ok (.lshr, 1) := by decide +kernel
theorem d_H_isAsked_8 : decode b_H_isAsked 8 = .ok (.lconst 1, 1) := by decide +kernel
theorem d_H_isAsked_9 : decode b_H_isAsked 9 = .ok (.land, 1) := by decide +kernel
theorem d_H_isAsked_10 : decode b_H_isAsked 10 = .ok (.lconst 0, 1) := by decide +kernel
theorem d_H_isAsked_11 : decode b_H_isAsked 11 = .ok (.lcmp, 1) := by decide +kernel
theorem d_H_isAsked_12 : decode b_H_isAsked 12 = .ok (.ifCond .eq 7, 3) := by decide +kernel
theorem d_H_isAsked_15 : decode b_H_isAsked 15 = .ok (.iconst 1, 1) := by decide +kernel
theorem d_H_isAsked_16 : decode b_H_isAsked 16 = .ok (.goto 4, 3) := by decide +kernel
theorem d_H_isAsked_19 : decode b_H_isAsked 19 = .ok (.iconst 0, 1) := by decide +kernel
theorem d_H_isAsked_20 : decode b_H_isAsked 20 = .ok (.ireturn, 1) := by decide +kernel
theorem d_S_livingConsOf_0 : decode b_S_livingConsOf 0 = .ok (.aload_n 0, 1) := by decide +kernel
theorem d_S_livingConsOf_1 : decode b_S_livingConsOf 1 = .ok (.getfield 24, 3) := by decide +kernel
theorem d_S_livingConsOf_4 : decode b_S_livingConsOf 4 = .ok (.iload_n 1, 1) := by decide +kernel
theorem d_S_livingConsOf_5 : decode b_S_livingConsOf 5 = .ok (.iaload, 1) := by decide +kernel
theorem d_S_livingConsOf_6 : decode b_S_livingConsOf 6 = .ok (.aload_n 0, 1) := by decide +kernel
theorem d_S_livingConsOf_7 : decode b_S_livingConsOf 7 = .ok (.getfield 21, 3) := by decide +kernel
theorem d_S_livingConsOf_10 : decode b_S_livingConsOf 10 = .ok (.iand, 1) := by decide +kernel
theorem d_S_livingConsOf_11 : decode b_S_livingConsOf 11 = .ok (.ireturn, 1) := by decide +kernel
theorem d_H_consAskedAt_0 : decode b_H_consAskedAt 0 = .ok (.iconst 0, 1) := by decide +kernel
theorem d_H_consAskedAt_1 : decode b_H_consAskedAt 1 = .ok (.istore_n 3, 1) := by decide +kernel
theorem d_H_consAskedAt_2 : decode b_H_consAskedAt 2 = .ok (.iconst 0, 1) := by decide +kernel
theorem d_H_consAskedAt_3 : decode b_H_consAskedAt 3 = .ok (.istore 4, 2) := by decide +kernel
theorem d_H_consAskedAt_5 : decode b_H_consAskedAt 5 = .ok (.iload 4, 2) := by decide +kernel
theorem d_H_consAskedAt_7 : decode b_H_consAskedAt 7 = .ok (.aload_n 0, 1) := by decide +kernel
theorem d_H_consAskedAt_8 : decode b_H_consAskedAt 8 = .ok (.getfield 49, 3) := by decide +kernel
theorem d_H_consAskedAt_11 : decode b_H_consAskedAt 11 = .ok (.if_icmp .ge 42, 3) := by decide +kernel
theorem d_H_consAskedAt_14 : decode b_H_consAskedAt 14 = .ok (.iload_n 1, 1) := by decide +kernel
theorem d_H_consAskedAt_15 : decode b_H_consAskedAt 15 = .ok (.iload 4, 2) := by decide +kernel
theorem d_H_consAskedAt_17 : decode b_H_consAskedAt 17 = .ok (.ishr, 1) := by decide +kernel
theorem d_H_consAskedAt_18 : decode b_H_consAskedAt 18 = .ok (.iconst 1, 1) := by decide +kernel
theorem d_H_consAskedAt_19 : decode b_H_consAskedAt 19 = .ok (.iand, 1) := by decide +kernel
theorem d_H_consAskedAt_20 : decode b_H_consAskedAt 20 = .ok (.ifCond .eq 27, 3) := by decide +kernel
theorem d_H_consAskedAt_23 : decode b_H_consAskedAt 23 = .ok (.aload_n 0, 1) := by decide +kernel
theorem d_H_consAskedAt_24 : decode b_H_consAskedAt 24 = .ok (.iload 4, 2) := by decide +kernel
theorem d_H_consAskedAt_26 : decode b_H_consAskedAt 26 = .ok (.iload_n 2, 1) := by decide +kernel
theorem d_H_consAskedAt_27 : decode b_H_consAskedAt 27 = .ok (.invokevirtual 106, 3) := by decide +kernel
theorem d_H_consAskedAt_30 : decode b_H_consAskedAt 30 = .ok (.ifCond .eq 17, 3) := by decide +kernel
theorem d_H_consAskedAt_33 : decode b_H_consAskedAt 33 = .ok (.iload_n 3, 1) := by decide +kernel
theorem d_H_consAskedAt_34 : decode b_H_consAskedAt 34 = .ok (.iconst 1, 1) := by decide +kernel
theorem d_H_consAskedAt_35 : decode b_H_consAskedAt 35 = .ok (.aload_n 0, 1) := by decide +kernel
theorem d_H_consAskedAt_36 : decode b_H_consAskedAt 36 = .ok (.getfield 25, 3) := by decide +kernel
theorem d_H_consAskedAt_39 : decode b_H_consAskedAt 39 = .ok (.iload 4, 2) := by decide +kernel
theorem d_H_consAskedAt_41 : decode b_H_consAskedAt 41 = .ok (.aaload, 1) := by decide +kernel
theorem d_H_consAskedAt_42 : decode b_H_consAskedAt 42 = .ok (.iload_n 2, 1) := by decide +kernel
theorem d_H_consAskedAt_43 : decode b_H_consAskedAt 43 = .ok (.iaload, 1) := by decide +kernel
theorem d_H_consAskedAt_44 : decode b_H_consAskedAt 44 = .ok (.ishl, 1) := by decide +kernel
theorem d_H_consAskedAt_45 : decode b_H_consAskedAt 45 = .ok (.ior, 1) := by decide +kernel
theorem d_H_consAskedAt_46 : decode b_H_consAskedAt 46 = .ok (.istore_n 3, 1) := by decide +kernel
theorem d_H_consAskedAt_47 : decode b_H_consAskedAt 47 = .ok (.iinc 4 1, 3) := by decide +kernel
theorem d_H_consAskedAt_50 : decode b_H_consAskedAt 50 = .ok (.goto (-45), 3) := by decide +kernel
theorem d_H_consAskedAt_53 : decode b_H_consAskedAt 53 = .ok (.iload_n 3, 1) := by decide +kernel
theorem d_H_consAskedAt_54 : decode b_H_consAskedAt 54 = .ok (.ireturn, 1) := by decide +kernel
theorem d_H_rowsAsking_0 : decode b_H_rowsAsking 0 = .ok (.iconst 0, 1) := by decide +kernel
theorem d_H_rowsAsking_1 : decode b_H_rowsAsking 1 = .ok (.istore 4, 2) := by decide +kernel
theorem d_H_rowsAsking_3 : decode b_H_rowsAsking 3 = .ok (.iconst 0, 1) := by decide +kernel
theorem d_H_rowsAsking_4 : decode b_H_rowsAsking 4 = .ok (.istore 5, 2) := by decide +kernel
theorem d_H_rowsAsking_6 : decode b_H_rowsAsking 6 = .ok (.iload 5, 2) := by decide +kernel
theorem d_H_rowsAsking_8 : decode b_H_rowsAsking 8 = .ok (.aload_n 0, 1) := by decide +kernel
theorem d_H_rowsAsking_9 : decode b_H_rowsAsking 9 = .ok (.getfield 49, 3) := by decide +kernel
theorem d_H_rowsAsking_12 : decode b_H_rowsAsking 12 = .ok (.if_icmp .ge 50, 3) := by decide +kernel
theorem d_H_rowsAsking_15 : decode b_H_rowsAsking 15 = .ok (.iload_n 1, 1) := by decide +kernel
theorem d_H_rowsAsking_16 : decode b_H_rowsAsking 16 = .ok (.iload 5, 2) := by decide +kernel
theorem d_H_rowsAsking_18 : decode b_H_rowsAsking 18 = .ok (.ishr, 1) := by decide +kernel
theorem d_H_rowsAsking_19 : decode b_H_rowsAsking 19 = .ok (.iconst 1, 1) := by decide +kernel
theorem d_H_rowsAsking_20 : decode b_H_rowsAsking 20 = .ok (.iand, 1) := by decide +kernel
theorem d_H_rowsAsking_21 : decode b_H_rowsAsking 21 = .ok (.ifCond .eq 35, 3) := by decide +kernel
theorem d_H_rowsAsking_24 : decode b_H_rowsAsking 24 = .ok (.aload_n 0, 1) := by decide +kernel
theorem d_H_rowsAsking_25 : decode b_H_rowsAsking 25 = .ok (.iload 5, 2) := by decide +kernel
theorem d_H_rowsAsking_27 : decode b_H_rowsAsking 27 = .ok (.iload_n 2, 1) := by decide +kernel
theorem d_H_rowsAsking_28 : decode b_H_rowsAsking 28 = .ok (.invokevirtual 106, 3) := by decide +kernel
theorem d_H_rowsAsking_31 : decode b_H_rowsAsking 31 = .ok (.ifCond .eq 25, 3) := by decide +kernel
theorem d_H_rowsAsking_34 : decode b_H_rowsAsking 34 = .ok (.aload_n 0, 1) := by decide +kernel
theorem d_H_rowsAsking_35 : decode b_H_rowsAsking 35 = .ok (.getfield 25, 3) := by decide +kernel
theorem d_H_rowsAsking_38 : decode b_H_rowsAsking 38 = .ok (.iload 5, 2) := by decide +kernel
theorem d_H_rowsAsking_40 : decode b_H_rowsAsking 40 = .ok (.aaload, 1) := by decide +kernel
theorem d_H_rowsAsking_41 : decode b_H_rowsAsking 41 = .ok (.iload_n 2, 1) := by decide +kernel
theorem d_H_rowsAsking_42 : decode b_H_rowsAsking 42 = .ok (.iaload, 1) := by decide +kernel
theorem d_H_rowsAsking_43 : decode b_H_rowsAsking 43 = .ok (.iload_n 3, 1) := by decide +kernel
theorem d_H_rowsAsking_44 : decode b_H_rowsAsking 44 = .ok (.if_icmp .ne 12, 3) := by decide +kernel
theorem d_H_rowsAsking_47 : decode b_H_rowsAsking 47 = .ok (.iload 4, 2) := by decide +kernel
theorem d_H_rowsAsking_49 : decode b_H_rowsAsking 49 = .ok (.iconst 1, 1) := by decide +kernel
theorem d_H_rowsAsking_50 : decode b_H_rowsAsking 50 = .ok (.iload 5, 2) := by decide +kernel
theorem d_H_rowsAsking_52 : decode b_H_rowsAsking 52 = .ok (.ishl, 1) := by decide +kernel
theorem d_H_rowsAsking_53 : decode b_H_rowsAsking 53 = .ok (.ior, 1) := by decide +kernel
theorem d_H_rowsAsking_54 : decode b_H_rowsAsking 54 = .ok (.istore 4, 2) := by decide +kernel
theorem d_H_rowsAsking_56 : decode b_H_rowsAsking 56 = .ok (.iinc 5 1, 3) := by decide +kernel
theorem d_H_rowsAsking_59 : decode b_H_rowsAsking 59 = .ok (.goto (-53), 3) := by decide +kernel
theorem d_H_rowsAsking_62 : decode b_H_rowsAsking 62 = .ok (.iload 4, 2) := by decide +kernel
theorem d_H_rowsAsking_64 : decode b_H_rowsAsking 64 = .ok (.ireturn, 1) := by decide +kernel
theorem d_C_count_0 : decode b_C_count 0 = .ok (.iload_n 1, 1) := by decide +kernel
theorem d_C_count_1 : decode b_C_count 1 = .ok (.tableswitch 90 0 5 #[39, 47, 55, 63, 71, 79], 39) := by decide +kernel
theorem d_C_count_40 : decode b_C_count 40 = .ok (.aload_n 0, 1) := by decide +kernel
theorem d_C_count_41 : decode b_C_count 41 = .ok (.getfield 10, 3) := by decide +kernel
theorem d_C_count_44 : decode b_C_count 44 = .ok (.getfield 35, 3) := by decide +kernel
theorem d_C_count_47 : decode b_C_count 47 = .ok (.ireturn, 1) := by decide +kernel
theorem d_C_count_48 : decode b_C_count 48 = .ok (.aload_n 0, 1) := by decide +kernel
theorem d_C_count_49 : decode b_C_count 49 = .ok (.getfield 10, 3) := by decide +kernel
theorem d_C_count_52 : decode b_C_count 52 = .ok (.getfield 61, 3) := by decide +kernel
theorem d_C_count_55 : decode b_C_count 55 = .ok (.ireturn, 1) := by decide +kernel
theorem d_C_count_56 : decode b_C_count 56 = .ok (.aload_n 0, 1) := by decide +kernel
theorem d_C_count_57 : decode b_C_count 57 = .ok (.getfield 19, 3) := by decide +kernel
theorem d_C_count_60 : decode b_C_count 60 = .ok (.getfield 148, 3) := by decide +kernel
theorem d_C_count_63 : decode b_C_count 63 = .ok (.ireturn, 1) := by decide +kernel
theorem d_C_count_64 : decode b_C_count 64 = .ok (.aload_n 0, 1) := by decide +kernel
theorem d_C_count_65 : decode b_C_count 65 = .ok (.getfield 28, 3) := by decide +kernel
theorem d_C_count_68 : decode b_C_count 68 = .ok (.getfield 114, 3) := by decide +kernel
theorem d_C_count_71 : decode b_C_count 71 = .ok (.ireturn, 1) := by decide +kernel
theorem d_C_count_72 : decode b_C_count 72 = .ok (.aload_n 0, 1) := by decide +kernel
theorem d_C_count_73 : decode b_C_count 73 = .ok (.getfield 28, 3) := by decide +kernel
theorem d_C_count_76 : decode b_C_count 76 = .ok (.invokevirtual 151, 3) := by decide +kernel
theorem d_C_count_79 : decode b_C_count 79 = .ok (.ireturn, 1) := by decide +kernel
theorem d_C_count_80 : decode b_C_count 80 = .ok (.aload_n 0, 1) := by decide +kernel
theorem d_C_count_81 : decode b_C_count 81 = .ok (.getfield 10, 3) := by decide +kernel
theorem d_C_count_84 : decode b_C_count 84 = .ok (.getfield 154, 3) := by decide +kernel
theorem d_C_count_87 : decode b_C_count 87 = .ok (.invokestatic 157, 3) := by decide +kernel
theorem d_C_count_90 : decode b_C_count 90 = .ok (.ireturn, 1) := by decide +kernel
theorem d_C_count_91 : decode b_C_count 91 = .ok (.iconst (-1), 1) := by decide +kernel
theorem d_C_count_92 : decode b_C_count 92 = .ok (.ireturn, 1) := by decide +kernel
theorem d_H_reachedRows_0 : decode b_H_reachedRows 0 = .ok (.iconst 0, 1) := by decide +kernel
theorem d_H_reachedRows_1 : decode b_H_reachedRows 1 = .ok (.istore_n 1, 1) := by decide +kernel
theorem d_H_reachedRows_2 : decode b_H_reachedRows 2 = .ok (.iconst 0, 1) := by decide +kernel
theorem d_H_reachedRows_3 : decode b_H_reachedRows 3 = .ok (.istore_n 2, 1) := by decide +kernel
theorem d_H_reachedRows_4 : decode b_H_reachedRows 4 = .ok (.iload_n 2, 1) := by decide +kernel
theorem d_H_reachedRows_5 : decode b_H_reachedRows 5 = .ok (.aload_n 0, 1) := by decide +kernel
theorem d_H_reachedRows_6 : decode b_H_reachedRows 6 = .ok (.getfield 49, 3) := by decide +kernel
theorem d_H_reachedRows_9 : decode b_H_reachedRows 9 = .ok (.if_icmp .ge 20, 3) := by decide +kernel
theorem d_H_reachedRows_12 : decode b_H_reachedRows 12 = .ok (.aload_n 0, 1) := by decide +kernel
theorem d_H_reachedRows_13 : decode b_H_reachedRows 13 = .ok (.iload_n 2, 1) := by decide +kernel
theorem d_H_reachedRows_14 : decode b_H_reachedRows 14 = .ok (.invokevirtual 103, 3) := by decide +kernel
theorem d_H_reachedRows_17 : decode b_H_reachedRows 17 = .ok (.ifCond .eq 6, 3) := by decide +kernel
theorem d_H_reachedRows_20 : decode b_H_reachedRows 20 = .ok (.iinc 1 1, 3) := by decide +kernel
theorem d_H_reachedRows_23 : decode b_H_reachedRows 23 = .ok (.iinc 2 1, 3) := by decide +kernel
theorem d_H_reachedRows_26 : decode b_H_reachedRows 26 = .ok (.goto (-22), 3) := by decide +kernel
theorem d_H_reachedRows_29 : decode b_H_reachedRows 29 = .ok (.iload_n 1, 1) := by decide +kernel
theorem d_H_reachedRows_30 : decode b_H_reachedRows 30 = .ok (.ireturn, 1) := by decide +kernel
theorem d_H_reaches_0 : decode b_H_reaches 0 = .ok (.aload_n 0, 1) := by decide +kernel
theorem d_H_reaches_1 : decode b_H_reaches 1 = .ok (.iload_n 1, 1) := by decide +kernel
theorem d_H_reaches_2 : decode b_H_reaches 2 = .ok (.invokevirtual 88, 3) := by decide +kernel
theorem d_H_reaches_5 : decode b_H_reaches 5 = .ok (.ifCond .eq 26, 3) := by decide +kernel
theorem d_H_reaches_8 : decode b_H_reaches 8 = .ok (.aload_n 0, 1) := by decide +kernel
theorem d_H_reaches_9 : decode b_H_reaches 9 = .ok (.aload_n 0, 1) := by decide +kernel
theorem d_H_reaches_10 : decode b_H_reaches 10 = .ok (.iload_n 1, 1) := by decide +kernel
theorem d_H_reaches_11 : decode b_H_reaches 11 = .ok (.invokevirtual 92, 3) := by decide +kernel
theorem d_H_reaches_14 : decode b_H_reaches 14 = .ok (.aload_n 0, 1) := by decide +kernel
theorem d_H_reaches_15 : decode b_H_reaches 15 = .ok (.getfield 19, 3) := by decide +kernel
theorem d_H_reaches_18 : decode b_H_reaches 18 = .ok (.iload_n 1, 1) := by decide +kernel
theorem d_H_reaches_19 : decode b_H_reaches 19 = .ok (.laload, 1) := by decide +kernel
theorem d_H_reaches_20 : decode b_H_reaches 20 = .ok (.iconst 0, 1) := by decide +kernel
theorem d_H_reaches_21 : decode b_H_reaches 21 = .ok (.invokevirtual 96, 3) := by decide +kernel
theorem d_H_reaches_24 : decode b_H_reaches 24 = .ok (.ifCond .eq 7, 3) := by decide +kernel
theorem d_H_reaches_27 : decode b_H_reaches 27 = .ok (.iconst 1, 1) := by decide +kernel
theorem d_H_reaches_28 : decode b_H_reaches 28 = .ok (.goto 4, 3) := by decide +kernel
theorem d_H_reaches_31 : decode b_H_reaches 31 = .ok (.iconst 0, 1) := by decide +kernel
theorem d_H_reaches_32 : decode b_H_reaches 32 = .ok (.ireturn, 1) := by decide +kernel
theorem d_H_hasValue_0 : decode b_H_hasValue 0 = .ok (.aload_n 0, 1) := by decide +kernel
theorem d_H_hasValue_1 : decode b_H_hasValue 1 = .ok (.getfield 9, 3) := by decide +kernel
theorem d_H_hasValue_4 : decode b_H_hasValue 4 = .ok (.aload_n 0, 1) := by decide +kernel
theorem d_H_hasValue_5 : decode b_H_hasValue 5 = .ok (.getfield 45, 3) := by decide +kernel
theorem d_H_hasValue_8 : decode b_H_hasValue 8 = .ok (.invokevirtual 100, 3) := by decide +kernel
theorem d_H_hasValue_11 : decode b_H_hasValue 11 = .ok (.ifCond .ne 5, 3) := by decide +kernel
theorem d_H_hasValue_14 : decode b_H_hasValue 14 = .ok (.iconst 0, 1) := by decide +kernel
theorem d_H_hasValue_15 : decode b_H_hasValue 15 = .ok (.ireturn, 1) := by decide +kernel
theorem d_H_hasValue_16 : decode b_H_hasValue 16 = .ok (.iconst 0, 1) := by decide +kernel
theorem d_H_hasValue_17 : decode b_H_hasValue 17 = .ok (.istore_n 2, 1) := by decide +kernel
theorem d_H_hasValue_18 : decode b_H_hasValue 18 = .ok (.iload_n 2, 1) := by decide +kernel
theorem d_H_hasValue_19 : decode b_H_hasValue 19 = .ok (.aload_n 0, 1) := by decide +kernel
theorem d_H_hasValue_20 : decode b_H_hasValue 20 = .ok (.getfield 52, 3) := by decide +kernel
theorem d_H_hasValue_23 : decode b_H_hasValue 23 = .ok (.if_icmp .ge 57, 3) := by decide +kernel
theorem d_H_hasValue_26 : decode b_H_hasValue 26 = .ok (.aload_n 0, 1) := by decide +kernel
theorem d_H_hasValue_27 : decode b_H_hasValue 27 = .ok (.iload_n 1, 1) := by decide +kernel
theorem d_H_hasValue_28 : decode b_H_hasValue 28 = .ok (.iload_n 2, 1) := by decide +kernel
theorem d_H_hasValue_29 : decode b_H_hasValue 29 = .ok (.invokevirtual 106, 3) := by decide +kernel
theorem d_H_hasValue_32 : decode b_H_hasValue 32 = .ok (.ifCond .eq 16, 3) := by decide +kernel
theorem d_H_hasValue_35 : decode b_H_hasValue 35 = .ok (.aload_n 0, 1) := by decide +kernel
theorem d_H_hasValue_36 : decode b_H_hasValue 36 = .ok (.getfield 28, 3) := by decide +kernel
theorem d_H_hasValue_39 : decode b_H_hasValue 39 = .ok (.iload_n 2, 1) := by decide +kernel
theorem d_H_hasValue_40 : decode b_H_hasValue 40 = .ok (.iaload, 1) := by decide +kernel
theorem d_H_hasValue_41 : decode b_H_hasValue 41 = .ok (.ifCond .eq 7, 3) := by decide +kernel
theorem d_H_hasValue_44 : decode b_H_hasValue 44 = .ok (.iconst 1, 1) := by decide +kernel
theorem d_H_hasValue_45 : decode b_H_hasValue 45 = .ok (.goto 4, 3) := by decide +kernel
theorem d_H_hasValue_48 : decode b_H_hasValue 48 = .ok (.iconst 0, 1) := by decide +kernel
theorem d_H_hasValue_49 : decode b_H_hasValue 49 = .ok (.istore_n 3, 1) := by decide +kernel
theorem d_H_hasValue_50 : decode b_H_hasValue 50 = .ok (.iload_n 3, 1) := by decide +kernel
theorem d_H_hasValue_51 : decode b_H_hasValue 51 = .ok (.ifCond .eq 23, 3) := by decide +kernel
theorem d_H_hasValue_54 : decode b_H_hasValue 54 = .ok (.aload_n 0, 1) := by decide +kernel
theorem d_H_hasValue_55 : decode b_H_hasValue 55 = .ok (.getfield 9, 3) := by decide +kernel
theorem d_H_hasValue_58 : decode b_H_hasValue 58 = .ok (.aload_n 0, 1) := by decide +kernel
theorem d_H_hasValue_59 : decode b_H_hasValue 59 = .ok (.getfield 25, 3) := by decide +kernel
theorem d_H_hasValue_62 : decode b_H_hasValue 62 = .ok (.iload_n 1, 1) := by decide +kernel
theorem d_H_hasValue_63 : decode b_H_hasValue 63 = .ok (.aaload, 1) := by decide +kernel
theorem d_H_hasValue_64 : decode b_H_hasValue 64 = .ok (.iload_n 2, 1) := by decide +kernel
theorem d_H_hasValue_65 : decode b_H_hasValue 65 = .ok (.iaload, 1) := by decide +kernel
theorem d_H_hasValue_66 : decode b_H_hasValue 66 = .ok (.invokevirtual 110, 3) := by decide +kernel
theorem d_H_hasValue_69 : decode b_H_hasValue 69 = .ok (.ifCond .ne 5, 3) := by decide +kernel
theorem d_H_hasValue_72 : decode b_H_hasValue 72 = .ok (.iconst 0, 1) := by decide +kernel
theorem d_H_hasValue_73 : decode b_H_hasValue 73 = .ok (.ireturn, 1) := by decide +kernel
theorem d_H_hasValue_74 : decode b_H_hasValue 74 = .ok (.iinc 2 1, 3) := by decide +kernel
theorem d_H_hasValue_77 : decode b_H_hasValue 77 = .ok (.goto (-59), 3) := by decide +kernel
theorem d_H_hasValue_80 : decode b_H_hasValue 80 = .ok (.iconst 1, 1) := by decide +kernel
theorem d_H_hasValue_81 : decode b_H_hasValue 81 = .ok (.ireturn, 1) := by decide +kernel
theorem d_S_isConLiving_0 : decode b_S_isConLiving 0 = .ok (.aload_n 0, 1) := by decide +kernel
theorem d_S_isConLiving_1 : decode b_S_isConLiving 1 = .ok (.getfield 21, 3) := by decide +kernel
theorem d_S_isConLiving_4 : decode b_S_isConLiving 4 = .ok (.iload_n 1, 1) := by decide +kernel
theorem d_S_isConLiving_5 : decode b_S_isConLiving 5 = .ok (.ishr, 1) := by decide +kernel
theorem d_S_isConLiving_6 : decode b_S_isConLiving 6 = .ok (.iconst 1, 1) := by decide +kernel
theorem d_S_isConLiving_7 : decode b_S_isConLiving 7 = .ok (.iand, 1) := by decide +kernel
theorem d_S_isConLiving_8 : decode b_S_isConLiving 8 = .ok (.ifCond .eq 7, 3) := by decide +kernel
theorem d_S_isConLiving_11 : decode b_S_isConLiving 11 = .ok (.iconst 1, 1) := by decide +kernel
theorem d_S_isConLiving_12 : decode b_S_isConLiving 12 = .ok (.goto 4, 3) := by decide +kernel
theorem d_S_isConLiving_15 : decode b_S_isConLiving 15 = .ok (.iconst 0, 1) := by decide +kernel
theorem d_S_isConLiving_16 : decode b_S_isConLiving 16 = .ok (.ireturn, 1) := by decide +kernel
theorem d_H_rowsBeforeThatAgree_0 : decode b_H_rowsBeforeThatAgree 0 = .ok (.iconst 0, 1) := by decide +kernel
theorem d_H_rowsBeforeThatAgree_1 : decode b_H_rowsBeforeThatAgree 1 = .ok (.istore_n 2, 1) := by decide +kernel
theorem d_H_rowsBeforeThatAgree_2 : decode b_H_rowsBeforeThatAgree 2 = .ok (.iconst 0, 1) := by decide +kernel
theorem d_H_rowsBeforeThatAgree_3 : decode b_H_rowsBeforeThatAgree 3 = .ok (.istore_n 3, 1) := by decide +kernel
theorem d_H_rowsBeforeThatAgree_4 : decode b_H_rowsBeforeThatAgree 4 = .ok (.iload_n 3, 1) := by decide +kernel
theorem d_H_rowsBeforeThatAgree_5 : decode b_H_rowsBeforeThatAgree 5 = .ok (.iload_n 1, 1) := by decide +kernel
theorem d_H_rowsBeforeThatAgree_6 : decode b_H_rowsBeforeThatAgree 6 = .ok (.if_icmp .ge 24, 3) := by decide +kernel
theorem d_H_rowsBeforeThatAgree_9 : decode b_H_rowsBeforeThatAgree 9 = .ok (.aload_n 0, 1) := by decide +kernel
theorem d_H_rowsBeforeThatAgree_10 : decode b_H_rowsBeforeThatAgree 10 = .ok (.iload_n 3, 1) := by decide +kernel
theorem d_H_rowsBeforeThatAgree_11 : decode b_H_rowsBeforeThatAgree 11 = .ok (.iload_n 1, 1) := by decide +kernel
theorem d_H_rowsBeforeThatAgree_12 : decode b_H_rowsBeforeThatAgree 12 = .ok (.invokevirtual 113, 3) := by decide +kernel
theorem d_H_rowsBeforeThatAgree_15 : decode b_H_rowsBeforeThatAgree 15 = .ok (.ifCond .eq 9, 3) := by decide +kernel
theorem d_H_rowsBeforeThatAgree_18 : decode b_H_rowsBeforeThatAgree 18 = .ok (.iload_n 2, 1) := by decide +kernel
theorem d_H_rowsBeforeThatAgree_19 : decode b_H_rowsBeforeThatAgree 19 = .ok (.iconst 1, 1) := by decide +kernel
theorem d_H_rowsBeforeThatAgree_20 : decode b_H_rowsBeforeThatAgree 20 = .ok (.iload_n 3, 1) := by decide +kernel
theorem d_H_rowsBeforeThatAgree_21 : decode b_H_rowsBeforeThatAgree 21 = .ok (.ishl, 1) := by decide +kernel
theorem d_H_rowsBeforeThatAgree_22 : decode b_H_rowsBeforeThatAgree 22 = .ok (.ior, 1) := by decide +kernel
theorem d_H_rowsBeforeThatAgree_23 : decode b_H_rowsBeforeThatAgree 23 = .ok (.istore_n 2, 1) := by decide +kernel
theorem d_H_rowsBeforeThatAgree_24 : decode b_H_rowsBeforeThatAgree 24 = .ok (.iinc 3 1, 3) := by decide +kernel
theorem d_H_rowsBeforeThatAgree_27 : decode b_H_rowsBeforeThatAgree 27 = .ok (.goto (-23), 3) := by decide +kernel
theorem d_H_rowsBeforeThatAgree_30 : decode b_H_rowsBeforeThatAgree 30 = .ok (.iload_n 2, 1) := by decide +kernel
theorem d_H_rowsBeforeThatAgree_31 : decode b_H_rowsBeforeThatAgree 31 = .ok (.ireturn, 1) := by decide +kernel
theorem d_H_agree_0 : decode b_H_agree 0 = .ok (.iconst 0, 1) := by decide +kernel
theorem d_H_agree_1 : decode b_H_agree 1 = .ok (.istore_n 3, 1) := by decide +kernel
theorem d_H_agree_2 : decode b_H_agree 2 = .ok (.iload_n 3, 1) := by decide +kernel
theorem d_H_agree_3 : decode b_H_agree 3 = .ok (.aload_n 0, 1) := by decide +kernel
theorem d_H_agree_4 : decode b_H_agree 4 = .ok (.getfield 52, 3) := by decide +kernel
theorem d_H_agree_7 : decode b_H_agree 7 = .ok (.if_icmp .ge 60, 3) := by decide +kernel
theorem d_H_agree_10 : decode b_H_agree 10 = .ok (.aload_n 0, 1) := by decide +kernel
theorem d_H_agree_11 : decode b_H_agree 11 = .ok (.iload_n 1, 1) := by decide +kernel
theorem d_H_agree_12 : decode b_H_agree 12 = .ok (.iload_n 3, 1) := by decide +kernel
theorem d_H_agree_13 : decode b_H_agree 13 = .ok (.invokevirtual 106, 3) := by decide +kernel
theorem d_H_agree_16 : decode b_H_agree 16 = .ok (.ifCond .eq 16, 3) := by decide +kernel
theorem d_H_agree_19 : decode b_H_agree 19 = .ok (.aload_n 0, 1) := by decide +kernel
theorem d_H_agree_20 : decode b_H_agree 20 = .ok (.iload_n 2, 1) := by decide +kernel
theorem d_H_agree_21 : decode b_H_agree 21 = .ok (.iload_n 3, 1) := by decide +kernel
theorem d_H_agree_22 : decode b_H_agree 22 = .ok (.invokevirtual 106, 3) := by decide +kernel
theorem d_H_agree_25 : decode b_H_agree 25 = .ok (.ifCond .eq 7, 3) := by decide +kernel
theorem d_H_agree_28 : decode b_H_agree 28 = .ok (.iconst 1, 1) := by decide +kernel
theorem d_H_agree_29 : decode b_H_agree 29 = .ok (.goto 4, 3) := by decide +kernel
theorem d_H_agree_32 : decode b_H_agree 32 = .ok (.iconst 0, 1) := by decide +kernel
theorem d_H_agree_33 : decode b_H_agree 33 = .ok (.istore 4, 2) := by decide +kernel
theorem d_H_agree_35 : decode b_H_agree 35 = .ok (.iload 4, 2) := by decide +kernel
theorem d_H_agree_37 : decode b_H_agree 37 = .ok (.ifCond .eq 24, 3) := by decide +kernel
theorem d_H_agree_40 : decode b_H_agree 40 = .ok (.aload_n 0, 1) := by decide +kernel
theorem d_H_agree_41 : decode b_H_agree 41 = .ok (.getfield 25, 3) := by decide +kernel
theorem d_H_agree_44 : decode b_H_agree 44 = .ok (.iload_n 1, 1) := by decide +kernel
theorem d_H_agree_45 : decode b_H_agree 45 = .ok (.aaload, 1) := by decide +kernel
theorem d_H_agree_46 : decode b_H_agree 46 = .ok (.iload_n 3, 1) := by decide +kernel
theorem d_H_agree_47 : decode b_H_agree 47 = .ok (.iaload, 1) := by decide +kernel
theorem d_H_agree_48 : decode b_H_agree 48 = .ok (.aload_n 0, 1) := by decide +kernel
theorem d_H_agree_49 : decode b_H_agree 49 = .ok (.getfield 25, 3) := by decide +kernel
theorem d_H_agree_52 : decode b_H_agree 52 = .ok (.iload_n 2, 1) := by decide +kernel
theorem d_H_agree_53 : decode b_H_agree 53 = .ok (.aaload, 1) := by decide +kernel
theorem d_H_agree_54 : decode b_H_agree 54 = .ok (.iload_n 3, 1) := by decide +kernel
theorem d_H_agree_55 : decode b_H_agree 55 = .ok (.iaload, 1) := by decide +kernel
theorem d_H_agree_56 : decode b_H_agree 56 = .ok (.if_icmp .eq 5, 3) := by decide +kernel
theorem d_H_agree_59 : decode b_H_agree 59 = .ok (.iconst 0, 1) := by decide +kernel
theorem d_H_agree_60 : decode b_H_agree 60 = .ok (.ireturn, 1) := by decide +kernel
theorem d_H_agree_61 : decode b_H_agree 61 = .ok (.iinc 3 1, 3) := by decide +kernel
theorem d_H_agree_64 : decode b_H_agree 64 = .ok (.goto (-62), 3) := by decide +kernel
theorem d_H_agree_67 : decode b_H_agree 67 = .ok (.iconst 1, 1) := by decide +kernel
theorem d_H_agree_68 : decode b_H_agree 68 = .ok (.ireturn, 1) := by decide +kernel
theorem d_JI_bitCount_0 : decode b_JI_bitCount 0 = .ok (.iload_n 0, 1) := by decide +kernel
theorem d_JI_bitCount_1 : decode b_JI_bitCount 1 = .ok (.iload_n 0, 1) := by decide +kernel
theorem d_JI_bitCount_2 : decode b_JI_bitCount 2 = .ok (.iconst 1, 1) := by decide +kernel
theorem d_JI_bitCount_3 : decode b_JI_bitCount 3 = .ok (.iushr, 1) := by decide +kernel
theorem d_JI_bitCount_4 : decode b_JI_bitCount 4 = .ok (.ldc_w 265, 3) := by decide +kernel
theorem d_JI_bitCount_7 : decode b_JI_bitCount 7 = .ok (.iand, 1) := by decide +kernel
theorem d_JI_bitCount_8 : decode b_JI_bitCount 8 = .ok (.isub, 1) := by decide +kernel
theorem d_JI_bitCount_9 : decode b_JI_bitCount 9 = .ok (.istore_n 0, 1) := by decide +kernel
theorem d_JI_bitCount_10 : decode b_JI_bitCount 10 = .ok (.iload_n 0, 1) := by decide +kernel
theorem d_JI_bitCount_11 : decode b_JI_bitCount 11 = .ok (.ldc_w 266, 3) := by decide +kernel
theorem d_JI_bitCount_14 : decode b_JI_bitCount 14 = .ok (.iand, 1) := by decide +kernel
theorem d_JI_bitCount_15 : decode b_JI_bitCount 15 = .ok (.iload_n 0, 1) := by decide +kernel
theorem d_JI_bitCount_16 : decode b_JI_bitCount 16 = .ok (.iconst 2, 1) := by decide +kernel
theorem d_JI_bitCount_17 : decode b_JI_bitCount 17 = .ok (.iushr, 1) := by decide +kernel
theorem d_JI_bitCount_18 : decode b_JI_bitCount 18 = .ok (.ldc_w 266, 3) := by decide +kernel
theorem d_JI_bitCount_21 : decode b_JI_bitCount 21 = .ok (.iand, 1) := by decide +kernel
theorem d_JI_bitCount_22 : decode b_JI_bitCount 22 = .ok (.iadd, 1) := by decide +kernel
theorem d_JI_bitCount_23 : decode b_JI_bitCount 23 = .ok (.istore_n 0, 1) := by decide +kernel
theorem d_JI_bitCount_24 : decode b_JI_bitCount 24 = .ok (.iload_n 0, 1) := by decide +kernel
theorem d_JI_bitCount_25 : decode b_JI_bitCount 25 = .ok (.iload_n 0, 1) := by decide +kernel
theorem d_JI_bitCount_26 : decode b_JI_bitCount 26 = .ok (.iconst 4, 1) := by decide +kernel
theorem d_JI_bitCount_27 : decode b_JI_bitCount 27 = .ok (.iushr, 1) := by decide +kernel
theorem d_JI_bitCount_28 : decode b_JI_bitCount 28 = .ok (.iadd, 1) := by decide +kernel
theorem d_JI_bitCount_29 : decode b_JI_bitCount 29 = .ok (.ldc_w 267, 3) := by decide +kernel
theorem d_JI_bitCount_32 : decode b_JI_bitCount 32 = .ok (.iand, 1) := by decide +kernel
theorem d_JI_bitCount_33 : decode b_JI_bitCount 33 = .ok (.istore_n 0, 1) := by decide +kernel
theorem d_JI_bitCount_34 : decode b_JI_bitCount 34 = .ok (.iload_n 0, 1) := by decide +kernel
theorem d_JI_bitCount_35 : decode b_JI_bitCount 35 = .ok (.iload_n 0, 1) := by decide +kernel
theorem d_JI_bitCount_36 : decode b_JI_bitCount 36 = .ok (.bipush 8, 2) := by decide +kernel
theorem d_JI_bitCount_38 : decode b_JI_bitCount 38 = .ok (.iushr, 1) := by decide +kernel
theorem d_JI_bitCount_39 : decode b_JI_bitCount 39 = .ok (.iadd, 1) := by decide +kernel
theorem d_JI_bitCount_40 : decode b_JI_bitCount 40 = .ok (.istore_n 0, 1) := by decide +kernel
theorem d_JI_bitCount_41 : decode b_JI_bitCount 41 = .ok (.iload_n 0, 1) := by decide +kernel
theorem d_JI_bitCount_42 : decode b_JI_bitCount 42 = .ok (.iload_n 0, 1) := by decide +kernel
theorem d_JI_bitCount_43 : decode b_JI_bitCount 43 = .ok (.bipush 16, 2) := by decide +kernel
theorem d_JI_bitCount_45 : decode b_JI_bitCount 45 = .ok (.iushr, 1) := by decide +kernel
theorem d_JI_bitCount_46 : decode b_JI_bitCount 46 = .ok (.iadd, 1) := by decide +kernel
theorem d_JI_bitCount_47 : decode b_JI_bitCount 47 = .ok (.istore_n 0, 1) := by decide +kernel
theorem d_JI_bitCount_48 : decode b_JI_bitCount 48 = .ok (.iload_n 0, 1) := by decide +kernel
theorem d_JI_bitCount_49 : decode b_JI_bitCount 49 = .ok (.bipush 63, 2) := by decide +kernel
theorem d_JI_bitCount_51 : decode b_JI_bitCount 51 = .ok (.iand, 1) := by decide +kernel
theorem d_JI_bitCount_52 : decode b_JI_bitCount 52 = .ok (.ireturn, 1) := by decide +kernel
theorem d_L_sort_0 : decode b_L_sort 0 = .ok (.aload_n 1, 1) := by decide +kernel
theorem d_L_sort_1 : decode b_L_sort 1 = .ok (.iconst 0, 1) := by decide +kernel
theorem d_L_sort_2 : decode b_L_sort 2 = .ok (.aload_n 0, 1) := by decide +kernel
theorem d_L_sort_3 : decode b_L_sort 3 = .ok (.invokevirtual 7, 3) := by decide +kernel
theorem d_L_sort_6 : decode b_L_sort 6 = .ok (.i2l, 1) := by decide +kernel
theorem d_L_sort_7 : decode b_L_sort 7 = .ok (.lastore, 1) := by decide +kernel
theorem d_L_sort_8 : decode b_L_sort 8 = .ok (.goto 6, 3) := by decide +kernel
theorem d_L_sort_11 : decode b_L_sort 11 = .ok (.astore_n 2, 1) := by decide +kernel
theorem d_L_sort_12 : decode b_L_sort 12 = .ok (.iconst 1, 1) := by decide +kernel
theorem d_L_sort_13 : decode b_L_sort 13 = .ok (.ireturn, 1) := by decide +kernel
theorem d_L_sort_14 : decode b_L_sort 14 = .ok (.iconst 0, 1) := by decide +kernel
theorem d_L_sort_15 : decode b_L_sort 15 = .ok (.ireturn, 1) := by decide +kernel
theorem d_C_sort_0 : decode b_C_sort 0 = .ok (.aload_n 0, 1) := by decide +kernel
theorem d_C_sort_1 : decode b_C_sort 1 = .ok (.getfield 10, 3) := by decide +kernel
theorem d_C_sort_4 : decode b_C_sort 4 = .ok (.getfield 35, 3) := by decide +kernel
theorem d_C_sort_7 : decode b_C_sort 7 = .ok (.bipush 12, 2) := by decide +kernel
theorem d_C_sort_9 : decode b_C_sort 9 = .ok (.if_icmp .lt 13, 3) := by decide +kernel
theorem d_C_sort_12 : decode b_C_sort 12 = .ok (.new 39, 3) := by decide +kernel
theorem d_C_sort_15 : decode b_C_sort 15 = .ok (.dup, 1) := by decide +kernel
theorem d_C_sort_16 : decode b_C_sort 16 = .ok (.ldc 41, 2) := by decide +kernel
theorem d_C_sort_18 : decode b_C_sort 18 = .ok (.invokespecial 43, 3) := by decide +kernel
theorem d_C_sort_21 : decode b_C_sort 21 = .ok (.athrow, 1) := by decide +kernel
theorem d_C_sort_22 : decode b_C_sort 22 = .ok (.aload_n 0, 1) := by decide +kernel
theorem d_C_sort_23 : decode b_C_sort 23 = .ok (.getfield 10, 3) := by decide +kernel
theorem d_C_sort_26 : decode b_C_sort 26 = .ok (.invokevirtual 46, 3) := by decide +kernel
theorem d_C_sort_29 : decode b_C_sort 29 = .ok (.ireturn, 1) := by decide +kernel
theorem d_S_addSort_0 : decode b_S_addSort 0 = .ok (.aload_n 0, 1) := by decide +kernel
theorem d_S_addSort_1 : decode b_S_addSort 1 = .ok (.getfield 9, 3) := by decide +kernel
theorem d_S_addSort_4 : decode b_S_addSort 4 = .ok (.istore_n 1, 1) := by decide +kernel
theorem d_S_addSort_5 : decode b_S_addSort 5 = .ok (.aload_n 0, 1) := by decide +kernel
theorem d_S_addSort_6 : decode b_S_addSort 6 = .ok (.dup, 1) := by decide +kernel
theorem d_S_addSort_7 : decode b_S_addSort 7 = .ok (.getfield 9, 3) := by decide +kernel
theorem d_S_addSort_10 : decode b_S_addSort 10 = .ok (.iconst 1, 1) := by decide +kernel
theorem d_S_addSort_11 : decode b_S_addSort 11 = .ok (.iadd, 1) := by decide +kernel
theorem d_S_addSort_12 : decode b_S_addSort 12 = .ok (.putfield 9, 3) := by decide +kernel
theorem d_S_addSort_15 : decode b_S_addSort 15 = .ok (.aload_n 0, 1) := by decide +kernel
theorem d_S_addSort_16 : decode b_S_addSort 16 = .ok (.invokevirtual 40, 3) := by decide +kernel
theorem d_S_addSort_19 : decode b_S_addSort 19 = .ok (.iload_n 1, 1) := by decide +kernel
theorem d_S_addSort_20 : decode b_S_addSort 20 = .ok (.ireturn, 1) := by decide +kernel
theorem d_S_findLiving_0 : decode b_S_findLiving 0 = .ok (.aload_n 0, 1) := by decide +kernel
theorem d_S_findLiving_1 : decode b_S_findLiving 1 = .ok (.iconst 1, 1) := by decide +kernel
theorem d_S_findLiving_2 : decode b_S_findLiving 2 = .ok (.aload_n 0, 1) := by decide +kernel
theorem d_S_findLiving_3 : decode b_S_findLiving 3 = .ok (.getfield 9, 3) := by decide +kernel
theorem d_S_findLiving_6 : decode b_S_findLiving 6 = .ok (.ishl, 1) := by decide +kernel
theorem d_S_findLiving_7 : decode b_S_findLiving 7 = .ok (.iconst 1, 1) := by decide +kernel
theorem d_S_findLiving_8 : decode b_S_findLiving 8 = .ok (.isub, 1) := by decide +kernel
theorem d_S_findLiving_9 : decode b_S_findLiving 9 = .ok (.putfield 18, 3) := by decide +kernel
theorem d_S_findLiving_12 : decode b_S_findLiving 12 = .ok (.iconst 0, 1) := by decide +kernel
theorem d_S_findLiving_13 : decode b_S_findLiving 13 = .ok (.istore_n 1, 1) := by decide +kernel
theorem d_S_findLiving_14 : decode b_S_findLiving 14 = .ok (.iload_n 1, 1) := by decide +kernel
theorem d_S_findLiving_15 : decode b_S_findLiving 15 = .ok (.aload_n 0, 1) := by decide +kernel
theorem d_S_findLiving_16 : decode b_S_findLiving 16 = .ok (.getfield 9, 3) := by decide +kernel
theorem d_S_findLiving_19 : decode b_S_findLiving 19 = .ok (.if_icmp .ge 25, 3) := by decide +kernel
theorem d_S_findLiving_22 : decode b_S_findLiving 22 = .ok (.aload_n 0, 1) := by decide +kernel
theorem d_S_findLiving_23 : decode b_S_findLiving 23 = .ok (.aload_n 0, 1) := by decide +kernel
theorem d_S_findLiving_24 : decode b_S_findLiving 24 = .ok (.invokevirtual 43, 3) := by decide +kernel
theorem d_S_findLiving_27 : decode b_S_findLiving 27 = .ok (.putfield 21, 3) := by decide +kernel
theorem d_S_findLiving_30 : decode b_S_findLiving 30 = .ok (.aload_n 0, 1) := by decide +kernel
theorem d_S_findLiving_31 : decode b_S_findLiving 31 = .ok (.aload_n 0, 1) := by decide +kernel
theorem d_S_findLiving_32 : decode b_S_findLiving 32 = .ok (.invokevirtual 47, 3) := by decide +kernel
theorem d_S_findLiving_35 : decode b_S_findLiving 35 = .ok (.putfield 18, 3) := by decide +kernel
theorem d_S_findLiving_38 : decode b_S_findLiving 38 = .ok (.iinc 1 1, 3) := by decide +kernel
theorem d_S_findLiving_41 : decode b_S_findLiving 41 = .ok (.goto (-27), 3) := by decide +kernel
theorem d_S_findLiving_44 : decode b_S_findLiving 44 = .ok (.return_, 1) := by decide +kernel
theorem d_S_consWithLivingParts_0 : decode b_S_consWithLivingParts 0 = .ok (.iconst 0, 1) := by decide +kernel
theorem d_S_consWithLivingParts_1 : decode b_S_consWithLivingParts 1 = .ok (.istore_n 1, 1) := by decide +kernel
theorem d_S_consWithLivingParts_2 : decode b_S_consWithLivingParts 2 = .ok (.iconst 0, 1) := by decide +kernel
theorem d_S_consWithLivingParts_3 : decode b_S_consWithLivingParts 3 = .ok (.istore_n 2, 1) := by decide +kernel
theorem d_S_consWithLivingParts_4 : decode b_S_consWithLivingParts 4 = .ok (.iload_n 2, 1) := by decide +kernel
theorem d_S_consWithLivingParts_5 : decode b_S_consWithLivingParts 5 = .ok (.aload_n 0, 1) := by decide +kernel
theorem d_S_consWithLivingParts_6 : decode b_S_consWithLivingParts 6 = .ok (.getfield 15, 3) := by decide +kernel
theorem d_S_consWithLivingParts_9 : decode b_S_consWithLivingParts 9 = .ok (.if_icmp .ge 65, 3) := by decide +kernel
theorem d_S_consWithLivingParts_12 : decode b_S_consWithLivingParts 12 = .ok (.iconst 1, 1) := by decide +kernel
theorem d_S_consWithLivingParts_13 : decode b_S_consWithLivingParts 13 = .ok (.istore_n 3, 1) := by decide +kernel
theorem d_S_consWithLivingParts_14 : decode b_S_consWithLivingParts 14 = .ok (.iconst 0, 1) := by decide +kernel
theorem d_S_consWithLivingParts_15 : decode b_S_consWithLivingParts 15 = .ok (.istore 4, 2) := by decide +kernel
theorem d_S_consWithLivingParts_17 : decode b_S_consWithLivingParts 17 = .ok (.iload 4, 2) := by decide +kernel
theorem d_S_consWithLivingParts_19 : decode b_S_consWithLivingParts 19 = .ok (.aload_n 0, 1) := by decide +kernel
theorem d_S_consWithLivingParts_20 : decode b_S_consWithLivingParts 20 = .ok (.getfield 31, 3) := by decide +kernel
theorem d_S_consWithLivingParts_23 : decode b_S_consWithLivingParts 23 = .ok (.iload_n 2, 1) := by decide +kernel
theorem d_S_consWithLivingParts_24 : decode b_S_consWithLivingParts 24 = .ok (.iaload, 1) := by decide +kernel
theorem d_S_consWithLivingParts_25 : decode b_S_consWithLivingParts 25 = .ok (.if_icmp .ge 33, 3) := by decide +kernel
theorem d_S_consWithLivingParts_28 : decode b_S_consWithLivingParts 28 = .ok (.iload_n 3, 1) := by decide +kernel
theorem d_S_consWithLivingParts_29 : decode b_S_consWithLivingParts 29 = .ok (.ifCond .eq 21, 3) := by decide +kernel
theorem d_S_consWithLivingParts_32 : decode b_S_consWithLivingParts 32 = .ok (.aload_n 0, 1) := by decide +kernel
theorem d_S_consWithLivingParts_33 : decode b_S_consWithLivingParts 33 = .ok (.aload_n 0, 1) := by decide +kernel
theorem d_S_consWithLivingParts_34 : decode b_S_consWithLivingParts 34 = .ok (.iload_n 2, 1) := by decide +kernel
theorem d_S_consWithLivingParts_35 : decode b_S_consWithLivingParts 35 = .ok (.iload 4, 2) := by decide +kernel
theorem d_S_consWithLivingParts_37 : decode b_S_consWithLivingParts 37 = .ok (.invokevirtual 50, 3) := by decide +kernel
theorem d_S_consWithLivingParts_40 : decode b_S_consWithLivingParts 40 = .ok (.invokevirtual 54, 3) := by decide +kernel
theorem d_S_consWithLivingParts_43 : decode b_S_consWithLivingParts 43 = .ok (.ifCond .eq 7, 3) := by decide +kernel
theorem d_S_consWithLivingParts_46 : decode b_S_consWithLivingParts 46 = .ok (.iconst 1, 1) := by decide +kernel
theorem d_S_consWithLivingParts_47 : decode b_S_consWithLivingParts 47 = .ok (.goto 4, 3) := by decide +kernel
theorem d_S_consWithLivingParts_50 : decode b_S_consWithLivingParts 50 = .ok (.iconst 0, 1) := by decide +kernel
theorem d_S_consWithLivingParts_51 : decode b_S_consWithLivingParts 51 = .ok (.istore_n 3, 1) := by decide +kernel
theorem d_S_consWithLivingParts_52 : decode b_S_consWithLivingParts 52 = .ok (.iinc 4 1, 3) := by decide +kernel
theorem d_S_consWithLivingParts_55 : decode b_S_consWithLivingParts 55 = .ok (.goto (-38), 3) := by decide +kernel
theorem d_S_consWithLivingParts_58 : decode b_S_consWithLivingParts 58 = .ok (.iload_n 3, 1) := by decide +kernel
theorem d_S_consWithLivingParts_59 : decode b_S_consWithLivingParts 59 = .ok (.ifCond .eq 9, 3) := by decide +kernel
theorem d_S_consWithLivingParts_62 : decode b_S_consWithLivingParts 62 = .ok (.iload_n 1, 1) := by decide +kernel
theorem d_S_consWithLivingParts_63 : decode b_S_consWithLivingParts 63 = .ok (.iconst 1, 1) := by decide +kernel
theorem d_S_consWithLivingParts_64 : decode b_S_consWithLivingParts 64 = .ok (.iload_n 2, 1) := by decide +kernel
theorem d_S_consWithLivingParts_65 : decode b_S_consWithLivingParts 65 = .ok (.ishl, 1) := by decide +kernel
theorem d_S_consWithLivingParts_66 : decode b_S_consWithLivingParts 66 = .ok (.ior, 1) := by decide +kernel
theorem d_S_consWithLivingParts_67 : decode b_S_consWithLivingParts 67 = .ok (.istore_n 1, 1) := by decide +kernel
theorem d_S_consWithLivingParts_68 : decode b_S_consWithLivingParts 68 = .ok (.iinc 2 1, 3) := by decide +kernel
theorem d_S_consWithLivingParts_71 : decode b_S_consWithLivingParts 71 = .ok (.goto (-67), 3) := by decide +kernel
theorem d_S_consWithLivingParts_74 : decode b_S_consWithLivingParts 74 = .ok (.iload_n 1, 1) := by decide +kernel
theorem d_S_consWithLivingParts_75 : decode b_S_consWithLivingParts 75 = .ok (.ireturn, 1) := by decide +kernel
theorem d_S_partSort_0 : decode b_S_partSort 0 = .ok (.iload_n 2, 1) := by decide +kernel
theorem d_S_partSort_1 : decode b_S_partSort 1 = .ok (.ifCond .ne 12, 3) := by decide +kernel
theorem d_S_partSort_4 : decode b_S_partSort 4 = .ok (.aload_n 0, 1) := by decide +kernel
theorem d_S_partSort_5 : decode b_S_partSort 5 = .ok (.getfield 34, 3) := by decide +kernel
theorem d_S_partSort_8 : decode b_S_partSort 8 = .ok (.iload_n 1, 1) := by decide +kernel
theorem d_S_partSort_9 : decode b_S_partSort 9 = .ok (.iaload, 1) := by decide +kernel
theorem d_S_partSort_10 : decode b_S_partSort 10 = .ok (.goto 9, 3) := by decide +kernel
theorem d_S_partSort_13 : decode b_S_partSort 13 = .ok (.aload_n 0, 1) := by decide +kernel
theorem d_S_partSort_14 : decode b_S_partSort 14 = .ok (.getfield 37, 3) := by decide +kernel
theorem d_S_partSort_17 : decode b_S_partSort 17 = .ok (.iload_n 1, 1) := by decide +kernel
theorem d_S_partSort_18 : decode b_S_partSort 18 = .ok (.iaload, 1) := by decide +kernel
theorem d_S_partSort_19 : decode b_S_partSort 19 = .ok (.ireturn, 1) := by decide +kernel
theorem d_S_sortsWithLivingCons_0 : decode b_S_sortsWithLivingCons 0 = .ok (.iconst 1, 1) := by decide +kernel
theorem d_S_sortsWithLivingCons_1 : decode b_S_sortsWithLivingCons 1 = .ok (.istore_n 1, 1) := by decide +kernel
theorem d_S_sortsWithLivingCons_2 : decode b_S_sortsWithLivingCons 2 = .ok (.iconst 1, 1) := by decide +kernel
theorem d_S_sortsWithLivingCons_3 : decode b_S_sortsWithLivingCons 3 = .ok (.istore_n 2, 1) := by decide +kernel
theorem d_S_sortsWithLivingCons_4 : decode b_S_sortsWithLivingCons 4 = .ok (.iload_n 2, 1) := by decide +kernel
theorem d_S_sortsWithLivingCons_5 : decode b_S_sortsWithLivingCons 5 = .ok (.aload_n 0, 1) := by decide +kernel
theorem d_S_sortsWithLivingCons_6 : decode b_S_sortsWithLivingCons 6 = .ok (.getfield 9, 3) := by decide +kernel
theorem d_S_sortsWithLivingCons_9 : decode b_S_sortsWithLivingCons 9 = .ok (.if_icmp .ge 23, 3) := by decide +kernel
theorem d_S_sortsWithLivingCons_12 : decode b_S_sortsWithLivingCons 12 = .ok (.aload_n 0, 1) := by decide +kernel
theorem d_S_sortsWithLivingCons_13 : decode b_S_sortsWithLivingCons 13 = .ok (.iload_n 2, 1) := by decide +kernel
theorem d_S_sortsWithLivingCons_14 : decode b_S_sortsWithLivingCons 14 = .ok (.invokevirtual 58, 3) := by decide +kernel
theorem d_S_sortsWithLivingCons_17 : decode b_S_sortsWithLivingCons 17 = .ok (.ifCond .eq 9, 3) := by decide +kernel
theorem d_S_sortsWithLivingCons_20 : decode b_S_sortsWithLivingCons 20 = .ok (.iload_n 1, 1) := by decide +kernel
theorem d_S_sortsWithLivingCons_21 : decode b_S_sortsWithLivingCons 21 = .ok (.iconst 1, 1) := by decide +kernel
theorem d_S_sortsWithLivingCons_22 : decode b_S_sortsWithLivingCons 22 = .ok (.iload_n 2, 1) := by decide +kernel
theorem d_S_sortsWithLivingCons_23 : decode b_S_sortsWithLivingCons 23 = .ok (.ishl, 1) := by decide +kernel
theorem d_S_sortsWithLivingCons_24 : decode b_S_sortsWithLivingCons 24 = .ok (.ior, 1) := by decide +kernel
theorem d_S_sortsWithLivingCons_25 : decode b_S_sortsWithLivingCons 25 = .ok (.istore_n 1, 1) := by decide +kernel
theorem d_S_sortsWithLivingCons_26 : decode b_S_sortsWithLivingCons 26 = .ok (.iinc 2 1, 3) := by decide +kernel
theorem d_S_sortsWithLivingCons_29 : decode b_S_sortsWithLivingCons 29 = .ok (.goto (-25), 3) := by decide +kernel
theorem d_S_sortsWithLivingCons_32 : decode b_S_sortsWithLivingCons 32 = .ok (.iload_n 1, 1) := by decide +kernel
theorem d_S_sortsWithLivingCons_33 : decode b_S_sortsWithLivingCons 33 = .ok (.ireturn, 1) := by decide +kernel
theorem d_L_con_0 : decode b_L_con 0 = .ok (.aload 5, 2) := by decide +kernel
theorem d_L_con_2 : decode b_L_con 2 = .ok (.iconst 0, 1) := by decide +kernel
theorem d_L_con_3 : decode b_L_con 3 = .ok (.aload_n 0, 1) := by decide +kernel
theorem d_L_con_4 : decode b_L_con 4 = .ok (.iload_n 1, 1) := by decide +kernel
theorem d_L_con_5 : decode b_L_con 5 = .ok (.iload_n 2, 1) := by decide +kernel
theorem d_L_con_6 : decode b_L_con 6 = .ok (.iload_n 3, 1) := by decide +kernel
theorem d_L_con_7 : decode b_L_con 7 = .ok (.iload 4, 2) := by decide +kernel
theorem d_L_con_9 : decode b_L_con 9 = .ok (.invokevirtual 15, 3) := by decide +kernel
theorem d_L_con_12 : decode b_L_con 12 = .ok (.i2l, 1) := by decide +kernel
theorem d_L_con_13 : decode b_L_con 13 = .ok (.lastore, 1) := by decide +kernel
theorem d_L_con_14 : decode b_L_con 14 = .ok (.goto 11, 3) := by decide +kernel
theorem d_L_con_17 : decode b_L_con 17 = .ok (.astore 6, 2) := by decide +kernel
theorem d_L_con_19 : decode b_L_con 19 = .ok (.iconst 1, 1) := by decide +kernel
theorem d_L_con_20 : decode b_L_con 20 = .ok (.ireturn, 1) := by decide +kernel
theorem d_L_con_21 : decode b_L_con 21 = .ok (.astore 6, 2) := by decide +kernel
theorem d_L_con_23 : decode b_L_con 23 = .ok (.iconst 2, 1) := by decide +kernel
theorem d_L_con_24 : decode b_L_con 24 = .ok (.ireturn, 1) := by decide +kernel
theorem d_L_con_25 : decode b_L_con 25 = .ok (.iconst 0, 1) := by decide +kernel
theorem d_L_con_26 : decode b_L_con 26 = .ok (.ireturn, 1) := by decide +kernel
theorem d_C_con_0 : decode b_C_con 0 = .ok (.aload_n 0, 1) := by decide +kernel
theorem d_C_con_1 : decode b_C_con 1 = .ok (.iload_n 1, 1) := by decide +kernel
theorem d_C_con_2 : decode b_C_con 2 = .ok (.invokevirtual 50, 3) := by decide +kernel
theorem d_C_con_5 : decode b_C_con 5 = .ok (.iload_n 1, 1) := by decide +kernel
theorem d_C_con_6 : decode b_C_con 6 = .ok (.ifCond .ne 13, 3) := by decide +kernel
theorem d_C_con_9 : decode b_C_con 9 = .ok (.new 54, 3) := by decide +kernel
theorem d_C_con_12 : decode b_C_con 12 = .ok (.dup, 1) := by decide +kernel
theorem d_C_con_13 : decode b_C_con 13 = .ok (.ldc 56, 2) := by decide +kernel
theorem d_C_con_15 : decode b_C_con 15 = .ok (.invokespecial 58, 3) := by decide +kernel
theorem d_C_con_18 : decode b_C_con 18 = .ok (.athrow, 1) := by decide +kernel
theorem d_C_con_19 : decode b_C_con 19 = .ok (.iload_n 2, 1) := by decide +kernel
theorem d_C_con_20 : decode b_C_con 20 = .ok (.ifCond .lt 8, 3) := by decide +kernel
theorem d_C_con_23 : decode b_C_con 23 = .ok (.iload_n 2, 1) := by decide +kernel
theorem d_C_con_24 : decode b_C_con 24 = .ok (.iconst 2, 1) := by decide +kernel
theorem d_C_con_25 : decode b_C_con 25 = .ok (.if_icmp .le 13, 3) := by decide +kernel
theorem d_C_con_28 : decode b_C_con 28 = .ok (.new 54, 3) := by decide +kernel
theorem d_C_con_31 : decode b_C_con 31 = .ok (.dup, 1) := by decide +kernel
theorem d_C_con_32 : decode b_C_con 32 = .ok (.ldc 59, 2) := by decide +kernel
theorem d_C_con_34 : decode b_C_con 34 = .ok (.invokespecial 58, 3) := by decide +kernel
theorem d_C_con_37 : decode b_C_con 37 = .ok (.athrow, 1) := by decide +kernel
theorem d_C_con_38 : decode b_C_con 38 = .ok (.iload_n 2, 1) := by decide +kernel
theorem d_C_con_39 : decode b_C_con 39 = .ok (.ifCond .le 8, 3) := by decide +kernel
theorem d_C_con_42 : decode b_C_con 42 = .ok (.aload_n 0, 1) := by decide +kernel
theorem d_C_con_43 : decode b_C_con 43 = .ok (.iload_n 3, 1) := by decide +kernel
theorem d_C_con_44 : decode b_C_con 44 = .ok (.invokevirtual 50, 3) := by decide +kernel
theorem d_C_con_47 : decode b_C_con 47 = .ok (.iload_n 2, 1) := by decide +kernel
theorem d_C_con_48 : decode b_C_con 48 = .ok (.iconst 1, 1) := by decide +kernel
theorem d_C_con_49 : decode b_C_con 49 = .ok (.if_icmp .le 9, 3) := by decide +kernel
theorem d_C_con_52 : decode b_C_con 52 = .ok (.aload_n 0, 1) := by decide +kernel
theorem d_C_con_53 : decode b_C_con 53 = .ok (.iload 4, 2) := by decide +kernel
theorem d_C_con_55 : decode b_C_con 55 = .ok (.invokevirtual 50, 3) := by decide +kernel
theorem d_C_con_58 : decode b_C_con 58 = .ok (.aload_n 0, 1) := by decide +kernel
theorem d_C_con_59 : decode b_C_con 59 = .ok (.getfield 10, 3) := by decide +kernel
theorem d_C_con_62 : decode b_C_con 62 = .ok (.getfield 61, 3) := by decide +kernel
theorem d_C_con_65 : decode b_C_con 65 = .ok (.bipush 30, 2) := by decide +kernel
theorem d_C_con_67 : decode b_C_con 67 = .ok (.if_icmp .lt 13, 3) := by decide +kernel
theorem d_C_con_70 : decode b_C_con 70 = .ok (.new 39, 3) := by decide +kernel
theorem d_C_con_73 : decode b_C_con 73 = .ok (.dup, 1) := by decide +kernel
theorem d_C_con_74 : decode b_C_con 74 = .ok (.ldc 64, 2) := by decide +kernel
theorem d_C_con_76 : decode b_C_con 76 = .ok (.invokespecial 43, 3) := by decide +kernel
theorem d_C_con_79 : decode b_C_con 79 = .ok (.athrow, 1) := by decide +kernel
theorem d_C_con_80 : decode b_C_con 80 = .ok (.aload_n 0, 1) := by decide +kernel
theorem d_C_con_81 : decode b_C_con 81 = .ok (.getfield 10, 3) := by decide +kernel
theorem d_C_con_84 : decode b_C_con 84 = .ok (.iload_n 1, 1) := by decide +kernel
theorem d_C_con_85 : decode b_C_con 85 = .ok (.iload_n 2, 1) := by decide +kernel
theorem d_C_con_86 : decode b_C_con 86 = .ok (.iload_n 3, 1) := by decide +kernel
theorem d_C_con_87 : decode b_C_con 87 = .ok (.iload 4, 2) := by decide +kernel
theorem d_C_con_89 : decode b_C_con 89 = .ok (.invokevirtual 66, 3) := by decide +kernel
theorem d_C_con_92 : decode b_C_con 92 = .ok (.ireturn, 1) := by decide +kernel
theorem d_C_needSort_0 : decode b_C_needSort 0 = .ok (.aload_n 0, 1) := by decide +kernel
theorem d_C_needSort_1 : decode b_C_needSort 1 = .ok (.getfield 10, 3) := by decide +kernel
theorem d_C_needSort_4 : decode b_C_needSort 4 = .ok (.iload_n 1, 1) := by decide +kernel
theorem d_C_needSort_5 : decode b_C_needSort 5 = .ok (.invokevirtual 162, 3) := by decide +kernel
theorem d_C_needSort_8 : decode b_C_needSort 8 = .ok (.ifCond .ne 13, 3) := by decide +kernel
theorem d_C_needSort_11 : decode b_C_needSort 11 = .ok (.new 54, 3) := by decide +kernel
theorem d_C_needSort_14 : decode b_C_needSort 14 = .ok (.dup, 1) := by decide +kernel
theorem d_C_needSort_15 : decode b_C_needSort 15 = .ok (.ldc 165, 2) := by decide +kernel
theorem d_C_needSort_17 : decode b_C_needSort 17 = .ok (.invokespecial 58, 3) := by decide +kernel
theorem d_C_needSort_20 : decode b_C_needSort 20 = .ok (.athrow, 1) := by decide +kernel
theorem d_C_needSort_21 : decode b_C_needSort 21 = .ok (.return_, 1) := by decide +kernel
theorem d_S_hasSort_0 : decode b_S_hasSort 0 = .ok (.iload_n 1, 1) := by decide +kernel
theorem d_S_hasSort_1 : decode b_S_hasSort 1 = .ok (.ifCond .lt 15, 3) := by decide +kernel
theorem d_S_hasSort_4 : decode b_S_hasSort 4 = .ok (.iload_n 1, 1) := by decide +kernel
theorem d_S_hasSort_5 : decode b_S_hasSort 5 = .ok (.aload_n 0, 1) := by decide +kernel
theorem d_S_hasSort_6 : decode b_S_hasSort 6 = .ok (.getfield 9, 3) := by decide +kernel
theorem d_S_hasSort_9 : decode b_S_hasSort 9 = .ok (.if_icmp .ge 7, 3) := by decide +kernel
theorem d_S_hasSort_12 : decode b_S_hasSort 12 = .ok (.iconst 1, 1) := by decide +kernel
theorem d_S_hasSort_13 : decode b_S_hasSort 13 = .ok (.goto 4, 3) := by decide +kernel
theorem d_S_hasSort_16 : decode b_S_hasSort 16 = .ok (.iconst 0, 1) := by decide +kernel
theorem d_S_hasSort_17 : decode b_S_hasSort 17 = .ok (.ireturn, 1) := by decide +kernel
theorem d_S_addCon_0 : decode b_S_addCon 0 = .ok (.aload_n 0, 1) := by decide +kernel
theorem d_S_addCon_1 : decode b_S_addCon 1 = .ok (.getfield 15, 3) := by decide +kernel
theorem d_S_addCon_4 : decode b_S_addCon 4 = .ok (.istore 5, 2) := by decide +kernel
theorem d_S_addCon_6 : decode b_S_addCon 6 = .ok (.aload_n 0, 1) := by decide +kernel
theorem d_S_addCon_7 : decode b_S_addCon 7 = .ok (.getfield 28, 3) := by decide +kernel
theorem d_S_addCon_10 : decode b_S_addCon 10 = .ok (.iload 5, 2) := by decide +kernel
theorem d_S_addCon_12 : decode b_S_addCon 12 = .ok (.iload_n 1, 1) := by decide +kernel
theorem d_S_addCon_13 : decode b_S_addCon 13 = .ok (.iastore, 1) := by decide +kernel
theorem d_S_addCon_14 : decode b_S_addCon 14 = .ok (.aload_n 0, 1) := by decide +kernel
theorem d_S_addCon_15 : decode b_S_addCon 15 = .ok (.getfield 31, 3) := by decide +kernel
theorem d_S_addCon_18 : decode b_S_addCon 18 = .ok (.iload 5, 2) := by decide +kernel
theorem d_S_addCon_20 : decode b_S_addCon 20 = .ok (.iload_n 2, 1) := by decide +kernel
theorem d_S_addCon_21 : decode b_S_addCon 21 = .ok (.iastore, 1) := by decide +kernel
theorem d_S_addCon_22 : decode b_S_addCon 22 = .ok (.aload_n 0, 1) := by decide +kernel
theorem d_S_addCon_23 : decode b_S_addCon 23 = .ok (.getfield 34, 3) := by decide +kernel
theorem d_S_addCon_26 : decode b_S_addCon 26 = .ok (.iload 5, 2) := by decide +kernel
theorem d_S_addCon_28 : decode b_S_addCon 28 = .ok (.iload_n 3, 1) := by decide +kernel
theorem d_S_addCon_29 : decode b_S_addCon 29 = .ok (.iastore, 1) := by decide +kernel
theorem d_S_addCon_30 : decode b_S_addCon 30 = .ok (.aload_n 0, 1) := by decide +kernel
theorem d_S_addCon_31 : decode b_S_addCon 31 = .ok (.getfield 37, 3) := by decide +kernel
theorem d_S_addCon_34 : decode b_S_addCon 34 = .ok (.iload 5, 2) := by decide +kernel
theorem d_S_addCon_36 : decode b_S_addCon 36 = .ok (.iload 4, 2) := by decide +kernel
theorem d_S_addCon_38 : decode b_S_addCon 38 = .ok (.iastore, 1) := by decide +kernel
theorem d_S_addCon_39 : decode b_S_addCon 39 = .ok (.aload_n 0, 1) := by decide +kernel
theorem d_S_addCon_40 : decode b_S_addCon 40 = .ok (.getfield 24, 3) := by decide +kernel
theorem d_S_addCon_43 : decode b_S_addCon 43 = .ok (.iload_n 1, 1) := by decide +kernel
theorem d_S_addCon_44 : decode b_S_addCon 44 = .ok (.dup2, 1) := by decide +kernel
theorem d_S_addCon_45 : decode b_S_addCon 45 = .ok (.iaload, 1) := by decide +kernel
theorem d_S_addCon_46 : decode b_S_addCon 46 = .ok (.iconst 1, 1) := by decide +kernel
theorem d_S_addCon_47 : decode b_S_addCon 47 = .ok (.iload 5, 2) := by decide +kernel
theorem d_S_addCon_49 : decode b_S_addCon 49 = .ok (.ishl, 1) := by decide +kernel
theorem d_S_addCon_50 : decode b_S_addCon 50 = .ok (.ior, 1) := by decide +kernel
theorem d_S_addCon_51 : decode b_S_addCon 51 = .ok (.iastore, 1) := by decide +kernel
theorem d_S_addCon_52 : decode b_S_addCon 52 = .ok (.aload_n 0, 1) := by decide +kernel
theorem d_S_addCon_53 : decode b_S_addCon 53 = .ok (.dup, 1) := by decide +kernel
theorem d_S_addCon_54 : decode b_S_addCon 54 = .ok (.getfield 15, 3) := by decide +kernel
theorem d_S_addCon_57 : decode b_S_addCon 57 = .ok (.iconst 1, 1) := by decide +kernel
theorem d_S_addCon_58 : decode b_S_addCon 58 = .ok (.iadd, 1) := by decide +kernel
theorem d_S_addCon_59 : decode b_S_addCon 59 = .ok (.putfield 15, 3) := by decide +kernel
theorem d_S_addCon_62 : decode b_S_addCon 62 = .ok (.aload_n 0, 1) := by decide +kernel
theorem d_S_addCon_63 : decode b_S_addCon 63 = .ok (.invokevirtual 40, 3) := by decide +kernel
theorem d_S_addCon_66 : decode b_S_addCon 66 = .ok (.iload 5, 2) := by decide +kernel
theorem d_S_addCon_68 : decode b_S_addCon 68 = .ok (.ireturn, 1) := by decide +kernel
theorem d_L_any_0 : decode b_L_any 0 = .ok (.aload_n 2, 1) := by decide +kernel
theorem d_L_any_1 : decode b_L_any 1 = .ok (.iconst 0, 1) := by decide +kernel
theorem d_L_any_2 : decode b_L_any 2 = .ok (.aload_n 0, 1) := by decide +kernel
theorem d_L_any_3 : decode b_L_any 3 = .ok (.iload_n 1, 1) := by decide +kernel
theorem d_L_any_4 : decode b_L_any 4 = .ok (.invokevirtual 21, 3) := by decide +kernel
theorem d_L_any_7 : decode b_L_any 7 = .ok (.i2l, 1) := by decide +kernel
theorem d_L_any_8 : decode b_L_any 8 = .ok (.lastore, 1) := by decide +kernel
theorem d_L_any_9 : decode b_L_any 9 = .ok (.goto 9, 3) := by decide +kernel
theorem d_L_any_12 : decode b_L_any 12 = .ok (.astore_n 3, 1) := by decide +kernel
theorem d_L_any_13 : decode b_L_any 13 = .ok (.iconst 1, 1) := by decide +kernel
theorem d_L_any_14 : decode b_L_any 14 = .ok (.ireturn, 1) := by decide +kernel
theorem d_L_any_15 : decode b_L_any 15 = .ok (.astore_n 3, 1) := by decide +kernel
theorem d_L_any_16 : decode b_L_any 16 = .ok (.iconst 2, 1) := by decide +kernel
theorem d_L_any_17 : decode b_L_any 17 = .ok (.ireturn, 1) := by decide +kernel
theorem d_L_any_18 : decode b_L_any 18 = .ok (.iconst 0, 1) := by decide +kernel
theorem d_L_any_19 : decode b_L_any 19 = .ok (.ireturn, 1) := by decide +kernel
theorem d_C_any_0 : decode b_C_any 0 = .ok (.aload_n 0, 1) := by decide +kernel
theorem d_C_any_1 : decode b_C_any 1 = .ok (.iload_n 1, 1) := by decide +kernel
theorem d_C_any_2 : decode b_C_any 2 = .ok (.invokevirtual 50, 3) := by decide +kernel
theorem d_C_any_5 : decode b_C_any 5 = .ok (.aload_n 0, 1) := by decide +kernel
theorem d_C_any_6 : decode b_C_any 6 = .ok (.iconst 0, 1) := by decide +kernel
theorem d_C_any_7 : decode b_C_any 7 = .ok (.invokevirtual 70, 3) := by decide +kernel
theorem d_C_any_10 : decode b_C_any 10 = .ok (.aload_n 0, 1) := by decide +kernel
theorem d_C_any_11 : decode b_C_any 11 = .ok (.getfield 19, 3) := by decide +kernel
theorem d_C_any_14 : decode b_C_any 14 = .ok (.iload_n 1, 1) := by decide +kernel
theorem d_C_any_15 : decode b_C_any 15 = .ok (.invokevirtual 73, 3) := by decide +kernel
theorem d_C_any_18 : decode b_C_any 18 = .ok (.ireturn, 1) := by decide +kernel
theorem d_C_needRoomForPattern_0 : decode b_C_needRoomForPattern 0 = .ok (.aload_n 0, 1) := by decide +kernel
theorem d_C_needRoomForPattern_1 : decode b_C_needRoomForPattern 1 = .ok (.getfield 19, 3) := by decide +kernel
theorem d_C_needRoomForPattern_4 : decode b_C_needRoomForPattern 4 = .ok (.getfield 148, 3) := by decide +kernel
theorem d_C_needRoomForPattern_7 : decode b_C_needRoomForPattern 7 = .ok (.sipush 200, 3) := by decide +kernel
theorem d_C_needRoomForPattern_10 : decode b_C_needRoomForPattern 10 = .ok (.if_icmp .lt 13, 3) := by decide +kernel
theorem d_C_needRoomForPattern_13 : decode b_C_needRoomForPattern 13 = .ok (.new 39, 3) := by decide +kernel
theorem d_C_needRoomForPattern_16 : decode b_C_needRoomForPattern 16 = .ok (.dup, 1) := by decide +kernel
theorem d_C_needRoomForPattern_17 : decode b_C_needRoomForPattern 17 = .ok (.ldc 179, 2) := by decide +kernel
theorem d_C_needRoomForPattern_19 : decode b_C_needRoomForPattern 19 = .ok (.invokespecial 43, 3) := by decide +kernel
theorem d_C_needRoomForPattern_22 : decode b_C_needRoomForPattern 22 = .ok (.athrow, 1) := by decide +kernel
theorem d_C_needRoomForPattern_23 : decode b_C_needRoomForPattern 23 = .ok (.iload_n 1, 1) := by decide +kernel
theorem d_C_needRoomForPattern_24 : decode b_C_needRoomForPattern 24 = .ok (.bipush 12, 2) := by decide +kernel
theorem d_C_needRoomForPattern_26 : decode b_C_needRoomForPattern 26 = .ok (.if_icmp .le 13, 3) := by decide +kernel
theorem d_C_needRoomForPattern_29 : decode b_C_needRoomForPattern 29 = .ok (.new 39, 3) := by decide +kernel
theorem d_C_needRoomForPattern_32 : decode b_C_needRoomForPattern 32 = .ok (.dup, 1) := by decide +kernel
theorem d_C_needRoomForPattern_33 : decode b_C_needRoomForPattern 33 = .ok (.ldc 181, 2) := by decide +kernel
theorem d_C_needRoomForPattern_35 : decode b_C_needRoomForPattern 35 = .ok (.invokespecial 43, 3) := by decide +kernel
theorem d_C_needRoomForPattern_38 : decode b_C_needRoomForPattern 38 = .ok (.athrow, 1) := by decide +kernel
theorem d_C_needRoomForPattern_39 : decode b_C_needRoomForPattern 39 = .ok (.return_, 1) := by decide +kernel
theorem d_P_addAny_0 : decode b_P_addAny 0 = .ok (.aload_n 0, 1) := by decide +kernel
theorem d_P_addAny_1 : decode b_P_addAny 1 = .ok (.iconst 0, 1) := by decide +kernel
theorem d_P_addAny_2 : decode b_P_addAny 2 = .ok (.iload_n 1, 1) := by decide +kernel
theorem d_P_addAny_3 : decode b_P_addAny 3 = .ok (.iconst 0, 1) := by decide +kernel
theorem d_P_addAny_4 : decode b_P_addAny 4 = .ok (.iconst 0, 1) := by decide +kernel
theorem d_P_addAny_5 : decode b_P_addAny 5 = .ok (.invokevirtual 34, 3) := by decide +kernel
theorem d_P_addAny_8 : decode b_P_addAny 8 = .ok (.ireturn, 1) := by decide +kernel
theorem d_P_addPattern_0 : decode b_P_addPattern 0 = .ok (.aload_n 0, 1) := by decide +kernel
theorem d_P_addPattern_1 : decode b_P_addPattern 1 = .ok (.getfield 9, 3) := by decide +kernel
theorem d_P_addPattern_4 : decode b_P_addPattern 4 = .ok (.istore 5, 2) := by decide +kernel
theorem d_P_addPattern_6 : decode b_P_addPattern 6 = .ok (.aload_n 0, 1) := by decide +kernel
theorem d_P_addPattern_7 : decode b_P_addPattern 7 = .ok (.getfield 15, 3) := by decide +kernel
theorem d_P_addPattern_10 : decode b_P_addPattern 10 = .ok (.iload 5, 2) := by decide +kernel
theorem d_P_addPattern_12 : decode b_P_addPattern 12 = .ok (.iload_n 1, 1) := by decide +kernel
theorem d_P_addPattern_13 : decode b_P_addPattern 13 = .ok (.iastore, 1) := by decide +kernel
theorem d_P_addPattern_14 : decode b_P_addPattern 14 = .ok (.aload_n 0, 1) := by decide +kernel
theorem d_P_addPattern_15 : decode b_P_addPattern 15 = .ok (.getfield 19, 3) := by decide +kernel
theorem d_P_addPattern_18 : decode b_P_addPattern 18 = .ok (.iload 5, 2) := by decide +kernel
theorem d_P_addPattern_20 : decode b_P_addPattern 20 = .ok (.iload_n 2, 1) := by decide +kernel
theorem d_P_addPattern_21 : decode b_P_addPattern 21 = .ok (.iastore, 1) := by decide +kernel
theorem d_P_addPattern_22 : decode b_P_addPattern 22 = .ok (.aload_n 0, 1) := by decide +kernel
theorem d_P_addPattern_23 : decode b_P_addPattern 23 = .ok (.getfield 22, 3) := by decide +kernel
theorem d_P_addPattern_26 : decode b_P_addPattern 26 = .ok (.iload 5, 2) := by decide +kernel
theorem d_P_addPattern_28 : decode b_P_addPattern 28 = .ok (.iload_n 3, 1) := by decide +kernel
theorem d_P_addPattern_29 : decode b_P_addPattern 29 = .ok (.iastore, 1) := by decide +kernel
theorem d_P_addPattern_30 : decode b_P_addPattern 30 = .ok (.aload_n 0, 1) := by decide +kernel
theorem d_P_addPattern_31 : decode b_P_addPattern 31 = .ok (.getfield 31, 3) := by decide +kernel
theorem d_P_addPattern_34 : decode b_P_addPattern 34 = .ok (.iload 5, 2) := by decide +kernel
theorem d_P_addPattern_36 : decode b_P_addPattern 36 = .ok (.iload 4, 2) := by decide +kernel
theorem d_P_addPattern_38 : decode b_P_addPattern 38 = .ok (.iastore, 1) := by decide +kernel
theorem d_P_addPattern_39 : decode b_P_addPattern 39 = .ok (.aload_n 0, 1) := by decide +kernel
theorem d_P_addPattern_40 : decode b_P_addPattern 40 = .ok (.dup, 1) := by decide +kernel
theorem d_P_addPattern_41 : decode b_P_addPattern 41 = .ok (.getfield 9, 3) := by decide +kernel
theorem d_P_addPattern_44 : decode b_P_addPattern 44 = .ok (.iconst 1, 1) := by decide +kernel
theorem d_P_addPattern_45 : decode b_P_addPattern 45 = .ok (.iadd, 1) := by decide +kernel
theorem d_P_addPattern_46 : decode b_P_addPattern 46 = .ok (.putfield 9, 3) := by decide +kernel
theorem d_P_addPattern_49 : decode b_P_addPattern 49 = .ok (.iload 5, 2) := by decide +kernel
theorem d_P_addPattern_51 : decode b_P_addPattern 51 = .ok (.ireturn, 1) := by decide +kernel
theorem d_L_number_0 : decode b_L_number 0 = .ok (.aload_n 2, 1) := by decide +kernel
theorem d_L_number_1 : decode b_L_number 1 = .ok (.iconst 0, 1) := by decide +kernel
theorem d_L_number_2 : decode b_L_number 2 = .ok (.aload_n 0, 1) := by decide +kernel
theorem d_L_number_3 : decode b_L_number 3 = .ok (.iload_n 1, 1) := by decide +kernel
theorem d_L_number_4 : decode b_L_number 4 = .ok (.invokevirtual 25, 3) := by decide +kernel
theorem d_L_number_7 : decode b_L_number 7 = .ok (.i2l, 1) := by decide +kernel
theorem d_L_number_8 : decode b_L_number 8 = .ok (.lastore, 1) := by decide +kernel
theorem d_L_number_9 : decode b_L_number 9 = .ok (.goto 6, 3) := by decide +kernel
theorem d_L_number_12 : decode b_L_number 12 = .ok (.astore_n 3, 1) := by decide +kernel
theorem d_L_number_13 : decode b_L_number 13 = .ok (.iconst 1, 1) := by decide +kernel
theorem d_L_number_14 : decode b_L_number 14 = .ok (.ireturn, 1) := by decide +kernel
theorem d_L_number_15 : decode b_L_number 15 = .ok (.iconst 0, 1) := by decide +kernel
theorem d_L_number_16 : decode b_L_number 16 = .ok (.ireturn, 1) := by decide +kernel
theorem d_C_number_0 : decode b_C_number 0 = .ok (.aload_n 0, 1) := by decide +kernel
theorem d_C_number_1 : decode b_C_number 1 = .ok (.iconst 1, 1) := by decide +kernel
theorem d_C_number_2 : decode b_C_number 2 = .ok (.invokevirtual 70, 3) := by decide +kernel
theorem d_C_number_5 : decode b_C_number 5 = .ok (.aload_n 0, 1) := by decide +kernel
theorem d_C_number_6 : decode b_C_number 6 = .ok (.getfield 19, 3) := by decide +kernel
theorem d_C_number_9 : decode b_C_number 9 = .ok (.iload_n 1, 1) := by decide +kernel
theorem d_C_number_10 : decode b_C_number 10 = .ok (.invokevirtual 77, 3) := by decide +kernel
theorem d_C_number_13 : decode b_C_number 13 = .ok (.ireturn, 1) := by decide +kernel
theorem d_P_addNumber_0 : decode b_P_addNumber 0 = .ok (.aload_n 0, 1) := by decide +kernel
theorem d_P_addNumber_1 : decode b_P_addNumber 1 = .ok (.iconst 1, 1) := by decide +kernel
theorem d_P_addNumber_2 : decode b_P_addNumber 2 = .ok (.iconst 0, 1) := by decide +kernel
theorem d_P_addNumber_3 : decode b_P_addNumber 3 = .ok (.iload_n 1, 1) := by decide +kernel
theorem d_P_addNumber_4 : decode b_P_addNumber 4 = .ok (.iconst 1, 1) := by decide +kernel
theorem d_P_addNumber_5 : decode b_P_addNumber 5 = .ok (.invokevirtual 34, 3) := by decide +kernel
theorem d_P_addNumber_8 : decode b_P_addNumber 8 = .ok (.ireturn, 1) := by decide +kernel
theorem d_L_made_0 : decode b_L_made 0 = .ok (.aload 4, 2) := by decide +kernel
theorem d_L_made_2 : decode b_L_made 2 = .ok (.iconst 0, 1) := by decide +kernel
theorem d_L_made_3 : decode b_L_made 3 = .ok (.aload_n 0, 1) := by decide +kernel
theorem d_L_made_4 : decode b_L_made 4 = .ok (.iload_n 1, 1) := by decide +kernel
theorem d_L_made_5 : decode b_L_made 5 = .ok (.iload_n 2, 1) := by decide +kernel
theorem d_L_made_6 : decode b_L_made 6 = .ok (.iload_n 3, 1) := by decide +kernel
theorem d_L_made_7 : decode b_L_made 7 = .ok (.invokevirtual 28, 3) := by decide +kernel
theorem d_L_made_10 : decode b_L_made 10 = .ok (.i2l, 1) := by decide +kernel
theorem d_L_made_11 : decode b_L_made 11 = .ok (.lastore, 1) := by decide +kernel
theorem d_L_made_12 : decode b_L_made 12 = .ok (.goto 11, 3) := by decide +kernel
theorem d_L_made_15 : decode b_L_made 15 = .ok (.astore 5, 2) := by decide +kernel
theorem d_L_made_17 : decode b_L_made 17 = .ok (.iconst 1, 1) := by decide +kernel
theorem d_L_made_18 : decode b_L_made 18 = .ok (.ireturn, 1) := by decide +kernel
theorem d_L_made_19 : decode b_L_made 19 = .ok (.astore 5, 2) := by decide +kernel
theorem d_L_made_21 : decode b_L_made 21 = .ok (.iconst 2, 1) := by decide +kernel
theorem d_L_made_22 : decode b_L_made 22 = .ok (.ireturn, 1) := by decide +kernel
theorem d_L_made_23 : decode b_L_made 23 = .ok (.iconst 0, 1) := by decide +kernel
theorem d_L_made_24 : decode b_L_made 24 = .ok (.ireturn, 1) := by decide +kernel
theorem d_C_made_0 : decode b_C_made 0 = .ok (.aload_n 0, 1) := by decide +kernel
theorem d_C_made_1 : decode b_C_made 1 = .ok (.getfield 10, 3) := by decide +kernel
theorem d_C_made_4 : decode b_C_made 4 = .ok (.iload_n 1, 1) := by decide +kernel
theorem d_C_made_5 : decode b_C_made 5 = .ok (.invokevirtual 80, 3) := by decide +kernel
theorem d_C_made_8 : decode b_C_made 8 = .ok (.ifCond .ne 13, 3) := by decide +kernel
theorem d_C_made_11 : decode b_C_made 11 = .ok (.new 54, 3) := by decide +kernel
theorem d_C_made_14 : decode b_C_made 14 = .ok (.dup, 1) := by decide +kernel
theorem d_C_made_15 : decode b_C_made 15 = .ok (.ldc 84, 2) := by decide +kernel
theorem d_C_made_17 : decode b_C_made 17 = .ok (.invokespecial 58, 3) := by decide +kernel
theorem d_C_made_20 : decode b_C_made 20 = .ok (.athrow, 1) := by decide +kernel
theorem d_C_made_21 : decode b_C_made 21 = .ok (.aload_n 0, 1) := by decide +kernel
theorem d_C_made_22 : decode b_C_made 22 = .ok (.getfield 10, 3) := by decide +kernel
theorem d_C_made_25 : decode b_C_made 25 = .ok (.getfield 86, 3) := by decide +kernel
theorem d_C_made_28 : decode b_C_made 28 = .ok (.iload_n 1, 1) := by decide +kernel
theorem d_C_made_29 : decode b_C_made 29 = .ok (.iaload, 1) := by decide +kernel
theorem d_C_made_30 : decode b_C_made 30 = .ok (.istore 4, 2) := by decide +kernel
theorem d_C_made_32 : decode b_C_made 32 = .ok (.iconst 1, 1) := by decide +kernel
theorem d_C_made_33 : decode b_C_made 33 = .ok (.istore 5, 2) := by decide +kernel
theorem d_C_made_35 : decode b_C_made 35 = .ok (.iload 4, 2) := by decide +kernel
theorem d_C_made_37 : decode b_C_made 37 = .ok (.ifCond .le 31, 3) := by decide +kernel
theorem d_C_made_40 : decode b_C_made 40 = .ok (.aload_n 0, 1) := by decide +kernel
theorem d_C_made_41 : decode b_C_made 41 = .ok (.iload_n 2, 1) := by decide +kernel
theorem d_C_made_42 : decode b_C_made 42 = .ok (.aload_n 0, 1) := by decide +kernel
theorem d_C_made_43 : decode b_C_made 43 = .ok (.getfield 10, 3) := by decide +kernel
theorem d_C_made_46 : decode b_C_made 46 = .ok (.iload_n 1, 1) := by decide +kernel
theorem d_C_made_47 : decode b_C_made 47 = .ok (.iconst 0, 1) := by decide +kernel
theorem d_C_made_48 : decode b_C_made 48 = .ok (.invokevirtual 90, 3) := by decide +kernel
theorem d_C_made_51 : decode b_C_made 51 = .ok (.invokevirtual 94, 3) := by decide +kernel
theorem d_C_made_54 : decode b_C_made 54 = .ok (.iload 5, 2) := by decide +kernel
theorem d_C_made_56 : decode b_C_made 56 = .ok (.aload_n 0, 1) := by decide +kernel
theorem d_C_made_57 : decode b_C_made 57 = .ok (.getfield 19, 3) := by decide +kernel
theorem d_C_made_60 : decode b_C_made 60 = .ok (.getfield 98, 3) := by decide +kernel
theorem d_C_made_63 : decode b_C_made 63 = .ok (.iload_n 2, 1) := by decide +kernel
theorem d_C_made_64 : decode b_C_made 64 = .ok (.iaload, 1) := by decide +kernel
theorem d_C_made_65 : decode b_C_made 65 = .ok (.iadd, 1) := by decide +kernel
theorem d_C_made_66 : decode b_C_made 66 = .ok (.istore 5, 2) := by decide +kernel
theorem d_C_made_68 : decode b_C_made 68 = .ok (.iload 4, 2) := by decide +kernel
theorem d_C_made_70 : decode b_C_made 70 = .ok (.iconst 1, 1) := by decide +kernel
theorem d_C_made_71 : decode b_C_made 71 = .ok (.if_icmp .le 31, 3) := by decide +kernel
theorem d_C_made_74 : decode b_C_made 74 = .ok (.aload_n 0, 1) := by decide +kernel
theorem d_C_made_75 : decode b_C_made 75 = .ok (.iload_n 3, 1) := by decide +kernel
theorem d_C_made_76 : decode b_C_made 76 = .ok (.aload_n 0, 1) := by decide +kernel
theorem d_C_made_77 : decode b_C_made 77 = .ok (.getfield 10, 3) := by decide +kernel
theorem d_C_made_80 : decode b_C_made 80 = .ok (.iload_n 1, 1) := by decide +kernel
theorem d_C_made_81 : decode b_C_made 81 = .ok (.iconst 1, 1) := by decide +kernel
theorem d_C_made_82 : decode b_C_made 82 = .ok (.invokevirtual 90, 3) := by decide +kernel
theorem d_C_made_85 : decode b_C_made 85 = .ok (.invokevirtual 94, 3) := by decide +kernel
theorem d_C_made_88 : decode b_C_made 88 = .ok (.iload 5, 2) := by decide +kernel
theorem d_C_made_90 : decode b_C_made 90 = .ok (.aload_n 0, 1) := by decide +kernel
theorem d_C_made_91 : decode b_C_made 91 = .ok (.getfield 19, 3) := by decide +kernel
theorem d_C_made_94 : decode b_C_made 94 = .ok (.getfield 98, 3) := by decide +kernel
theorem d_C_made_97 : decode b_C_made 97 = .ok (.iload_n 3, 1) := by decide +kernel
theorem d_C_made_98 : decode b_C_made 98 = .ok (.iaload, 1) := by decide +kernel
theorem d_C_made_99 : decode b_C_made 99 = .ok (.iadd, 1) := by decide +kernel
theorem d_C_made_100 : decode b_C_made 100 = .ok (.istore 5, 2) := by decide +kernel
theorem d_C_made_102 : decode b_C_made 102 = .ok (.aload_n 0, 1) := by decide +kernel
theorem d_C_made_103 : decode b_C_made 103 = .ok (.iload 5, 2) := by decide +kernel
theorem d_C_made_105 : decode b_C_made 105 = .ok (.invokevirtual 70, 3) := by decide +kernel
theorem d_C_made_108 : decode b_C_made 108 = .ok (.aload_n 0, 1) := by decide +kernel
theorem d_C_made_109 : decode b_C_made 109 = .ok (.getfield 19, 3) := by decide +kernel
theorem d_C_made_112 : decode b_C_made 112 = .ok (.aload_n 0, 1) := by decide +kernel
theorem d_C_made_113 : decode b_C_made 113 = .ok (.getfield 10, 3) := by decide +kernel
theorem d_C_made_116 : decode b_C_made 116 = .ok (.getfield 101, 3) := by decide +kernel
theorem d_C_made_119 : decode b_C_made 119 = .ok (.iload_n 1, 1) := by decide +kernel
theorem d_C_made_120 : decode b_C_made 120 = .ok (.iaload, 1) := by decide +kernel
theorem d_C_made_121 : decode b_C_made 121 = .ok (.iload_n 1, 1) := by decide +kernel
theorem d_C_made_122 : decode b_C_made 122 = .ok (.iload_n 2, 1) := by decide +kernel
theorem d_C_made_123 : decode b_C_made 123 = .ok (.iload_n 3, 1) := by decide +kernel
theorem d_C_made_124 : decode b_C_made 124 = .ok (.iload 5, 2) := by decide +kernel
theorem d_C_made_126 : decode b_C_made 126 = .ok (.invokevirtual 104, 3) := by decide +kernel
theorem d_C_made_129 : decode b_C_made 129 = .ok (.ireturn, 1) := by decide +kernel
theorem d_S_hasCon_0 : decode b_S_hasCon 0 = .ok (.iload_n 1, 1) := by decide +kernel
theorem d_S_hasCon_1 : decode b_S_hasCon 1 = .ok (.ifCond .lt 15, 3) := by decide +kernel
theorem d_S_hasCon_4 : decode b_S_hasCon 4 = .ok (.iload_n 1, 1) := by decide +kernel
theorem d_S_hasCon_5 : decode b_S_hasCon 5 = .ok (.aload_n 0, 1) := by decide +kernel
theorem d_S_hasCon_6 : decode b_S_hasCon 6 = .ok (.getfield 15, 3) := by decide +kernel
theorem d_S_hasCon_9 : decode b_S_hasCon 9 = .ok (.if_icmp .ge 7, 3) := by decide +kernel
theorem d_S_hasCon_12 : decode b_S_hasCon 12 = .ok (.iconst 1, 1) := by decide +kernel
theorem d_S_hasCon_13 : decode b_S_hasCon 13 = .ok (.goto 4, 3) := by decide +kernel
theorem d_S_hasCon_16 : decode b_S_hasCon 16 = .ok (.iconst 0, 1) := by decide +kernel
theorem d_S_hasCon_17 : decode b_S_hasCon 17 = .ok (.ireturn, 1) := by decide +kernel
theorem d_C_needPatternOf_0 : decode b_C_needPatternOf 0 = .ok (.aload_n 0, 1) := by decide +kernel
theorem d_C_needPatternOf_1 : decode b_C_needPatternOf 1 = .ok (.iload_n 1, 1) := by decide +kernel
theorem d_C_needPatternOf_2 : decode b_C_needPatternOf 2 = .ok (.invokevirtual 172, 3) := by decide +kernel
end
section
theorem d_C_needPatternOf_5 : decode b_C_needPatternOf 5 = .ok (.aload_n 0, 1) := by decide +kernel
theorem d_C_needPatternOf_6 : decode b_C_needPatternOf 6 = .ok (.getfield 19, 3) := by decide +kernel
theorem d_C_needPatternOf_9 : decode b_C_needPatternOf 9 = .ok (.getfield 175, 3) := by decide +kernel
theorem d_C_needPatternOf_12 : decode b_C_needPatternOf 12 = .ok (.iload_n 1, 1) := by decide +kernel
theorem d_C_needPatternOf_13 : decode b_C_needPatternOf 13 = .ok (.iaload, 1) := by decide +kernel
theorem d_C_needPatternOf_14 : decode b_C_needPatternOf 14 = .ok (.iload_n 2, 1) := by decide +kernel
theorem d_C_needPatternOf_15 : decode b_C_needPatternOf 15 = .ok (.if_icmp .eq 13, 3) := by decide +kernel
theorem d_C_needPatternOf_18 : decode b_C_needPatternOf 18 = .ok (.new 54, 3) := by decide +kernel
theorem d_C_needPatternOf_21 : decode b_C_needPatternOf 21 = .ok (.dup, 1) := by decide +kernel
theorem d_C_needPatternOf_22 : decode b_C_needPatternOf 22 = .ok (.ldc 177, 2) := by decide +kernel
theorem d_C_needPatternOf_24 : decode b_C_needPatternOf 24 = .ok (.invokespecial 58, 3) := by decide +kernel
theorem d_C_needPatternOf_27 : decode b_C_needPatternOf 27 = .ok (.athrow, 1) := by decide +kernel
theorem d_C_needPatternOf_28 : decode b_C_needPatternOf 28 = .ok (.return_, 1) := by decide +kernel
theorem d_C_needPattern_0 : decode b_C_needPattern 0 = .ok (.aload_n 0, 1) := by decide +kernel
theorem d_C_needPattern_1 : decode b_C_needPattern 1 = .ok (.getfield 19, 3) := by decide +kernel
theorem d_C_needPattern_4 : decode b_C_needPattern 4 = .ok (.iload_n 1, 1) := by decide +kernel
theorem d_C_needPattern_5 : decode b_C_needPattern 5 = .ok (.invokevirtual 167, 3) := by decide +kernel
theorem d_C_needPattern_8 : decode b_C_needPattern 8 = .ok (.ifCond .ne 13, 3) := by decide +kernel
theorem d_C_needPattern_11 : decode b_C_needPattern 11 = .ok (.new 54, 3) := by decide +kernel
theorem d_C_needPattern_14 : decode b_C_needPattern 14 = .ok (.dup, 1) := by decide +kernel
theorem d_C_needPattern_15 : decode b_C_needPattern 15 = .ok (.ldc 170, 2) := by decide +kernel
theorem d_C_needPattern_17 : decode b_C_needPattern 17 = .ok (.invokespecial 58, 3) := by decide +kernel
theorem d_C_needPattern_20 : decode b_C_needPattern 20 = .ok (.athrow, 1) := by decide +kernel
theorem d_C_needPattern_21 : decode b_C_needPattern 21 = .ok (.return_, 1) := by decide +kernel
theorem d_P_hasPattern_0 : decode b_P_hasPattern 0 = .ok (.iload_n 1, 1) := by decide +kernel
theorem d_P_hasPattern_1 : decode b_P_hasPattern 1 = .ok (.ifCond .lt 15, 3) := by decide +kernel
theorem d_P_hasPattern_4 : decode b_P_hasPattern 4 = .ok (.iload_n 1, 1) := by decide +kernel
theorem d_P_hasPattern_5 : decode b_P_hasPattern 5 = .ok (.aload_n 0, 1) := by decide +kernel
theorem d_P_hasPattern_6 : decode b_P_hasPattern 6 = .ok (.getfield 9, 3) := by decide +kernel
theorem d_P_hasPattern_9 : decode b_P_hasPattern 9 = .ok (.if_icmp .ge 7, 3) := by decide +kernel
theorem d_P_hasPattern_12 : decode b_P_hasPattern 12 = .ok (.iconst 1, 1) := by decide +kernel
theorem d_P_hasPattern_13 : decode b_P_hasPattern 13 = .ok (.goto 4, 3) := by decide +kernel
theorem d_P_hasPattern_16 : decode b_P_hasPattern 16 = .ok (.iconst 0, 1) := by decide +kernel
theorem d_P_hasPattern_17 : decode b_P_hasPattern 17 = .ok (.ireturn, 1) := by decide +kernel
theorem d_P_addMade_0 : decode b_P_addMade 0 = .ok (.aload_n 0, 1) := by decide +kernel
theorem d_P_addMade_1 : decode b_P_addMade 1 = .ok (.iconst 2, 1) := by decide +kernel
theorem d_P_addMade_2 : decode b_P_addMade 2 = .ok (.iload_n 1, 1) := by decide +kernel
theorem d_P_addMade_3 : decode b_P_addMade 3 = .ok (.iload_n 2, 1) := by decide +kernel
theorem d_P_addMade_4 : decode b_P_addMade 4 = .ok (.iload 5, 2) := by decide +kernel
theorem d_P_addMade_6 : decode b_P_addMade 6 = .ok (.invokevirtual 34, 3) := by decide +kernel
theorem d_P_addMade_9 : decode b_P_addMade 9 = .ok (.istore 6, 2) := by decide +kernel
theorem d_P_addMade_11 : decode b_P_addMade 11 = .ok (.aload_n 0, 1) := by decide +kernel
theorem d_P_addMade_12 : decode b_P_addMade 12 = .ok (.getfield 25, 3) := by decide +kernel
theorem d_P_addMade_15 : decode b_P_addMade 15 = .ok (.iload 6, 2) := by decide +kernel
theorem d_P_addMade_17 : decode b_P_addMade 17 = .ok (.iload_n 3, 1) := by decide +kernel
theorem d_P_addMade_18 : decode b_P_addMade 18 = .ok (.iastore, 1) := by decide +kernel
theorem d_P_addMade_19 : decode b_P_addMade 19 = .ok (.aload_n 0, 1) := by decide +kernel
theorem d_P_addMade_20 : decode b_P_addMade 20 = .ok (.getfield 28, 3) := by decide +kernel
theorem d_P_addMade_23 : decode b_P_addMade 23 = .ok (.iload 6, 2) := by decide +kernel
theorem d_P_addMade_25 : decode b_P_addMade 25 = .ok (.iload 4, 2) := by decide +kernel
theorem d_P_addMade_27 : decode b_P_addMade 27 = .ok (.iastore, 1) := by decide +kernel
theorem d_P_addMade_28 : decode b_P_addMade 28 = .ok (.iload 6, 2) := by decide +kernel
theorem d_P_addMade_30 : decode b_P_addMade 30 = .ok (.ireturn, 1) := by decide +kernel
theorem d_L_begin_0 : decode b_L_begin 0 = .ok (.aload_n 0, 1) := by decide +kernel
theorem d_L_begin_1 : decode b_L_begin 1 = .ok (.iload_n 1, 1) := by decide +kernel
theorem d_L_begin_2 : decode b_L_begin 2 = .ok (.invokevirtual 32, 3) := by decide +kernel
theorem d_L_begin_5 : decode b_L_begin 5 = .ok (.goto 6, 3) := by decide +kernel
theorem d_L_begin_8 : decode b_L_begin 8 = .ok (.astore_n 2, 1) := by decide +kernel
theorem d_L_begin_9 : decode b_L_begin 9 = .ok (.iconst 1, 1) := by decide +kernel
theorem d_L_begin_10 : decode b_L_begin 10 = .ok (.ireturn, 1) := by decide +kernel
theorem d_L_begin_11 : decode b_L_begin 11 = .ok (.iconst 0, 1) := by decide +kernel
theorem d_L_begin_12 : decode b_L_begin 12 = .ok (.ireturn, 1) := by decide +kernel
theorem d_C_begin_0 : decode b_C_begin 0 = .ok (.aload_n 0, 1) := by decide +kernel
theorem d_C_begin_1 : decode b_C_begin 1 = .ok (.iload_n 1, 1) := by decide +kernel
theorem d_C_begin_2 : decode b_C_begin 2 = .ok (.invokevirtual 50, 3) := by decide +kernel
theorem d_C_begin_5 : decode b_C_begin 5 = .ok (.aload_n 0, 1) := by decide +kernel
theorem d_C_begin_6 : decode b_C_begin 6 = .ok (.getfield 28, 3) := by decide +kernel
theorem d_C_begin_9 : decode b_C_begin 9 = .ok (.iload_n 1, 1) := by decide +kernel
theorem d_C_begin_10 : decode b_C_begin 10 = .ok (.invokevirtual 108, 3) := by decide +kernel
theorem d_C_begin_13 : decode b_C_begin 13 = .ok (.return_, 1) := by decide +kernel
theorem d_L_clause_0 : decode b_L_clause 0 = .ok (.aload_n 2, 1) := by decide +kernel
theorem d_L_clause_1 : decode b_L_clause 1 = .ok (.iconst 0, 1) := by decide +kernel
theorem d_L_clause_2 : decode b_L_clause 2 = .ok (.aload_n 0, 1) := by decide +kernel
theorem d_L_clause_3 : decode b_L_clause 3 = .ok (.iload_n 1, 1) := by decide +kernel
theorem d_L_clause_4 : decode b_L_clause 4 = .ok (.invokevirtual 36, 3) := by decide +kernel
theorem d_L_clause_7 : decode b_L_clause 7 = .ok (.ifCond .eq 7, 3) := by decide +kernel
theorem d_L_clause_10 : decode b_L_clause 10 = .ok (.lconst 1, 1) := by decide +kernel
theorem d_L_clause_11 : decode b_L_clause 11 = .ok (.goto 4, 3) := by decide +kernel
theorem d_L_clause_14 : decode b_L_clause 14 = .ok (.lconst 0, 1) := by decide +kernel
theorem d_L_clause_15 : decode b_L_clause 15 = .ok (.lastore, 1) := by decide +kernel
theorem d_L_clause_16 : decode b_L_clause 16 = .ok (.goto 9, 3) := by decide +kernel
theorem d_L_clause_19 : decode b_L_clause 19 = .ok (.astore_n 3, 1) := by decide +kernel
theorem d_L_clause_20 : decode b_L_clause 20 = .ok (.iconst 1, 1) := by decide +kernel
theorem d_L_clause_21 : decode b_L_clause 21 = .ok (.ireturn, 1) := by decide +kernel
theorem d_L_clause_22 : decode b_L_clause 22 = .ok (.astore_n 3, 1) := by decide +kernel
theorem d_L_clause_23 : decode b_L_clause 23 = .ok (.iconst 2, 1) := by decide +kernel
theorem d_L_clause_24 : decode b_L_clause 24 = .ok (.ireturn, 1) := by decide +kernel
theorem d_L_clause_25 : decode b_L_clause 25 = .ok (.iconst 0, 1) := by decide +kernel
theorem d_L_clause_26 : decode b_L_clause 26 = .ok (.ireturn, 1) := by decide +kernel
theorem d_C_clause_0 : decode b_C_clause 0 = .ok (.aload_n 0, 1) := by decide +kernel
theorem d_C_clause_1 : decode b_C_clause 1 = .ok (.iload_n 1, 1) := by decide +kernel
theorem d_C_clause_2 : decode b_C_clause 2 = .ok (.aload_n 0, 1) := by decide +kernel
theorem d_C_clause_3 : decode b_C_clause 3 = .ok (.getfield 28, 3) := by decide +kernel
theorem d_C_clause_6 : decode b_C_clause 6 = .ok (.getfield 111, 3) := by decide +kernel
theorem d_C_clause_9 : decode b_C_clause 9 = .ok (.invokevirtual 94, 3) := by decide +kernel
theorem d_C_clause_12 : decode b_C_clause 12 = .ok (.aload_n 0, 1) := by decide +kernel
theorem d_C_clause_13 : decode b_C_clause 13 = .ok (.getfield 28, 3) := by decide +kernel
theorem d_C_clause_16 : decode b_C_clause 16 = .ok (.getfield 114, 3) := by decide +kernel
theorem d_C_clause_19 : decode b_C_clause 19 = .ok (.bipush 8, 2) := by decide +kernel
theorem d_C_clause_21 : decode b_C_clause 21 = .ok (.if_icmp .lt 13, 3) := by decide +kernel
theorem d_C_clause_24 : decode b_C_clause 24 = .ok (.new 39, 3) := by decide +kernel
theorem d_C_clause_27 : decode b_C_clause 27 = .ok (.dup, 1) := by decide +kernel
theorem d_C_clause_28 : decode b_C_clause 28 = .ok (.ldc 117, 2) := by decide +kernel
theorem d_C_clause_30 : decode b_C_clause 30 = .ok (.invokespecial 43, 3) := by decide +kernel
theorem d_C_clause_33 : decode b_C_clause 33 = .ok (.athrow, 1) := by decide +kernel
theorem d_C_clause_34 : decode b_C_clause 34 = .ok (.aload_n 0, 1) := by decide +kernel
theorem d_C_clause_35 : decode b_C_clause 35 = .ok (.getfield 28, 3) := by decide +kernel
theorem d_C_clause_38 : decode b_C_clause 38 = .ok (.getfield 119, 3) := by decide +kernel
theorem d_C_clause_41 : decode b_C_clause 41 = .ok (.aload_n 0, 1) := by decide +kernel
theorem d_C_clause_42 : decode b_C_clause 42 = .ok (.getfield 19, 3) := by decide +kernel
theorem d_C_clause_45 : decode b_C_clause 45 = .ok (.getfield 98, 3) := by decide +kernel
theorem d_C_clause_48 : decode b_C_clause 48 = .ok (.iload_n 1, 1) := by decide +kernel
theorem d_C_clause_49 : decode b_C_clause 49 = .ok (.iaload, 1) := by decide +kernel
theorem d_C_clause_50 : decode b_C_clause 50 = .ok (.iadd, 1) := by decide +kernel
theorem d_C_clause_51 : decode b_C_clause 51 = .ok (.bipush 40, 2) := by decide +kernel
theorem d_C_clause_53 : decode b_C_clause 53 = .ok (.if_icmp .le 13, 3) := by decide +kernel
theorem d_C_clause_56 : decode b_C_clause 56 = .ok (.new 39, 3) := by decide +kernel
theorem d_C_clause_59 : decode b_C_clause 59 = .ok (.dup, 1) := by decide +kernel
theorem d_C_clause_60 : decode b_C_clause 60 = .ok (.ldc 121, 2) := by decide +kernel
theorem d_C_clause_62 : decode b_C_clause 62 = .ok (.invokespecial 43, 3) := by decide +kernel
theorem d_C_clause_65 : decode b_C_clause 65 = .ok (.athrow, 1) := by decide +kernel
theorem d_C_clause_66 : decode b_C_clause 66 = .ok (.aload_n 0, 1) := by decide +kernel
theorem d_C_clause_67 : decode b_C_clause 67 = .ok (.getfield 28, 3) := by decide +kernel
theorem d_C_clause_70 : decode b_C_clause 70 = .ok (.iload_n 1, 1) := by decide +kernel
theorem d_C_clause_71 : decode b_C_clause 71 = .ok (.invokevirtual 123, 3) := by decide +kernel
theorem d_C_clause_74 : decode b_C_clause 74 = .ok (.aload_n 0, 1) := by decide +kernel
theorem d_C_clause_75 : decode b_C_clause 75 = .ok (.getfield 28, 3) := by decide +kernel
theorem d_C_clause_78 : decode b_C_clause 78 = .ok (.aload_n 0, 1) := by decide +kernel
theorem d_C_clause_79 : decode b_C_clause 79 = .ok (.getfield 28, 3) := by decide +kernel
theorem d_C_clause_82 : decode b_C_clause 82 = .ok (.getfield 114, 3) := by decide +kernel
theorem d_C_clause_85 : decode b_C_clause 85 = .ok (.iconst 1, 1) := by decide +kernel
theorem d_C_clause_86 : decode b_C_clause 86 = .ok (.isub, 1) := by decide +kernel
theorem d_C_clause_87 : decode b_C_clause 87 = .ok (.invokevirtual 126, 3) := by decide +kernel
theorem d_C_clause_90 : decode b_C_clause 90 = .ok (.ireturn, 1) := by decide +kernel
theorem d_H_addRow_0 : decode b_H_addRow 0 = .ok (.aload_n 0, 1) := by decide +kernel
theorem d_H_addRow_1 : decode b_H_addRow 1 = .ok (.getfield 19, 3) := by decide +kernel
theorem d_H_addRow_4 : decode b_H_addRow 4 = .ok (.aload_n 0, 1) := by decide +kernel
theorem d_H_addRow_5 : decode b_H_addRow 5 = .ok (.getfield 49, 3) := by decide +kernel
theorem d_H_addRow_8 : decode b_H_addRow 8 = .ok (.lconst 0, 1) := by decide +kernel
theorem d_H_addRow_9 : decode b_H_addRow 9 = .ok (.lastore, 1) := by decide +kernel
theorem d_H_addRow_10 : decode b_H_addRow 10 = .ok (.aload_n 0, 1) := by decide +kernel
theorem d_H_addRow_11 : decode b_H_addRow 11 = .ok (.iload_n 1, 1) := by decide +kernel
theorem d_H_addRow_12 : decode b_H_addRow 12 = .ok (.iconst 0, 1) := by decide +kernel
theorem d_H_addRow_13 : decode b_H_addRow 13 = .ok (.aload_n 0, 1) := by decide +kernel
theorem d_H_addRow_14 : decode b_H_addRow 14 = .ok (.getfield 49, 3) := by decide +kernel
theorem d_H_addRow_17 : decode b_H_addRow 17 = .ok (.iconst 1, 1) := by decide +kernel
theorem d_H_addRow_18 : decode b_H_addRow 18 = .ok (.invokevirtual 58, 3) := by decide +kernel
theorem d_H_addRow_21 : decode b_H_addRow 21 = .ok (.aload_n 0, 1) := by decide +kernel
theorem d_H_addRow_22 : decode b_H_addRow 22 = .ok (.dup, 1) := by decide +kernel
theorem d_H_addRow_23 : decode b_H_addRow 23 = .ok (.getfield 55, 3) := by decide +kernel
theorem d_H_addRow_26 : decode b_H_addRow 26 = .ok (.aload_n 0, 1) := by decide +kernel
theorem d_H_addRow_27 : decode b_H_addRow 27 = .ok (.getfield 15, 3) := by decide +kernel
theorem d_H_addRow_30 : decode b_H_addRow 30 = .ok (.getfield 62, 3) := by decide +kernel
theorem d_H_addRow_33 : decode b_H_addRow 33 = .ok (.iload_n 1, 1) := by decide +kernel
theorem d_H_addRow_34 : decode b_H_addRow 34 = .ok (.iaload, 1) := by decide +kernel
theorem d_H_addRow_35 : decode b_H_addRow 35 = .ok (.iadd, 1) := by decide +kernel
theorem d_H_addRow_36 : decode b_H_addRow 36 = .ok (.putfield 55, 3) := by decide +kernel
theorem d_H_addRow_39 : decode b_H_addRow 39 = .ok (.aload_n 0, 1) := by decide +kernel
theorem d_H_addRow_40 : decode b_H_addRow 40 = .ok (.dup, 1) := by decide +kernel
theorem d_H_addRow_41 : decode b_H_addRow 41 = .ok (.getfield 49, 3) := by decide +kernel
theorem d_H_addRow_44 : decode b_H_addRow 44 = .ok (.iconst 1, 1) := by decide +kernel
theorem d_H_addRow_45 : decode b_H_addRow 45 = .ok (.iadd, 1) := by decide +kernel
theorem d_H_addRow_46 : decode b_H_addRow 46 = .ok (.putfield 49, 3) := by decide +kernel
theorem d_H_addRow_49 : decode b_H_addRow 49 = .ok (.return_, 1) := by decide +kernel
theorem d_H_layPart_0 : decode b_H_layPart 0 = .ok (.aload_n 0, 1) := by decide +kernel
theorem d_H_layPart_1 : decode b_H_layPart 1 = .ok (.getfield 15, 3) := by decide +kernel
theorem d_H_layPart_4 : decode b_H_layPart 4 = .ok (.getfield 66, 3) := by decide +kernel
theorem d_H_layPart_7 : decode b_H_layPart 7 = .ok (.iload_n 1, 1) := by decide +kernel
theorem d_H_layPart_8 : decode b_H_layPart 8 = .ok (.iaload, 1) := by decide +kernel
theorem d_H_layPart_9 : decode b_H_layPart 9 = .ok (.ifCond .eq 10, 3) := by decide +kernel
theorem d_H_layPart_12 : decode b_H_layPart 12 = .ok (.iload 4, 2) := by decide +kernel
theorem d_H_layPart_14 : decode b_H_layPart 14 = .ok (.bipush 12, 2) := by decide +kernel
theorem d_H_layPart_16 : decode b_H_layPart 16 = .ok (.if_icmp .le 4, 3) := by decide +kernel
theorem d_H_layPart_19 : decode b_H_layPart 19 = .ok (.return_, 1) := by decide +kernel
theorem d_H_layPart_20 : decode b_H_layPart 20 = .ok (.aload_n 0, 1) := by decide +kernel
theorem d_H_layPart_21 : decode b_H_layPart 21 = .ok (.getfield 19, 3) := by decide +kernel
theorem d_H_layPart_24 : decode b_H_layPart 24 = .ok (.iload_n 3, 1) := by decide +kernel
theorem d_H_layPart_25 : decode b_H_layPart 25 = .ok (.dup2, 1) := by decide +kernel
theorem d_H_layPart_26 : decode b_H_layPart 26 = .ok (.laload, 1) := by decide +kernel
theorem d_H_layPart_27 : decode b_H_layPart 27 = .ok (.lconst 1, 1) := by decide +kernel
theorem d_H_layPart_28 : decode b_H_layPart 28 = .ok (.iload_n 2, 1) := by decide +kernel
theorem d_H_layPart_29 : decode b_H_layPart 29 = .ok (.lshl, 1) := by decide +kernel
theorem d_H_layPart_30 : decode b_H_layPart 30 = .ok (.lor, 1) := by decide +kernel
theorem d_H_layPart_31 : decode b_H_layPart 31 = .ok (.lastore, 1) := by decide +kernel
theorem d_H_layPart_32 : decode b_H_layPart 32 = .ok (.aload_n 0, 1) := by decide +kernel
theorem d_H_layPart_33 : decode b_H_layPart 33 = .ok (.getfield 25, 3) := by decide +kernel
theorem d_H_layPart_36 : decode b_H_layPart 36 = .ok (.iload_n 3, 1) := by decide +kernel
theorem d_H_layPart_37 : decode b_H_layPart 37 = .ok (.aaload, 1) := by decide +kernel
theorem d_H_layPart_38 : decode b_H_layPart 38 = .ok (.iload_n 2, 1) := by decide +kernel
theorem d_H_layPart_39 : decode b_H_layPart 39 = .ok (.aload_n 0, 1) := by decide +kernel
theorem d_H_layPart_40 : decode b_H_layPart 40 = .ok (.getfield 15, 3) := by decide +kernel
theorem d_H_layPart_43 : decode b_H_layPart 43 = .ok (.getfield 69, 3) := by decide +kernel
theorem d_H_layPart_46 : decode b_H_layPart 46 = .ok (.iload_n 1, 1) := by decide +kernel
theorem d_H_layPart_47 : decode b_H_layPart 47 = .ok (.iaload, 1) := by decide +kernel
theorem d_H_layPart_48 : decode b_H_layPart 48 = .ok (.iastore, 1) := by decide +kernel
theorem d_H_layPart_49 : decode b_H_layPart 49 = .ok (.aload_n 0, 1) := by decide +kernel
theorem d_H_layPart_50 : decode b_H_layPart 50 = .ok (.getfield 15, 3) := by decide +kernel
theorem d_H_layPart_53 : decode b_H_layPart 53 = .ok (.getfield 66, 3) := by decide +kernel
theorem d_H_layPart_56 : decode b_H_layPart 56 = .ok (.iload_n 1, 1) := by decide +kernel
theorem d_H_layPart_57 : decode b_H_layPart 57 = .ok (.iaload, 1) := by decide +kernel
theorem d_H_layPart_58 : decode b_H_layPart 58 = .ok (.iconst 1, 1) := by decide +kernel
theorem d_H_layPart_59 : decode b_H_layPart 59 = .ok (.if_icmp .ne 4, 3) := by decide +kernel
theorem d_H_layPart_62 : decode b_H_layPart 62 = .ok (.return_, 1) := by decide +kernel
theorem d_H_layPart_63 : decode b_H_layPart 63 = .ok (.aload_n 0, 1) := by decide +kernel
theorem d_H_layPart_64 : decode b_H_layPart 64 = .ok (.getfield 15, 3) := by decide +kernel
theorem d_H_layPart_67 : decode b_H_layPart 67 = .ok (.getfield 69, 3) := by decide +kernel
theorem d_H_layPart_70 : decode b_H_layPart 70 = .ok (.iload_n 1, 1) := by decide +kernel
theorem d_H_layPart_71 : decode b_H_layPart 71 = .ok (.iaload, 1) := by decide +kernel
theorem d_H_layPart_72 : decode b_H_layPart 72 = .ok (.istore 5, 2) := by decide +kernel
theorem d_H_layPart_74 : decode b_H_layPart 74 = .ok (.iconst 0, 1) := by decide +kernel
theorem d_H_layPart_75 : decode b_H_layPart 75 = .ok (.istore 6, 2) := by decide +kernel
theorem d_H_layPart_77 : decode b_H_layPart 77 = .ok (.iload 6, 2) := by decide +kernel
theorem d_H_layPart_79 : decode b_H_layPart 79 = .ok (.aload_n 0, 1) := by decide +kernel
theorem d_H_layPart_80 : decode b_H_layPart 80 = .ok (.getfield 9, 3) := by decide +kernel
theorem d_H_layPart_83 : decode b_H_layPart 83 = .ok (.getfield 72, 3) := by decide +kernel
theorem d_H_layPart_86 : decode b_H_layPart 86 = .ok (.iload 5, 2) := by decide +kernel
theorem d_H_layPart_88 : decode b_H_layPart 88 = .ok (.iaload, 1) := by decide +kernel
theorem d_H_layPart_89 : decode b_H_layPart 89 = .ok (.if_icmp .ge 54, 3) := by decide +kernel
theorem d_H_layPart_92 : decode b_H_layPart 92 = .ok (.aload_n 0, 1) := by decide +kernel
theorem d_H_layPart_93 : decode b_H_layPart 93 = .ok (.getfield 15, 3) := by decide +kernel
theorem d_H_layPart_96 : decode b_H_layPart 96 = .ok (.iload_n 1, 1) := by decide +kernel
theorem d_H_layPart_97 : decode b_H_layPart 97 = .ok (.iload 6, 2) := by decide +kernel
theorem d_H_layPart_99 : decode b_H_layPart 99 = .ok (.invokevirtual 77, 3) := by decide +kernel
theorem d_H_layPart_102 : decode b_H_layPart 102 = .ok (.istore 7, 2) := by decide +kernel
theorem d_H_layPart_104 : decode b_H_layPart 104 = .ok (.aload_n 0, 1) := by decide +kernel
theorem d_H_layPart_105 : decode b_H_layPart 105 = .ok (.getfield 15, 3) := by decide +kernel
theorem d_H_layPart_108 : decode b_H_layPart 108 = .ok (.getfield 66, 3) := by decide +kernel
theorem d_H_layPart_111 : decode b_H_layPart 111 = .ok (.iload 7, 2) := by decide +kernel
theorem d_H_layPart_113 : decode b_H_layPart 113 = .ok (.iaload, 1) := by decide +kernel
theorem d_H_layPart_114 : decode b_H_layPart 114 = .ok (.ifCond .eq 23, 3) := by decide +kernel
theorem d_H_layPart_117 : decode b_H_layPart 117 = .ok (.aload_n 0, 1) := by decide +kernel
theorem d_H_layPart_118 : decode b_H_layPart 118 = .ok (.iload 7, 2) := by decide +kernel
theorem d_H_layPart_120 : decode b_H_layPart 120 = .ok (.aload_n 0, 1) := by decide +kernel
theorem d_H_layPart_121 : decode b_H_layPart 121 = .ok (.iload_n 2, 1) := by decide +kernel
theorem d_H_layPart_122 : decode b_H_layPart 122 = .ok (.iload 5, 2) := by decide +kernel
theorem d_H_layPart_124 : decode b_H_layPart 124 = .ok (.iload 6, 2) := by decide +kernel
theorem d_H_layPart_126 : decode b_H_layPart 126 = .ok (.invokevirtual 81, 3) := by decide +kernel
theorem d_H_layPart_129 : decode b_H_layPart 129 = .ok (.iload_n 3, 1) := by decide +kernel
theorem d_H_layPart_130 : decode b_H_layPart 130 = .ok (.iload 4, 2) := by decide +kernel
theorem d_H_layPart_132 : decode b_H_layPart 132 = .ok (.iconst 1, 1) := by decide +kernel
theorem d_H_layPart_133 : decode b_H_layPart 133 = .ok (.iadd, 1) := by decide +kernel
theorem d_H_layPart_134 : decode b_H_layPart 134 = .ok (.invokevirtual 58, 3) := by decide +kernel
theorem d_H_layPart_137 : decode b_H_layPart 137 = .ok (.iinc 6 1, 3) := by decide +kernel
theorem d_H_layPart_140 : decode b_H_layPart 140 = .ok (.goto (-63), 3) := by decide +kernel
theorem d_H_layPart_143 : decode b_H_layPart 143 = .ok (.return_, 1) := by decide +kernel
theorem d_P_partOf_0 : decode b_P_partOf 0 = .ok (.iload_n 2, 1) := by decide +kernel
theorem d_P_partOf_1 : decode b_P_partOf 1 = .ok (.ifCond .ne 12, 3) := by decide +kernel
theorem d_P_partOf_4 : decode b_P_partOf 4 = .ok (.aload_n 0, 1) := by decide +kernel
theorem d_P_partOf_5 : decode b_P_partOf 5 = .ok (.getfield 25, 3) := by decide +kernel
theorem d_P_partOf_8 : decode b_P_partOf 8 = .ok (.iload_n 1, 1) := by decide +kernel
theorem d_P_partOf_9 : decode b_P_partOf 9 = .ok (.iaload, 1) := by decide +kernel
theorem d_P_partOf_10 : decode b_P_partOf 10 = .ok (.goto 9, 3) := by decide +kernel
theorem d_P_partOf_13 : decode b_P_partOf 13 = .ok (.aload_n 0, 1) := by decide +kernel
theorem d_P_partOf_14 : decode b_P_partOf 14 = .ok (.getfield 28, 3) := by decide +kernel
theorem d_P_partOf_17 : decode b_P_partOf 17 = .ok (.iload_n 1, 1) := by decide +kernel
theorem d_P_partOf_18 : decode b_P_partOf 18 = .ok (.iaload, 1) := by decide +kernel
theorem d_P_partOf_19 : decode b_P_partOf 19 = .ok (.ireturn, 1) := by decide +kernel
theorem d_H_placeBelow_0 : decode b_H_placeBelow 0 = .ok (.iconst 1, 1) := by decide +kernel
theorem d_H_placeBelow_1 : decode b_H_placeBelow 1 = .ok (.istore 4, 2) := by decide +kernel
theorem d_H_placeBelow_3 : decode b_H_placeBelow 3 = .ok (.iload 4, 2) := by decide +kernel
theorem d_H_placeBelow_5 : decode b_H_placeBelow 5 = .ok (.aload_n 0, 1) := by decide +kernel
theorem d_H_placeBelow_6 : decode b_H_placeBelow 6 = .ok (.getfield 52, 3) := by decide +kernel
theorem d_H_placeBelow_9 : decode b_H_placeBelow 9 = .ok (.if_icmp .ge 45, 3) := by decide +kernel
theorem d_H_placeBelow_12 : decode b_H_placeBelow 12 = .ok (.aload_n 0, 1) := by decide +kernel
theorem d_H_placeBelow_13 : decode b_H_placeBelow 13 = .ok (.getfield 32, 3) := by decide +kernel
theorem d_H_placeBelow_16 : decode b_H_placeBelow 16 = .ok (.iload 4, 2) := by decide +kernel
theorem d_H_placeBelow_18 : decode b_H_placeBelow 18 = .ok (.iaload, 1) := by decide +kernel
theorem d_H_placeBelow_19 : decode b_H_placeBelow 19 = .ok (.iload_n 1, 1) := by decide +kernel
theorem d_H_placeBelow_20 : decode b_H_placeBelow 20 = .ok (.if_icmp .ne 28, 3) := by decide +kernel
theorem d_H_placeBelow_23 : decode b_H_placeBelow 23 = .ok (.aload_n 0, 1) := by decide +kernel
theorem d_H_placeBelow_24 : decode b_H_placeBelow 24 = .ok (.getfield 35, 3) := by decide +kernel
theorem d_H_placeBelow_27 : decode b_H_placeBelow 27 = .ok (.iload 4, 2) := by decide +kernel
theorem d_H_placeBelow_29 : decode b_H_placeBelow 29 = .ok (.iaload, 1) := by decide +kernel
theorem d_H_placeBelow_30 : decode b_H_placeBelow 30 = .ok (.iload_n 2, 1) := by decide +kernel
theorem d_H_placeBelow_31 : decode b_H_placeBelow 31 = .ok (.if_icmp .ne 17, 3) := by decide +kernel
theorem d_H_placeBelow_34 : decode b_H_placeBelow 34 = .ok (.aload_n 0, 1) := by decide +kernel
theorem d_H_placeBelow_35 : decode b_H_placeBelow 35 = .ok (.getfield 38, 3) := by decide +kernel
theorem d_H_placeBelow_38 : decode b_H_placeBelow 38 = .ok (.iload 4, 2) := by decide +kernel
theorem d_H_placeBelow_40 : decode b_H_placeBelow 40 = .ok (.iaload, 1) := by decide +kernel
theorem d_H_placeBelow_41 : decode b_H_placeBelow 41 = .ok (.iload_n 3, 1) := by decide +kernel
theorem d_H_placeBelow_42 : decode b_H_placeBelow 42 = .ok (.if_icmp .ne 6, 3) := by decide +kernel
theorem d_H_placeBelow_45 : decode b_H_placeBelow 45 = .ok (.iload 4, 2) := by decide +kernel
theorem d_H_placeBelow_47 : decode b_H_placeBelow 47 = .ok (.ireturn, 1) := by decide +kernel
theorem d_H_placeBelow_48 : decode b_H_placeBelow 48 = .ok (.iinc 4 1, 3) := by decide +kernel
theorem d_H_placeBelow_51 : decode b_H_placeBelow 51 = .ok (.goto (-48), 3) := by decide +kernel
theorem d_H_placeBelow_54 : decode b_H_placeBelow 54 = .ok (.aload_n 0, 1) := by decide +kernel
theorem d_H_placeBelow_55 : decode b_H_placeBelow 55 = .ok (.getfield 52, 3) := by decide +kernel
theorem d_H_placeBelow_58 : decode b_H_placeBelow 58 = .ok (.istore 4, 2) := by decide +kernel
theorem d_H_placeBelow_60 : decode b_H_placeBelow 60 = .ok (.aload_n 0, 1) := by decide +kernel
theorem d_H_placeBelow_61 : decode b_H_placeBelow 61 = .ok (.getfield 28, 3) := by decide +kernel
theorem d_H_placeBelow_64 : decode b_H_placeBelow 64 = .ok (.iload 4, 2) := by decide +kernel
theorem d_H_placeBelow_66 : decode b_H_placeBelow 66 = .ok (.aload_n 0, 1) := by decide +kernel
theorem d_H_placeBelow_67 : decode b_H_placeBelow 67 = .ok (.getfield 9, 3) := by decide +kernel
theorem d_H_placeBelow_70 : decode b_H_placeBelow 70 = .ok (.iload_n 2, 1) := by decide +kernel
theorem d_H_placeBelow_71 : decode b_H_placeBelow 71 = .ok (.iload_n 3, 1) := by decide +kernel
theorem d_H_placeBelow_72 : decode b_H_placeBelow 72 = .ok (.invokevirtual 85, 3) := by decide +kernel
theorem d_H_placeBelow_75 : decode b_H_placeBelow 75 = .ok (.iastore, 1) := by decide +kernel
theorem d_H_placeBelow_76 : decode b_H_placeBelow 76 = .ok (.aload_n 0, 1) := by decide +kernel
theorem d_H_placeBelow_77 : decode b_H_placeBelow 77 = .ok (.getfield 32, 3) := by decide +kernel
theorem d_H_placeBelow_80 : decode b_H_placeBelow 80 = .ok (.iload 4, 2) := by decide +kernel
theorem d_H_placeBelow_82 : decode b_H_placeBelow 82 = .ok (.iload_n 1, 1) := by decide +kernel
theorem d_H_placeBelow_83 : decode b_H_placeBelow 83 = .ok (.iastore, 1) := by decide +kernel
theorem d_H_placeBelow_84 : decode b_H_placeBelow 84 = .ok (.aload_n 0, 1) := by decide +kernel
theorem d_H_placeBelow_85 : decode b_H_placeBelow 85 = .ok (.getfield 35, 3) := by decide +kernel
theorem d_H_placeBelow_88 : decode b_H_placeBelow 88 = .ok (.iload 4, 2) := by decide +kernel
theorem d_H_placeBelow_90 : decode b_H_placeBelow 90 = .ok (.iload_n 2, 1) := by decide +kernel
theorem d_H_placeBelow_91 : decode b_H_placeBelow 91 = .ok (.iastore, 1) := by decide +kernel
theorem d_H_placeBelow_92 : decode b_H_placeBelow 92 = .ok (.aload_n 0, 1) := by decide +kernel
theorem d_H_placeBelow_93 : decode b_H_placeBelow 93 = .ok (.getfield 38, 3) := by decide +kernel
theorem d_H_placeBelow_96 : decode b_H_placeBelow 96 = .ok (.iload 4, 2) := by decide +kernel
theorem d_H_placeBelow_98 : decode b_H_placeBelow 98 = .ok (.iload_n 3, 1) := by decide +kernel
theorem d_H_placeBelow_99 : decode b_H_placeBelow 99 = .ok (.iastore, 1) := by decide +kernel
theorem d_H_placeBelow_100 : decode b_H_placeBelow 100 = .ok (.aload_n 0, 1) := by decide +kernel
theorem d_H_placeBelow_101 : decode b_H_placeBelow 101 = .ok (.dup, 1) := by decide +kernel
theorem d_H_placeBelow_102 : decode b_H_placeBelow 102 = .ok (.getfield 52, 3) := by decide +kernel
theorem d_H_placeBelow_105 : decode b_H_placeBelow 105 = .ok (.iconst 1, 1) := by decide +kernel
theorem d_H_placeBelow_106 : decode b_H_placeBelow 106 = .ok (.iadd, 1) := by decide +kernel
theorem d_H_placeBelow_107 : decode b_H_placeBelow 107 = .ok (.putfield 52, 3) := by decide +kernel
theorem d_H_placeBelow_110 : decode b_H_placeBelow 110 = .ok (.iload 4, 2) := by decide +kernel
theorem d_H_placeBelow_112 : decode b_H_placeBelow 112 = .ok (.ireturn, 1) := by decide +kernel
theorem d_L_takes_0 : decode b_L_takes 0 = .ok (.aload_n 2, 1) := by decide +kernel
theorem d_L_takes_1 : decode b_L_takes 1 = .ok (.iconst 0, 1) := by decide +kernel
theorem d_L_takes_2 : decode b_L_takes 2 = .ok (.aload_n 0, 1) := by decide +kernel
theorem d_L_takes_3 : decode b_L_takes 3 = .ok (.iload_n 1, 1) := by decide +kernel
theorem d_L_takes_4 : decode b_L_takes 4 = .ok (.invokevirtual 40, 3) := by decide +kernel
theorem d_L_takes_7 : decode b_L_takes 7 = .ok (.ifCond .eq 7, 3) := by decide +kernel
theorem d_L_takes_10 : decode b_L_takes 10 = .ok (.lconst 1, 1) := by decide +kernel
theorem d_L_takes_11 : decode b_L_takes 11 = .ok (.goto 4, 3) := by decide +kernel
theorem d_L_takes_14 : decode b_L_takes 14 = .ok (.lconst 0, 1) := by decide +kernel
theorem d_L_takes_15 : decode b_L_takes 15 = .ok (.lastore, 1) := by decide +kernel
theorem d_L_takes_16 : decode b_L_takes 16 = .ok (.goto 6, 3) := by decide +kernel
theorem d_L_takes_19 : decode b_L_takes 19 = .ok (.astore_n 3, 1) := by decide +kernel
theorem d_L_takes_20 : decode b_L_takes 20 = .ok (.iconst 1, 1) := by decide +kernel
theorem d_L_takes_21 : decode b_L_takes 21 = .ok (.ireturn, 1) := by decide +kernel
theorem d_L_takes_22 : decode b_L_takes 22 = .ok (.iconst 0, 1) := by decide +kernel
theorem d_L_takes_23 : decode b_L_takes 23 = .ok (.ireturn, 1) := by decide +kernel
theorem d_C_takes_0 : decode b_C_takes 0 = .ok (.iload_n 1, 1) := by decide +kernel
theorem d_C_takes_1 : decode b_C_takes 1 = .ok (.ifCond .lt 14, 3) := by decide +kernel
theorem d_C_takes_4 : decode b_C_takes 4 = .ok (.iload_n 1, 1) := by decide +kernel
theorem d_C_takes_5 : decode b_C_takes 5 = .ok (.aload_n 0, 1) := by decide +kernel
theorem d_C_takes_6 : decode b_C_takes 6 = .ok (.getfield 28, 3) := by decide +kernel
theorem d_C_takes_9 : decode b_C_takes 9 = .ok (.getfield 114, 3) := by decide +kernel
theorem d_C_takes_12 : decode b_C_takes 12 = .ok (.if_icmp .lt 13, 3) := by decide +kernel
theorem d_C_takes_15 : decode b_C_takes 15 = .ok (.new 54, 3) := by decide +kernel
theorem d_C_takes_18 : decode b_C_takes 18 = .ok (.dup, 1) := by decide +kernel
theorem d_C_takes_19 : decode b_C_takes 19 = .ok (.ldc 129, 2) := by decide +kernel
theorem d_C_takes_21 : decode b_C_takes 21 = .ok (.invokespecial 58, 3) := by decide +kernel
theorem d_C_takes_24 : decode b_C_takes 24 = .ok (.athrow, 1) := by decide +kernel
theorem d_C_takes_25 : decode b_C_takes 25 = .ok (.aload_n 0, 1) := by decide +kernel
theorem d_C_takes_26 : decode b_C_takes 26 = .ok (.getfield 28, 3) := by decide +kernel
theorem d_C_takes_29 : decode b_C_takes 29 = .ok (.iload_n 1, 1) := by decide +kernel
theorem d_C_takes_30 : decode b_C_takes 30 = .ok (.invokevirtual 126, 3) := by decide +kernel
theorem d_C_takes_33 : decode b_C_takes 33 = .ok (.ireturn, 1) := by decide +kernel
theorem d_L_covers_0 : decode b_L_covers 0 = .ok (.aload_n 3, 1) := by decide +kernel
theorem d_L_covers_1 : decode b_L_covers 1 = .ok (.iconst 0, 1) := by decide +kernel
theorem d_L_covers_2 : decode b_L_covers 2 = .ok (.aload_n 0, 1) := by decide +kernel
theorem d_L_covers_3 : decode b_L_covers 3 = .ok (.iload_n 1, 1) := by decide +kernel
theorem d_L_covers_4 : decode b_L_covers 4 = .ok (.iload_n 2, 1) := by decide +kernel
theorem d_L_covers_5 : decode b_L_covers 5 = .ok (.invokevirtual 43, 3) := by decide +kernel
theorem d_L_covers_8 : decode b_L_covers 8 = .ok (.ifCond .eq 7, 3) := by decide +kernel
theorem d_L_covers_11 : decode b_L_covers 11 = .ok (.lconst 1, 1) := by decide +kernel
theorem d_L_covers_12 : decode b_L_covers 12 = .ok (.goto 4, 3) := by decide +kernel
theorem d_L_covers_15 : decode b_L_covers 15 = .ok (.lconst 0, 1) := by decide +kernel
theorem d_L_covers_16 : decode b_L_covers 16 = .ok (.lastore, 1) := by decide +kernel
theorem d_L_covers_17 : decode b_L_covers 17 = .ok (.goto 7, 3) := by decide +kernel
theorem d_L_covers_20 : decode b_L_covers 20 = .ok (.astore 4, 2) := by decide +kernel
theorem d_L_covers_22 : decode b_L_covers 22 = .ok (.iconst 1, 1) := by decide +kernel
theorem d_L_covers_23 : decode b_L_covers 23 = .ok (.ireturn, 1) := by decide +kernel
theorem d_L_covers_24 : decode b_L_covers 24 = .ok (.iconst 0, 1) := by decide +kernel
theorem d_L_covers_25 : decode b_L_covers 25 = .ok (.ireturn, 1) := by decide +kernel
theorem d_C_covers_0 : decode b_C_covers 0 = .ok (.aload_n 0, 1) := by decide +kernel
theorem d_C_covers_1 : decode b_C_covers 1 = .ok (.iload_n 1, 1) := by decide +kernel
theorem d_C_covers_2 : decode b_C_covers 2 = .ok (.iload_n 2, 1) := by decide +kernel
theorem d_C_covers_3 : decode b_C_covers 3 = .ok (.invokevirtual 135, 3) := by decide +kernel
theorem d_C_covers_6 : decode b_C_covers 6 = .ok (.aload_n 0, 1) := by decide +kernel
theorem d_C_covers_7 : decode b_C_covers 7 = .ok (.getfield 32, 3) := by decide +kernel
theorem d_C_covers_10 : decode b_C_covers 10 = .ok (.iconst 1, 1) := by decide +kernel
theorem d_C_covers_11 : decode b_C_covers 11 = .ok (.invokevirtual 126, 3) := by decide +kernel
theorem d_C_covers_14 : decode b_C_covers 14 = .ok (.ifCond .ne 7, 3) := by decide +kernel
theorem d_C_covers_17 : decode b_C_covers 17 = .ok (.iconst 1, 1) := by decide +kernel
theorem d_C_covers_18 : decode b_C_covers 18 = .ok (.goto 4, 3) := by decide +kernel
theorem d_C_covers_21 : decode b_C_covers 21 = .ok (.iconst 0, 1) := by decide +kernel
theorem d_C_covers_22 : decode b_C_covers 22 = .ok (.ireturn, 1) := by decide +kernel
theorem d_C_layPair_0 : decode b_C_layPair 0 = .ok (.aload_n 0, 1) := by decide +kernel
theorem d_C_layPair_1 : decode b_C_layPair 1 = .ok (.iload_n 1, 1) := by decide +kernel
theorem d_C_layPair_2 : decode b_C_layPair 2 = .ok (.invokevirtual 172, 3) := by decide +kernel
theorem d_C_layPair_5 : decode b_C_layPair 5 = .ok (.aload_n 0, 1) := by decide +kernel
theorem d_C_layPair_6 : decode b_C_layPair 6 = .ok (.iload_n 2, 1) := by decide +kernel
theorem d_C_layPair_7 : decode b_C_layPair 7 = .ok (.aload_n 0, 1) := by decide +kernel
theorem d_C_layPair_8 : decode b_C_layPair 8 = .ok (.getfield 19, 3) := by decide +kernel
theorem d_C_layPair_11 : decode b_C_layPair 11 = .ok (.getfield 175, 3) := by decide +kernel
theorem d_C_layPair_14 : decode b_C_layPair 14 = .ok (.iload_n 1, 1) := by decide +kernel
theorem d_C_layPair_15 : decode b_C_layPair 15 = .ok (.iaload, 1) := by decide +kernel
theorem d_C_layPair_16 : decode b_C_layPair 16 = .ok (.invokevirtual 94, 3) := by decide +kernel
theorem d_C_layPair_19 : decode b_C_layPair 19 = .ok (.aload_n 0, 1) := by decide +kernel
theorem d_C_layPair_20 : decode b_C_layPair 20 = .ok (.getfield 32, 3) := by decide +kernel
theorem d_C_layPair_23 : decode b_C_layPair 23 = .ok (.aload_n 0, 1) := by decide +kernel
theorem d_C_layPair_24 : decode b_C_layPair 24 = .ok (.getfield 19, 3) := by decide +kernel
theorem d_C_layPair_27 : decode b_C_layPair 27 = .ok (.getfield 175, 3) := by decide +kernel
theorem d_C_layPair_30 : decode b_C_layPair 30 = .ok (.iload_n 1, 1) := by decide +kernel
theorem d_C_layPair_31 : decode b_C_layPair 31 = .ok (.iaload, 1) := by decide +kernel
theorem d_C_layPair_32 : decode b_C_layPair 32 = .ok (.invokevirtual 108, 3) := by decide +kernel
theorem d_C_layPair_35 : decode b_C_layPair 35 = .ok (.aload_n 0, 1) := by decide +kernel
theorem d_C_layPair_36 : decode b_C_layPair 36 = .ok (.getfield 32, 3) := by decide +kernel
theorem d_C_layPair_39 : decode b_C_layPair 39 = .ok (.iload_n 1, 1) := by decide +kernel
theorem d_C_layPair_40 : decode b_C_layPair 40 = .ok (.invokevirtual 123, 3) := by decide +kernel
theorem d_C_layPair_43 : decode b_C_layPair 43 = .ok (.aload_n 0, 1) := by decide +kernel
theorem d_C_layPair_44 : decode b_C_layPair 44 = .ok (.getfield 32, 3) := by decide +kernel
theorem d_C_layPair_47 : decode b_C_layPair 47 = .ok (.iload_n 2, 1) := by decide +kernel
theorem d_C_layPair_48 : decode b_C_layPair 48 = .ok (.invokevirtual 123, 3) := by decide +kernel
theorem d_C_layPair_51 : decode b_C_layPair 51 = .ok (.return_, 1) := by decide +kernel
theorem d_L_meets_0 : decode b_L_meets 0 = .ok (.aload_n 3, 1) := by decide +kernel
theorem d_L_meets_1 : decode b_L_meets 1 = .ok (.iconst 0, 1) := by decide +kernel
theorem d_L_meets_2 : decode b_L_meets 2 = .ok (.aload_n 0, 1) := by decide +kernel
theorem d_L_meets_3 : decode b_L_meets 3 = .ok (.iload_n 1, 1) := by decide +kernel
theorem d_L_meets_4 : decode b_L_meets 4 = .ok (.iload_n 2, 1) := by decide +kernel
theorem d_L_meets_5 : decode b_L_meets 5 = .ok (.invokevirtual 47, 3) := by decide +kernel
theorem d_L_meets_8 : decode b_L_meets 8 = .ok (.ifCond .eq 7, 3) := by decide +kernel
theorem d_L_meets_11 : decode b_L_meets 11 = .ok (.lconst 1, 1) := by decide +kernel
theorem d_L_meets_12 : decode b_L_meets 12 = .ok (.goto 4, 3) := by decide +kernel
theorem d_L_meets_15 : decode b_L_meets 15 = .ok (.lconst 0, 1) := by decide +kernel
theorem d_L_meets_16 : decode b_L_meets 16 = .ok (.lastore, 1) := by decide +kernel
theorem d_L_meets_17 : decode b_L_meets 17 = .ok (.goto 7, 3) := by decide +kernel
theorem d_L_meets_20 : decode b_L_meets 20 = .ok (.astore 4, 2) := by decide +kernel
theorem d_L_meets_22 : decode b_L_meets 22 = .ok (.iconst 1, 1) := by decide +kernel
theorem d_L_meets_23 : decode b_L_meets 23 = .ok (.ireturn, 1) := by decide +kernel
theorem d_L_meets_24 : decode b_L_meets 24 = .ok (.iconst 0, 1) := by decide +kernel
theorem d_L_meets_25 : decode b_L_meets 25 = .ok (.ireturn, 1) := by decide +kernel
theorem d_C_meets_0 : decode b_C_meets 0 = .ok (.aload_n 0, 1) := by decide +kernel
theorem d_C_meets_1 : decode b_C_meets 1 = .ok (.iload_n 1, 1) := by decide +kernel
theorem d_C_meets_2 : decode b_C_meets 2 = .ok (.iload_n 2, 1) := by decide +kernel
theorem d_C_meets_3 : decode b_C_meets 3 = .ok (.invokevirtual 135, 3) := by decide +kernel
theorem d_C_meets_6 : decode b_C_meets 6 = .ok (.aload_n 0, 1) := by decide +kernel
theorem d_C_meets_7 : decode b_C_meets 7 = .ok (.getfield 32, 3) := by decide +kernel
theorem d_C_meets_10 : decode b_C_meets 10 = .ok (.iconst 0, 1) := by decide +kernel
theorem d_C_meets_11 : decode b_C_meets 11 = .ok (.invokevirtual 138, 3) := by decide +kernel
theorem d_C_meets_14 : decode b_C_meets 14 = .ok (.ifCond .eq 30, 3) := by decide +kernel
theorem d_C_meets_17 : decode b_C_meets 17 = .ok (.aload_n 0, 1) := by decide +kernel
theorem d_C_meets_18 : decode b_C_meets 18 = .ok (.getfield 32, 3) := by decide +kernel
theorem d_C_meets_21 : decode b_C_meets 21 = .ok (.iconst 1, 1) := by decide +kernel
theorem d_C_meets_22 : decode b_C_meets 22 = .ok (.invokevirtual 138, 3) := by decide +kernel
theorem d_C_meets_25 : decode b_C_meets 25 = .ok (.ifCond .eq 19, 3) := by decide +kernel
theorem d_C_meets_28 : decode b_C_meets 28 = .ok (.aload_n 0, 1) := by decide +kernel
theorem d_C_meets_29 : decode b_C_meets 29 = .ok (.getfield 32, 3) := by decide +kernel
theorem d_C_meets_32 : decode b_C_meets 32 = .ok (.iconst 0, 1) := by decide +kernel
theorem d_C_meets_33 : decode b_C_meets 33 = .ok (.iconst 1, 1) := by decide +kernel
theorem d_C_meets_34 : decode b_C_meets 34 = .ok (.invokevirtual 141, 3) := by decide +kernel
theorem d_C_meets_37 : decode b_C_meets 37 = .ok (.ifCond .eq 7, 3) := by decide +kernel
theorem d_C_meets_40 : decode b_C_meets 40 = .ok (.iconst 1, 1) := by decide +kernel
theorem d_C_meets_41 : decode b_C_meets 41 = .ok (.goto 4, 3) := by decide +kernel
theorem d_C_meets_44 : decode b_C_meets 44 = .ok (.iconst 0, 1) := by decide +kernel
theorem d_C_meets_45 : decode b_C_meets 45 = .ok (.ireturn, 1) := by decide +kernel
theorem d_L_lives_0 : decode b_L_lives 0 = .ok (.aload_n 2, 1) := by decide +kernel
theorem d_L_lives_1 : decode b_L_lives 1 = .ok (.iconst 0, 1) := by decide +kernel
theorem d_L_lives_2 : decode b_L_lives 2 = .ok (.aload_n 0, 1) := by decide +kernel
theorem d_L_lives_3 : decode b_L_lives 3 = .ok (.iload_n 1, 1) := by decide +kernel
theorem d_L_lives_4 : decode b_L_lives 4 = .ok (.invokevirtual 50, 3) := by decide +kernel
theorem d_L_lives_7 : decode b_L_lives 7 = .ok (.ifCond .eq 7, 3) := by decide +kernel
theorem d_L_lives_10 : decode b_L_lives 10 = .ok (.lconst 1, 1) := by decide +kernel
theorem d_L_lives_11 : decode b_L_lives 11 = .ok (.goto 4, 3) := by decide +kernel
theorem d_L_lives_14 : decode b_L_lives 14 = .ok (.lconst 0, 1) := by decide +kernel
theorem d_L_lives_15 : decode b_L_lives 15 = .ok (.lastore, 1) := by decide +kernel
theorem d_L_lives_16 : decode b_L_lives 16 = .ok (.goto 6, 3) := by decide +kernel
theorem d_L_lives_19 : decode b_L_lives 19 = .ok (.astore_n 3, 1) := by decide +kernel
theorem d_L_lives_20 : decode b_L_lives 20 = .ok (.iconst 1, 1) := by decide +kernel
theorem d_L_lives_21 : decode b_L_lives 21 = .ok (.ireturn, 1) := by decide +kernel
theorem d_L_lives_22 : decode b_L_lives 22 = .ok (.iconst 0, 1) := by decide +kernel
theorem d_L_lives_23 : decode b_L_lives 23 = .ok (.ireturn, 1) := by decide +kernel
theorem d_C_lives_0 : decode b_C_lives 0 = .ok (.aload_n 0, 1) := by decide +kernel
theorem d_C_lives_1 : decode b_C_lives 1 = .ok (.iload_n 1, 1) := by decide +kernel
theorem d_C_lives_2 : decode b_C_lives 2 = .ok (.invokevirtual 50, 3) := by decide +kernel
theorem d_C_lives_5 : decode b_C_lives 5 = .ok (.aload_n 0, 1) := by decide +kernel
theorem d_C_lives_6 : decode b_C_lives 6 = .ok (.getfield 10, 3) := by decide +kernel
theorem d_C_lives_9 : decode b_C_lives 9 = .ok (.iload_n 1, 1) := by decide +kernel
theorem d_C_lives_10 : decode b_C_lives 10 = .ok (.invokevirtual 145, 3) := by decide +kernel
theorem d_C_lives_13 : decode b_C_lives 13 = .ok (.ireturn, 1) := by decide +kernel
theorem d_M_init_0 : decode b_M_init 0 = .ok (.aload_n 0, 1) := by decide +kernel
theorem d_M_init_1 : decode b_M_init 1 = .ok (.invokespecial 1, 3) := by decide +kernel
theorem d_M_init_4 : decode b_M_init 4 = .ok (.aload_n 0, 1) := by decide +kernel
theorem d_M_init_5 : decode b_M_init 5 = .ok (.iconst 1, 1) := by decide +kernel
theorem d_M_init_6 : decode b_M_init 6 = .ok (.putfield 7, 3) := by decide +kernel
theorem d_M_init_9 : decode b_M_init 9 = .ok (.aload_n 0, 1) := by decide +kernel
theorem d_M_init_10 : decode b_M_init 10 = .ok (.bipush 30, 2) := by decide +kernel
theorem d_M_init_12 : decode b_M_init 12 = .ok (.newarray .int, 2) := by decide +kernel
theorem d_M_init_14 : decode b_M_init 14 = .ok (.putfield 13, 3) := by decide +kernel
theorem d_M_init_17 : decode b_M_init 17 = .ok (.aload_n 0, 1) := by decide +kernel
theorem d_M_init_18 : decode b_M_init 18 = .ok (.bipush 30, 2) := by decide +kernel
theorem d_M_init_20 : decode b_M_init 20 = .ok (.newarray .int, 2) := by decide +kernel
theorem d_M_init_22 : decode b_M_init 22 = .ok (.putfield 17, 3) := by decide +kernel
theorem d_M_init_25 : decode b_M_init 25 = .ok (.aload_n 0, 1) := by decide +kernel
theorem d_M_init_26 : decode b_M_init 26 = .ok (.bipush 30, 2) := by decide +kernel
theorem d_M_init_28 : decode b_M_init 28 = .ok (.newarray .int, 2) := by decide +kernel
theorem d_M_init_30 : decode b_M_init 30 = .ok (.putfield 20, 3) := by decide +kernel
theorem d_M_init_33 : decode b_M_init 33 = .ok (.aload_n 0, 1) := by decide +kernel
theorem d_M_init_34 : decode b_M_init 34 = .ok (.bipush 30, 2) := by decide +kernel
theorem d_M_init_36 : decode b_M_init 36 = .ok (.newarray .int, 2) := by decide +kernel
theorem d_M_init_38 : decode b_M_init 38 = .ok (.putfield 23, 3) := by decide +kernel
theorem d_M_init_41 : decode b_M_init 41 = .ok (.aload_n 0, 1) := by decide +kernel
theorem d_M_init_42 : decode b_M_init 42 = .ok (.sipush 200, 3) := by decide +kernel
theorem d_M_init_45 : decode b_M_init 45 = .ok (.newarray .int, 2) := by decide +kernel
theorem d_M_init_47 : decode b_M_init 47 = .ok (.putfield 26, 3) := by decide +kernel
theorem d_M_init_50 : decode b_M_init 50 = .ok (.aload_n 0, 1) := by decide +kernel
theorem d_M_init_51 : decode b_M_init 51 = .ok (.sipush 200, 3) := by decide +kernel
theorem d_M_init_54 : decode b_M_init 54 = .ok (.newarray .int, 2) := by decide +kernel
theorem d_M_init_56 : decode b_M_init 56 = .ok (.putfield 29, 3) := by decide +kernel
theorem d_M_init_59 : decode b_M_init 59 = .ok (.aload_n 0, 1) := by decide +kernel
theorem d_M_init_60 : decode b_M_init 60 = .ok (.sipush 200, 3) := by decide +kernel
theorem d_M_init_63 : decode b_M_init 63 = .ok (.newarray .int, 2) := by decide +kernel
theorem d_M_init_65 : decode b_M_init 65 = .ok (.putfield 32, 3) := by decide +kernel
theorem d_M_init_68 : decode b_M_init 68 = .ok (.aload_n 0, 1) := by decide +kernel
theorem d_M_init_69 : decode b_M_init 69 = .ok (.sipush 200, 3) := by decide +kernel
theorem d_M_init_72 : decode b_M_init 72 = .ok (.newarray .int, 2) := by decide +kernel
theorem d_M_init_74 : decode b_M_init 74 = .ok (.putfield 35, 3) := by decide +kernel
theorem d_M_init_77 : decode b_M_init 77 = .ok (.aload_n 0, 1) := by decide +kernel
theorem d_M_init_78 : decode b_M_init 78 = .ok (.sipush 200, 3) := by decide +kernel
theorem d_M_init_81 : decode b_M_init 81 = .ok (.newarray .int, 2) := by decide +kernel
theorem d_M_init_83 : decode b_M_init 83 = .ok (.putfield 38, 3) := by decide +kernel
theorem d_M_init_86 : decode b_M_init 86 = .ok (.aload_n 0, 1) := by decide +kernel
theorem d_M_init_87 : decode b_M_init 87 = .ok (.sipush 200, 3) := by decide +kernel
theorem d_M_init_90 : decode b_M_init 90 = .ok (.newarray .int, 2) := by decide +kernel
theorem d_M_init_92 : decode b_M_init 92 = .ok (.putfield 41, 3) := by decide +kernel
theorem d_M_init_95 : decode b_M_init 95 = .ok (.aload_n 0, 1) := by decide +kernel
theorem d_M_init_96 : decode b_M_init 96 = .ok (.bipush 8, 2) := by decide +kernel
theorem d_M_init_98 : decode b_M_init 98 = .ok (.newarray .int, 2) := by decide +kernel
theorem d_M_init_100 : decode b_M_init 100 = .ok (.putfield 44, 3) := by decide +kernel
theorem d_M_init_103 : decode b_M_init 103 = .ok (.aload_n 0, 1) := by decide +kernel
theorem d_M_init_104 : decode b_M_init 104 = .ok (.bipush 12, 2) := by decide +kernel
theorem d_M_init_106 : decode b_M_init 106 = .ok (.newarray .boolean, 2) := by decide +kernel
theorem d_M_init_108 : decode b_M_init 108 = .ok (.putfield 47, 3) := by decide +kernel
theorem d_M_init_111 : decode b_M_init 111 = .ok (.aload_n 0, 1) := by decide +kernel
theorem d_M_init_112 : decode b_M_init 112 = .ok (.sipush 270, 3) := by decide +kernel
theorem d_M_init_115 : decode b_M_init 115 = .ok (.newarray .int, 2) := by decide +kernel
theorem d_M_init_117 : decode b_M_init 117 = .ok (.putfield 51, 3) := by decide +kernel
theorem d_M_init_120 : decode b_M_init 120 = .ok (.aload_n 0, 1) := by decide +kernel
theorem d_M_init_121 : decode b_M_init 121 = .ok (.sipush 270, 3) := by decide +kernel
theorem d_M_init_124 : decode b_M_init 124 = .ok (.newarray .int, 2) := by decide +kernel
theorem d_M_init_126 : decode b_M_init 126 = .ok (.putfield 54, 3) := by decide +kernel
theorem d_M_init_129 : decode b_M_init 129 = .ok (.aload_n 0, 1) := by decide +kernel
theorem d_M_init_130 : decode b_M_init 130 = .ok (.sipush 270, 3) := by decide +kernel
theorem d_M_init_133 : decode b_M_init 133 = .ok (.newarray .int, 2) := by decide +kernel
theorem d_M_init_135 : decode b_M_init 135 = .ok (.putfield 57, 3) := by decide +kernel
theorem d_M_init_138 : decode b_M_init 138 = .ok (.aload_n 0, 1) := by decide +kernel
theorem d_M_init_139 : decode b_M_init 139 = .ok (.sipush 270, 3) := by decide +kernel
theorem d_M_init_142 : decode b_M_init 142 = .ok (.newarray .int, 2) := by decide +kernel
theorem d_M_init_144 : decode b_M_init 144 = .ok (.putfield 60, 3) := by decide +kernel
theorem d_M_init_147 : decode b_M_init 147 = .ok (.aload_n 0, 1) := by decide +kernel
theorem d_M_init_148 : decode b_M_init 148 = .ok (.sipush 270, 3) := by decide +kernel
theorem d_M_init_151 : decode b_M_init 151 = .ok (.newarray .int, 2) := by decide +kernel
theorem d_M_init_153 : decode b_M_init 153 = .ok (.putfield 63, 3) := by decide +kernel
theorem d_M_init_156 : decode b_M_init 156 = .ok (.aload_n 0, 1) := by decide +kernel
theorem d_M_init_157 : decode b_M_init 157 = .ok (.sipush 130, 3) := by decide +kernel
theorem d_M_init_160 : decode b_M_init 160 = .ok (.newarray .int, 2) := by decide +kernel
theorem d_M_init_162 : decode b_M_init 162 = .ok (.putfield 66, 3) := by decide +kernel
theorem d_M_init_165 : decode b_M_init 165 = .ok (.aload_n 0, 1) := by decide +kernel
theorem d_M_init_166 : decode b_M_init 166 = .ok (.sipush 130, 3) := by decide +kernel
theorem d_M_init_169 : decode b_M_init 169 = .ok (.newarray .int, 2) := by decide +kernel
theorem d_M_init_171 : decode b_M_init 171 = .ok (.putfield 69, 3) := by decide +kernel
theorem d_M_init_174 : decode b_M_init 174 = .ok (.aload_n 0, 1) := by decide +kernel
theorem d_M_init_175 : decode b_M_init 175 = .ok (.sipush 130, 3) := by decide +kernel
theorem d_M_init_178 : decode b_M_init 178 = .ok (.newarray .int, 2) := by decide +kernel
theorem d_M_init_180 : decode b_M_init 180 = .ok (.putfield 72, 3) := by decide +kernel
theorem d_M_init_183 : decode b_M_init 183 = .ok (.aload_n 0, 1) := by decide +kernel
theorem d_M_init_184 : decode b_M_init 184 = .ok (.bipush 30, 2) := by decide +kernel
theorem d_M_init_186 : decode b_M_init 186 = .ok (.newarray .boolean, 2) := by decide +kernel
theorem d_M_init_188 : decode b_M_init 188 = .ok (.putfield 75, 3) := by decide +kernel
theorem d_M_init_191 : decode b_M_init 191 = .ok (.aload_n 0, 1) := by decide +kernel
theorem d_M_init_192 : decode b_M_init 192 = .ok (.iconst 2, 1) := by decide +kernel
theorem d_M_init_193 : decode b_M_init 193 = .ok (.newarray .int, 2) := by decide +kernel
theorem d_M_init_195 : decode b_M_init 195 = .ok (.putfield 78, 3) := by decide +kernel
theorem d_M_init_198 : decode b_M_init 198 = .ok (.aload_n 0, 1) := by decide +kernel
theorem d_M_init_199 : decode b_M_init 199 = .ok (.bipush 8, 2) := by decide +kernel
theorem d_M_init_201 : decode b_M_init 201 = .ok (.newarray .int, 2) := by decide +kernel
theorem d_M_init_203 : decode b_M_init 203 = .ok (.putfield 81, 3) := by decide +kernel
theorem d_M_init_206 : decode b_M_init 206 = .ok (.aload_n 0, 1) := by decide +kernel
theorem d_M_init_207 : decode b_M_init 207 = .ok (.sipush 130, 3) := by decide +kernel
theorem d_M_init_210 : decode b_M_init 210 = .ok (.newarray .int, 2) := by decide +kernel
theorem d_M_init_212 : decode b_M_init 212 = .ok (.putfield 84, 3) := by decide +kernel
theorem d_M_init_215 : decode b_M_init 215 = .ok (.return_, 1) := by decide +kernel
theorem d_M_thrown_0 : decode b_M_thrown 0 = .ok (.aload_n 0, 1) := by decide +kernel
theorem d_M_thrown_1 : decode b_M_thrown 1 = .ok (.getfield 87, 3) := by decide +kernel
theorem d_M_thrown_4 : decode b_M_thrown 4 = .ok (.ireturn, 1) := by decide +kernel
theorem d_M_sort_0 : decode b_M_sort 0 = .ok (.aload_n 0, 1) := by decide +kernel
theorem d_M_sort_1 : decode b_M_sort 1 = .ok (.aload_n 0, 1) := by decide +kernel
theorem d_M_sort_2 : decode b_M_sort 2 = .ok (.getfield 7, 3) := by decide +kernel
theorem d_M_sort_5 : decode b_M_sort 5 = .ok (.bipush 12, 2) := by decide +kernel
theorem d_M_sort_7 : decode b_M_sort 7 = .ok (.if_icmp .ne 7, 3) := by decide +kernel
theorem d_M_sort_10 : decode b_M_sort 10 = .ok (.iconst 1, 1) := by decide +kernel
theorem d_M_sort_11 : decode b_M_sort 11 = .ok (.goto 4, 3) := by decide +kernel
theorem d_M_sort_14 : decode b_M_sort 14 = .ok (.iconst 0, 1) := by decide +kernel
theorem d_M_sort_15 : decode b_M_sort 15 = .ok (.putfield 87, 3) := by decide +kernel
theorem d_M_sort_18 : decode b_M_sort 18 = .ok (.aload_n 0, 1) := by decide +kernel
theorem d_M_sort_19 : decode b_M_sort 19 = .ok (.getfield 87, 3) := by decide +kernel
theorem d_M_sort_22 : decode b_M_sort 22 = .ok (.ifCond .le 5, 3) := by decide +kernel
theorem d_M_sort_25 : decode b_M_sort 25 = .ok (.iconst 0, 1) := by decide +kernel
theorem d_M_sort_26 : decode b_M_sort 26 = .ok (.ireturn, 1) := by decide +kernel
theorem d_M_sort_27 : decode b_M_sort 27 = .ok (.aload_n 0, 1) := by decide +kernel
theorem d_M_sort_28 : decode b_M_sort 28 = .ok (.dup, 1) := by decide +kernel
theorem d_M_sort_29 : decode b_M_sort 29 = .ok (.getfield 7, 3) := by decide +kernel
theorem d_M_sort_32 : decode b_M_sort 32 = .ok (.iconst 1, 1) := by decide +kernel
theorem d_M_sort_33 : decode b_M_sort 33 = .ok (.iadd, 1) := by decide +kernel
theorem d_M_sort_34 : decode b_M_sort 34 = .ok (.putfield 7, 3) := by decide +kernel
theorem d_M_sort_37 : decode b_M_sort 37 = .ok (.aload_n 0, 1) := by decide +kernel
theorem d_M_sort_38 : decode b_M_sort 38 = .ok (.getfield 7, 3) := by decide +kernel
theorem d_M_sort_41 : decode b_M_sort 41 = .ok (.iconst 1, 1) := by decide +kernel
theorem d_M_sort_42 : decode b_M_sort 42 = .ok (.isub, 1) := by decide +kernel
theorem d_M_sort_43 : decode b_M_sort 43 = .ok (.ireturn, 1) := by decide +kernel
theorem d_M_con_0 : decode b_M_con 0 = .ok (.iload_n 1, 1) := by decide +kernel
theorem d_M_con_1 : decode b_M_con 1 = .ok (.ifCond .le 51, 3) := by decide +kernel
theorem d_M_con_4 : decode b_M_con 4 = .ok (.aload_n 0, 1) := by decide +kernel
theorem d_M_con_5 : decode b_M_con 5 = .ok (.iload_n 1, 1) := by decide +kernel
theorem d_M_con_6 : decode b_M_con 6 = .ok (.invokevirtual 93, 3) := by decide +kernel
theorem d_M_con_9 : decode b_M_con 9 = .ok (.ifCond .eq 43, 3) := by decide +kernel
theorem d_M_con_12 : decode b_M_con 12 = .ok (.iload_n 2, 1) := by decide +kernel
theorem d_M_con_13 : decode b_M_con 13 = .ok (.ifCond .lt 39, 3) := by decide +kernel
theorem d_M_con_16 : decode b_M_con 16 = .ok (.iload_n 2, 1) := by decide +kernel
theorem d_M_con_17 : decode b_M_con 17 = .ok (.iconst 2, 1) := by decide +kernel
theorem d_M_con_18 : decode b_M_con 18 = .ok (.if_icmp .gt 34, 3) := by decide +kernel
theorem d_M_con_21 : decode b_M_con 21 = .ok (.iload_n 2, 1) := by decide +kernel
theorem d_M_con_22 : decode b_M_con 22 = .ok (.iconst 1, 1) := by decide +kernel
theorem d_M_con_23 : decode b_M_con 23 = .ok (.if_icmp .lt 11, 3) := by decide +kernel
theorem d_M_con_26 : decode b_M_con 26 = .ok (.aload_n 0, 1) := by decide +kernel
theorem d_M_con_27 : decode b_M_con 27 = .ok (.iload_n 3, 1) := by decide +kernel
theorem d_M_con_28 : decode b_M_con 28 = .ok (.invokevirtual 93, 3) := by decide +kernel
theorem d_M_con_31 : decode b_M_con 31 = .ok (.ifCond .eq 21, 3) := by decide +kernel
theorem d_M_con_34 : decode b_M_con 34 = .ok (.iload_n 2, 1) := by decide +kernel
theorem d_M_con_35 : decode b_M_con 35 = .ok (.iconst 2, 1) := by decide +kernel
theorem d_M_con_36 : decode b_M_con 36 = .ok (.if_icmp .lt 12, 3) := by decide +kernel
theorem d_M_con_39 : decode b_M_con 39 = .ok (.aload_n 0, 1) := by decide +kernel
theorem d_M_con_40 : decode b_M_con 40 = .ok (.iload 4, 2) := by decide +kernel
theorem d_M_con_42 : decode b_M_con 42 = .ok (.invokevirtual 93, 3) := by decide +kernel
theorem d_M_con_45 : decode b_M_con 45 = .ok (.ifCond .eq 7, 3) := by decide +kernel
theorem d_M_con_48 : decode b_M_con 48 = .ok (.iconst 1, 1) := by decide +kernel
theorem d_M_con_49 : decode b_M_con 49 = .ok (.goto 4, 3) := by decide +kernel
theorem d_M_con_52 : decode b_M_con 52 = .ok (.iconst 0, 1) := by decide +kernel
theorem d_M_con_53 : decode b_M_con 53 = .ok (.istore 5, 2) := by decide +kernel
theorem d_M_con_55 : decode b_M_con 55 = .ok (.aload_n 0, 1) := by decide +kernel
theorem d_M_con_56 : decode b_M_con 56 = .ok (.iload 5, 2) := by decide +kernel
theorem d_M_con_58 : decode b_M_con 58 = .ok (.ifCond .ne 7, 3) := by decide +kernel
theorem d_M_con_61 : decode b_M_con 61 = .ok (.iconst 1, 1) := by decide +kernel
theorem d_M_con_62 : decode b_M_con 62 = .ok (.goto 17, 3) := by decide +kernel
theorem d_M_con_65 : decode b_M_con 65 = .ok (.aload_n 0, 1) := by decide +kernel
theorem d_M_con_66 : decode b_M_con 66 = .ok (.getfield 97, 3) := by decide +kernel
theorem d_M_con_69 : decode b_M_con 69 = .ok (.bipush 30, 2) := by decide +kernel
theorem d_M_con_71 : decode b_M_con 71 = .ok (.if_icmp .ne 7, 3) := by decide +kernel
theorem d_M_con_74 : decode b_M_con 74 = .ok (.iconst 2, 1) := by decide +kernel
theorem d_M_con_75 : decode b_M_con 75 = .ok (.goto 4, 3) := by decide +kernel
theorem d_M_con_78 : decode b_M_con 78 = .ok (.iconst 0, 1) := by decide +kernel
theorem d_M_con_79 : decode b_M_con 79 = .ok (.putfield 87, 3) := by decide +kernel
theorem d_M_con_82 : decode b_M_con 82 = .ok (.aload_n 0, 1) := by decide +kernel
theorem d_M_con_83 : decode b_M_con 83 = .ok (.getfield 87, 3) := by decide +kernel
theorem d_M_con_86 : decode b_M_con 86 = .ok (.ifCond .le 5, 3) := by decide +kernel
theorem d_M_con_89 : decode b_M_con 89 = .ok (.iconst 0, 1) := by decide +kernel
theorem d_M_con_90 : decode b_M_con 90 = .ok (.ireturn, 1) := by decide +kernel
theorem d_M_con_91 : decode b_M_con 91 = .ok (.aload_n 0, 1) := by decide +kernel
theorem d_M_con_92 : decode b_M_con 92 = .ok (.getfield 13, 3) := by decide +kernel
theorem d_M_con_95 : decode b_M_con 95 = .ok (.aload_n 0, 1) := by decide +kernel
theorem d_M_con_96 : decode b_M_con 96 = .ok (.getfield 97, 3) := by decide +kernel
theorem d_M_con_99 : decode b_M_con 99 = .ok (.iload_n 1, 1) := by decide +kernel
theorem d_M_con_100 : decode b_M_con 100 = .ok (.iastore, 1) := by decide +kernel
theorem d_M_con_101 : decode b_M_con 101 = .ok (.aload_n 0, 1) := by decide +kernel
theorem d_M_con_102 : decode b_M_con 102 = .ok (.getfield 17, 3) := by decide +kernel
theorem d_M_con_105 : decode b_M_con 105 = .ok (.aload_n 0, 1) := by decide +kernel
theorem d_M_con_106 : decode b_M_con 106 = .ok (.getfield 97, 3) := by decide +kernel
theorem d_M_con_109 : decode b_M_con 109 = .ok (.iload_n 2, 1) := by decide +kernel
theorem d_M_con_110 : decode b_M_con 110 = .ok (.iastore, 1) := by decide +kernel
theorem d_M_con_111 : decode b_M_con 111 = .ok (.aload_n 0, 1) := by decide +kernel
theorem d_M_con_112 : decode b_M_con 112 = .ok (.getfield 20, 3) := by decide +kernel
theorem d_M_con_115 : decode b_M_con 115 = .ok (.aload_n 0, 1) := by decide +kernel
theorem d_M_con_116 : decode b_M_con 116 = .ok (.getfield 97, 3) := by decide +kernel
theorem d_M_con_119 : decode b_M_con 119 = .ok (.iload_n 3, 1) := by decide +kernel
theorem d_M_con_120 : decode b_M_con 120 = .ok (.iastore, 1) := by decide +kernel
theorem d_M_con_121 : decode b_M_con 121 = .ok (.aload_n 0, 1) := by decide +kernel
theorem d_M_con_122 : decode b_M_con 122 = .ok (.getfield 23, 3) := by decide +kernel
theorem d_M_con_125 : decode b_M_con 125 = .ok (.aload_n 0, 1) := by decide +kernel
theorem d_M_con_126 : decode b_M_con 126 = .ok (.getfield 97, 3) := by decide +kernel
theorem d_M_con_129 : decode b_M_con 129 = .ok (.iload 4, 2) := by decide +kernel
theorem d_M_con_131 : decode b_M_con 131 = .ok (.iastore, 1) := by decide +kernel
theorem d_M_con_132 : decode b_M_con 132 = .ok (.aload_n 0, 1) := by decide +kernel
theorem d_M_con_133 : decode b_M_con 133 = .ok (.dup, 1) := by decide +kernel
theorem d_M_con_134 : decode b_M_con 134 = .ok (.getfield 97, 3) := by decide +kernel
theorem d_M_con_137 : decode b_M_con 137 = .ok (.iconst 1, 1) := by decide +kernel
theorem d_M_con_138 : decode b_M_con 138 = .ok (.iadd, 1) := by decide +kernel
theorem d_M_con_139 : decode b_M_con 139 = .ok (.putfield 97, 3) := by decide +kernel
theorem d_M_con_142 : decode b_M_con 142 = .ok (.aload_n 0, 1) := by decide +kernel
theorem d_M_con_143 : decode b_M_con 143 = .ok (.getfield 97, 3) := by decide +kernel
theorem d_M_con_146 : decode b_M_con 146 = .ok (.iconst 1, 1) := by decide +kernel
theorem d_M_con_147 : decode b_M_con 147 = .ok (.isub, 1) := by decide +kernel
theorem d_M_con_148 : decode b_M_con 148 = .ok (.ireturn, 1) := by decide +kernel
theorem d_M_isSort_0 : decode b_M_isSort 0 = .ok (.iload_n 1, 1) := by decide +kernel
theorem d_M_isSort_1 : decode b_M_isSort 1 = .ok (.ifCond .lt 15, 3) := by decide +kernel
theorem d_M_isSort_4 : decode b_M_isSort 4 = .ok (.iload_n 1, 1) := by decide +kernel
theorem d_M_isSort_5 : decode b_M_isSort 5 = .ok (.aload_n 0, 1) := by decide +kernel
theorem d_M_isSort_6 : decode b_M_isSort 6 = .ok (.getfield 7, 3) := by decide +kernel
theorem d_M_isSort_9 : decode b_M_isSort 9 = .ok (.if_icmp .ge 7, 3) := by decide +kernel
theorem d_M_isSort_12 : decode b_M_isSort 12 = .ok (.iconst 1, 1) := by decide +kernel
theorem d_M_isSort_13 : decode b_M_isSort 13 = .ok (.goto 4, 3) := by decide +kernel
theorem d_M_isSort_16 : decode b_M_isSort 16 = .ok (.iconst 0, 1) := by decide +kernel
theorem d_M_isSort_17 : decode b_M_isSort 17 = .ok (.ireturn, 1) := by decide +kernel
theorem d_M_any_0 : decode b_M_any 0 = .ok (.aload_n 0, 1) := by decide +kernel
theorem d_M_any_1 : decode b_M_any 1 = .ok (.aload_n 0, 1) := by decide +kernel
theorem d_M_any_2 : decode b_M_any 2 = .ok (.iload_n 1, 1) := by decide +kernel
theorem d_M_any_3 : decode b_M_any 3 = .ok (.invokevirtual 93, 3) := by decide +kernel
theorem d_M_any_6 : decode b_M_any 6 = .ok (.ifCond .ne 7, 3) := by decide +kernel
theorem d_M_any_9 : decode b_M_any 9 = .ok (.iconst 1, 1) := by decide +kernel
theorem d_M_any_10 : decode b_M_any 10 = .ok (.goto 18, 3) := by decide +kernel
theorem d_M_any_13 : decode b_M_any 13 = .ok (.aload_n 0, 1) := by decide +kernel
theorem d_M_any_14 : decode b_M_any 14 = .ok (.getfield 90, 3) := by decide +kernel
theorem d_M_any_17 : decode b_M_any 17 = .ok (.sipush 200, 3) := by decide +kernel
theorem d_M_any_20 : decode b_M_any 20 = .ok (.if_icmp .ne 7, 3) := by decide +kernel
theorem d_M_any_23 : decode b_M_any 23 = .ok (.iconst 2, 1) := by decide +kernel
theorem d_M_any_24 : decode b_M_any 24 = .ok (.goto 4, 3) := by decide +kernel
theorem d_M_any_27 : decode b_M_any 27 = .ok (.iconst 0, 1) := by decide +kernel
theorem d_M_any_28 : decode b_M_any 28 = .ok (.putfield 87, 3) := by decide +kernel
theorem d_M_any_31 : decode b_M_any 31 = .ok (.aload_n 0, 1) := by decide +kernel
theorem d_M_any_32 : decode b_M_any 32 = .ok (.getfield 87, 3) := by decide +kernel
theorem d_M_any_35 : decode b_M_any 35 = .ok (.ifCond .le 7, 3) := by decide +kernel
theorem d_M_any_38 : decode b_M_any 38 = .ok (.iconst 0, 1) := by decide +kernel
theorem d_M_any_39 : decode b_M_any 39 = .ok (.goto 13, 3) := by decide +kernel
theorem d_M_any_42 : decode b_M_any 42 = .ok (.aload_n 0, 1) := by decide +kernel
theorem d_M_any_43 : decode b_M_any 43 = .ok (.iconst 0, 1) := by decide +kernel
theorem d_M_any_44 : decode b_M_any 44 = .ok (.iload_n 1, 1) := by decide +kernel
theorem d_M_any_45 : decode b_M_any 45 = .ok (.iconst 0, 1) := by decide +kernel
theorem d_M_any_46 : decode b_M_any 46 = .ok (.iconst 0, 1) := by decide +kernel
theorem d_M_any_47 : decode b_M_any 47 = .ok (.iconst 0, 1) := by decide +kernel
theorem d_M_any_48 : decode b_M_any 48 = .ok (.iconst 0, 1) := by decide +kernel
theorem d_M_any_49 : decode b_M_any 49 = .ok (.invokevirtual 100, 3) := by decide +kernel
theorem d_M_any_52 : decode b_M_any 52 = .ok (.ireturn, 1) := by decide +kernel
theorem d_M_pattern_0 : decode b_M_pattern 0 = .ok (.aload_n 0, 1) := by decide +kernel
theorem d_M_pattern_1 : decode b_M_pattern 1 = .ok (.getfield 26, 3) := by decide +kernel
theorem d_M_pattern_4 : decode b_M_pattern 4 = .ok (.aload_n 0, 1) := by decide +kernel
theorem d_M_pattern_5 : decode b_M_pattern 5 = .ok (.getfield 90, 3) := by decide +kernel
theorem d_M_pattern_8 : decode b_M_pattern 8 = .ok (.iload_n 1, 1) := by decide +kernel
theorem d_M_pattern_9 : decode b_M_pattern 9 = .ok (.iastore, 1) := by decide +kernel
theorem d_M_pattern_10 : decode b_M_pattern 10 = .ok (.aload_n 0, 1) := by decide +kernel
theorem d_M_pattern_11 : decode b_M_pattern 11 = .ok (.getfield 29, 3) := by decide +kernel
theorem d_M_pattern_14 : decode b_M_pattern 14 = .ok (.aload_n 0, 1) := by decide +kernel
theorem d_M_pattern_15 : decode b_M_pattern 15 = .ok (.getfield 90, 3) := by decide +kernel
theorem d_M_pattern_18 : decode b_M_pattern 18 = .ok (.iload_n 2, 1) := by decide +kernel
theorem d_M_pattern_19 : decode b_M_pattern 19 = .ok (.iastore, 1) := by decide +kernel
theorem d_M_pattern_20 : decode b_M_pattern 20 = .ok (.aload_n 0, 1) := by decide +kernel
theorem d_M_pattern_21 : decode b_M_pattern 21 = .ok (.getfield 32, 3) := by decide +kernel
theorem d_M_pattern_24 : decode b_M_pattern 24 = .ok (.aload_n 0, 1) := by decide +kernel
theorem d_M_pattern_25 : decode b_M_pattern 25 = .ok (.getfield 90, 3) := by decide +kernel
theorem d_M_pattern_28 : decode b_M_pattern 28 = .ok (.iload_n 3, 1) := by decide +kernel
theorem d_M_pattern_29 : decode b_M_pattern 29 = .ok (.iastore, 1) := by decide +kernel
theorem d_M_pattern_30 : decode b_M_pattern 30 = .ok (.aload_n 0, 1) := by decide +kernel
theorem d_M_pattern_31 : decode b_M_pattern 31 = .ok (.getfield 35, 3) := by decide +kernel
theorem d_M_pattern_34 : decode b_M_pattern 34 = .ok (.aload_n 0, 1) := by decide +kernel
theorem d_M_pattern_35 : decode b_M_pattern 35 = .ok (.getfield 90, 3) := by decide +kernel
theorem d_M_pattern_38 : decode b_M_pattern 38 = .ok (.iload 4, 2) := by decide +kernel
theorem d_M_pattern_40 : decode b_M_pattern 40 = .ok (.iastore, 1) := by decide +kernel
theorem d_M_pattern_41 : decode b_M_pattern 41 = .ok (.aload_n 0, 1) := by decide +kernel
theorem d_M_pattern_42 : decode b_M_pattern 42 = .ok (.getfield 38, 3) := by decide +kernel
theorem d_M_pattern_45 : decode b_M_pattern 45 = .ok (.aload_n 0, 1) := by decide +kernel
theorem d_M_pattern_46 : decode b_M_pattern 46 = .ok (.getfield 90, 3) := by decide +kernel
theorem d_M_pattern_49 : decode b_M_pattern 49 = .ok (.iload 5, 2) := by decide +kernel
theorem d_M_pattern_51 : decode b_M_pattern 51 = .ok (.iastore, 1) := by decide +kernel
theorem d_M_pattern_52 : decode b_M_pattern 52 = .ok (.aload_n 0, 1) := by decide +kernel
theorem d_M_pattern_53 : decode b_M_pattern 53 = .ok (.getfield 41, 3) := by decide +kernel
theorem d_M_pattern_56 : decode b_M_pattern 56 = .ok (.aload_n 0, 1) := by decide +kernel
theorem d_M_pattern_57 : decode b_M_pattern 57 = .ok (.getfield 90, 3) := by decide +kernel
theorem d_M_pattern_60 : decode b_M_pattern 60 = .ok (.iload 6, 2) := by decide +kernel
theorem d_M_pattern_62 : decode b_M_pattern 62 = .ok (.iastore, 1) := by decide +kernel
theorem d_M_pattern_63 : decode b_M_pattern 63 = .ok (.aload_n 0, 1) := by decide +kernel
theorem d_M_pattern_64 : decode b_M_pattern 64 = .ok (.dup, 1) := by decide +kernel
theorem d_M_pattern_65 : decode b_M_pattern 65 = .ok (.getfield 90, 3) := by decide +kernel
theorem d_M_pattern_68 : decode b_M_pattern 68 = .ok (.iconst 1, 1) := by decide +kernel
theorem d_M_pattern_69 : decode b_M_pattern 69 = .ok (.iadd, 1) := by decide +kernel
theorem d_M_pattern_70 : decode b_M_pattern 70 = .ok (.putfield 90, 3) := by decide +kernel
theorem d_M_pattern_73 : decode b_M_pattern 73 = .ok (.aload_n 0, 1) := by decide +kernel
theorem d_M_pattern_74 : decode b_M_pattern 74 = .ok (.getfield 90, 3) := by decide +kernel
theorem d_M_pattern_77 : decode b_M_pattern 77 = .ok (.iconst 1, 1) := by decide +kernel
theorem d_M_pattern_78 : decode b_M_pattern 78 = .ok (.isub, 1) := by decide +kernel
theorem d_M_pattern_79 : decode b_M_pattern 79 = .ok (.ireturn, 1) := by decide +kernel
theorem d_M_number_0 : decode b_M_number 0 = .ok (.aload_n 0, 1) := by decide +kernel
theorem d_M_number_1 : decode b_M_number 1 = .ok (.aload_n 0, 1) := by decide +kernel
theorem d_M_number_2 : decode b_M_number 2 = .ok (.getfield 90, 3) := by decide +kernel
theorem d_M_number_5 : decode b_M_number 5 = .ok (.sipush 200, 3) := by decide +kernel
theorem d_M_number_8 : decode b_M_number 8 = .ok (.if_icmp .ne 7, 3) := by decide +kernel
theorem d_M_number_11 : decode b_M_number 11 = .ok (.iconst 1, 1) := by decide +kernel
theorem d_M_number_12 : decode b_M_number 12 = .ok (.goto 4, 3) := by decide +kernel
theorem d_M_number_15 : decode b_M_number 15 = .ok (.iconst 0, 1) := by decide +kernel
theorem d_M_number_16 : decode b_M_number 16 = .ok (.putfield 87, 3) := by decide +kernel
theorem d_M_number_19 : decode b_M_number 19 = .ok (.aload_n 0, 1) := by decide +kernel
theorem d_M_number_20 : decode b_M_number 20 = .ok (.getfield 87, 3) := by decide +kernel
theorem d_M_number_23 : decode b_M_number 23 = .ok (.ifCond .le 7, 3) := by decide +kernel
theorem d_M_number_26 : decode b_M_number 26 = .ok (.iconst 0, 1) := by decide +kernel
theorem d_M_number_27 : decode b_M_number 27 = .ok (.goto 13, 3) := by decide +kernel
theorem d_M_number_30 : decode b_M_number 30 = .ok (.aload_n 0, 1) := by decide +kernel
theorem d_M_number_31 : decode b_M_number 31 = .ok (.iconst 1, 1) := by decide +kernel
theorem d_M_number_32 : decode b_M_number 32 = .ok (.iconst 0, 1) := by decide +kernel
theorem d_M_number_33 : decode b_M_number 33 = .ok (.iload_n 1, 1) := by decide +kernel
theorem d_M_number_34 : decode b_M_number 34 = .ok (.iconst 0, 1) := by decide +kernel
theorem d_M_number_35 : decode b_M_number 35 = .ok (.iconst 0, 1) := by decide +kernel
theorem d_M_number_36 : decode b_M_number 36 = .ok (.iconst 1, 1) := by decide +kernel
theorem d_M_number_37 : decode b_M_number 37 = .ok (.invokevirtual 100, 3) := by decide +kernel
theorem d_M_number_40 : decode b_M_number 40 = .ok (.ireturn, 1) := by decide +kernel
theorem d_M_made_0 : decode b_M_made 0 = .ok (.iload_n 1, 1) := by decide +kernel
theorem d_M_made_1 : decode b_M_made 1 = .ok (.ifCond .lt 15, 3) := by decide +kernel
theorem d_M_made_4 : decode b_M_made 4 = .ok (.iload_n 1, 1) := by decide +kernel
theorem d_M_made_5 : decode b_M_made 5 = .ok (.aload_n 0, 1) := by decide +kernel
theorem d_M_made_6 : decode b_M_made 6 = .ok (.getfield 97, 3) := by decide +kernel
theorem d_M_made_9 : decode b_M_made 9 = .ok (.if_icmp .ge 7, 3) := by decide +kernel
theorem d_M_made_12 : decode b_M_made 12 = .ok (.iconst 1, 1) := by decide +kernel
theorem d_M_made_13 : decode b_M_made 13 = .ok (.goto 4, 3) := by decide +kernel
theorem d_M_made_16 : decode b_M_made 16 = .ok (.iconst 0, 1) := by decide +kernel
theorem d_M_made_17 : decode b_M_made 17 = .ok (.istore 4, 2) := by decide +kernel
theorem d_M_made_19 : decode b_M_made 19 = .ok (.iload 4, 2) := by decide +kernel
theorem d_M_made_21 : decode b_M_made 21 = .ok (.ifCond .eq 12, 3) := by decide +kernel
theorem d_M_made_24 : decode b_M_made 24 = .ok (.aload_n 0, 1) := by decide +kernel
theorem d_M_made_25 : decode b_M_made 25 = .ok (.getfield 17, 3) := by decide +kernel
theorem d_M_made_28 : decode b_M_made 28 = .ok (.iload_n 1, 1) := by decide +kernel
theorem d_M_made_29 : decode b_M_made 29 = .ok (.iaload, 1) := by decide +kernel
theorem d_M_made_30 : decode b_M_made 30 = .ok (.goto 4, 3) := by decide +kernel
theorem d_M_made_33 : decode b_M_made 33 = .ok (.iconst 0, 1) := by decide +kernel
theorem d_M_made_34 : decode b_M_made 34 = .ok (.istore 5, 2) := by decide +kernel
theorem d_M_made_36 : decode b_M_made 36 = .ok (.iload 4, 2) := by decide +kernel
theorem d_M_made_38 : decode b_M_made 38 = .ok (.ifCond .eq 38, 3) := by decide +kernel
theorem d_M_made_41 : decode b_M_made 41 = .ok (.iload 5, 2) := by decide +kernel
theorem d_M_made_43 : decode b_M_made 43 = .ok (.ifCond .le 33, 3) := by decide +kernel
theorem d_M_made_46 : decode b_M_made 46 = .ok (.aload_n 0, 1) := by decide +kernel
theorem d_M_made_47 : decode b_M_made 47 = .ok (.iload_n 2, 1) := by decide +kernel
theorem d_M_made_48 : decode b_M_made 48 = .ok (.invokevirtual 104, 3) := by decide +kernel
theorem d_M_made_51 : decode b_M_made 51 = .ok (.ifCond .eq 22, 3) := by decide +kernel
theorem d_M_made_54 : decode b_M_made 54 = .ok (.aload_n 0, 1) := by decide +kernel
theorem d_M_made_55 : decode b_M_made 55 = .ok (.getfield 29, 3) := by decide +kernel
theorem d_M_made_58 : decode b_M_made 58 = .ok (.iload_n 2, 1) := by decide +kernel
theorem d_M_made_59 : decode b_M_made 59 = .ok (.iaload, 1) := by decide +kernel
theorem d_M_made_60 : decode b_M_made 60 = .ok (.aload_n 0, 1) := by decide +kernel
theorem d_M_made_61 : decode b_M_made 61 = .ok (.getfield 20, 3) := by decide +kernel
theorem d_M_made_64 : decode b_M_made 64 = .ok (.iload_n 1, 1) := by decide +kernel
theorem d_M_made_65 : decode b_M_made 65 = .ok (.iaload, 1) := by decide +kernel
theorem d_M_made_66 : decode b_M_made 66 = .ok (.if_icmp .ne 7, 3) := by decide +kernel
theorem d_M_made_69 : decode b_M_made 69 = .ok (.iconst 1, 1) := by decide +kernel
theorem d_M_made_70 : decode b_M_made 70 = .ok (.goto 4, 3) := by decide +kernel
theorem d_M_made_73 : decode b_M_made 73 = .ok (.iconst 0, 1) := by decide +kernel
theorem d_M_made_74 : decode b_M_made 74 = .ok (.istore 4, 2) := by decide +kernel
theorem d_M_made_76 : decode b_M_made 76 = .ok (.iload 4, 2) := by decide +kernel
theorem d_M_made_78 : decode b_M_made 78 = .ok (.ifCond .eq 39, 3) := by decide +kernel
theorem d_M_made_81 : decode b_M_made 81 = .ok (.iload 5, 2) := by decide +kernel
theorem d_M_made_83 : decode b_M_made 83 = .ok (.iconst 1, 1) := by decide +kernel
theorem d_M_made_84 : decode b_M_made 84 = .ok (.if_icmp .le 33, 3) := by decide +kernel
theorem d_M_made_87 : decode b_M_made 87 = .ok (.aload_n 0, 1) := by decide +kernel
theorem d_M_made_88 : decode b_M_made 88 = .ok (.iload_n 3, 1) := by decide +kernel
theorem d_M_made_89 : decode b_M_made 89 = .ok (.invokevirtual 104, 3) := by decide +kernel
theorem d_M_made_92 : decode b_M_made 92 = .ok (.ifCond .eq 22, 3) := by decide +kernel
theorem d_M_made_95 : decode b_M_made 95 = .ok (.aload_n 0, 1) := by decide +kernel
theorem d_M_made_96 : decode b_M_made 96 = .ok (.getfield 29, 3) := by decide +kernel
theorem d_M_made_99 : decode b_M_made 99 = .ok (.iload_n 3, 1) := by decide +kernel
theorem d_M_made_100 : decode b_M_made 100 = .ok (.iaload, 1) := by decide +kernel
theorem d_M_made_101 : decode b_M_made 101 = .ok (.aload_n 0, 1) := by decide +kernel
theorem d_M_made_102 : decode b_M_made 102 = .ok (.getfield 23, 3) := by decide +kernel
theorem d_M_made_105 : decode b_M_made 105 = .ok (.iload_n 1, 1) := by decide +kernel
theorem d_M_made_106 : decode b_M_made 106 = .ok (.iaload, 1) := by decide +kernel
theorem d_M_made_107 : decode b_M_made 107 = .ok (.if_icmp .ne 7, 3) := by decide +kernel
theorem d_M_made_110 : decode b_M_made 110 = .ok (.iconst 1, 1) := by decide +kernel
theorem d_M_made_111 : decode b_M_made 111 = .ok (.goto 4, 3) := by decide +kernel
theorem d_M_made_114 : decode b_M_made 114 = .ok (.iconst 0, 1) := by decide +kernel
theorem d_M_made_115 : decode b_M_made 115 = .ok (.istore 4, 2) := by decide +kernel
theorem d_M_made_117 : decode b_M_made 117 = .ok (.iload 4, 2) := by decide +kernel
theorem d_M_made_119 : decode b_M_made 119 = .ok (.ifCond .ne 7, 3) := by decide +kernel
theorem d_M_made_122 : decode b_M_made 122 = .ok (.iconst 0, 1) := by decide +kernel
theorem d_M_made_123 : decode b_M_made 123 = .ok (.goto 37, 3) := by decide +kernel
theorem d_M_made_126 : decode b_M_made 126 = .ok (.iconst 1, 1) := by decide +kernel
theorem d_M_made_127 : decode b_M_made 127 = .ok (.iload 5, 2) := by decide +kernel
theorem d_M_made_129 : decode b_M_made 129 = .ok (.ifCond .le 12, 3) := by decide +kernel
theorem d_M_made_132 : decode b_M_made 132 = .ok (.aload_n 0, 1) := by decide +kernel
theorem d_M_made_133 : decode b_M_made 133 = .ok (.getfield 41, 3) := by decide +kernel
theorem d_M_made_136 : decode b_M_made 136 = .ok (.iload_n 2, 1) := by decide +kernel
theorem d_M_made_137 : decode b_M_made 137 = .ok (.iaload, 1) := by decide +kernel
theorem d_M_made_138 : decode b_M_made 138 = .ok (.goto 4, 3) := by decide +kernel
theorem d_M_made_141 : decode b_M_made 141 = .ok (.iconst 0, 1) := by decide +kernel
theorem d_M_made_142 : decode b_M_made 142 = .ok (.iadd, 1) := by decide +kernel
theorem d_M_made_143 : decode b_M_made 143 = .ok (.iload 5, 2) := by decide +kernel
theorem d_M_made_145 : decode b_M_made 145 = .ok (.iconst 1, 1) := by decide +kernel
theorem d_M_made_146 : decode b_M_made 146 = .ok (.if_icmp .le 12, 3) := by decide +kernel
theorem d_M_made_149 : decode b_M_made 149 = .ok (.aload_n 0, 1) := by decide +kernel
theorem d_M_made_150 : decode b_M_made 150 = .ok (.getfield 41, 3) := by decide +kernel
theorem d_M_made_153 : decode b_M_made 153 = .ok (.iload_n 3, 1) := by decide +kernel
theorem d_M_made_154 : decode b_M_made 154 = .ok (.iaload, 1) := by decide +kernel
theorem d_M_made_155 : decode b_M_made 155 = .ok (.goto 4, 3) := by decide +kernel
theorem d_M_made_158 : decode b_M_made 158 = .ok (.iconst 0, 1) := by decide +kernel
theorem d_M_made_159 : decode b_M_made 159 = .ok (.iadd, 1) := by decide +kernel
theorem d_M_made_160 : decode b_M_made 160 = .ok (.istore 6, 2) := by decide +kernel
theorem d_M_made_162 : decode b_M_made 162 = .ok (.aload_n 0, 1) := by decide +kernel
theorem d_M_made_163 : decode b_M_made 163 = .ok (.iload 4, 2) := by decide +kernel
theorem d_M_made_165 : decode b_M_made 165 = .ok (.ifCond .ne 7, 3) := by decide +kernel
theorem d_M_made_168 : decode b_M_made 168 = .ok (.iconst 1, 1) := by decide +kernel
theorem d_M_made_169 : decode b_M_made 169 = .ok (.goto 25, 3) := by decide +kernel
theorem d_M_made_172 : decode b_M_made 172 = .ok (.aload_n 0, 1) := by decide +kernel
theorem d_M_made_173 : decode b_M_made 173 = .ok (.getfield 90, 3) := by decide +kernel
theorem d_M_made_176 : decode b_M_made 176 = .ok (.sipush 200, 3) := by decide +kernel
theorem d_M_made_179 : decode b_M_made 179 = .ok (.if_icmp .eq 10, 3) := by decide +kernel
theorem d_M_made_182 : decode b_M_made 182 = .ok (.iload 6, 2) := by decide +kernel
theorem d_M_made_184 : decode b_M_made 184 = .ok (.bipush 12, 2) := by decide +kernel
theorem d_M_made_186 : decode b_M_made 186 = .ok (.if_icmp .le 7, 3) := by decide +kernel
theorem d_M_made_189 : decode b_M_made 189 = .ok (.iconst 2, 1) := by decide +kernel
theorem d_M_made_190 : decode b_M_made 190 = .ok (.goto 4, 3) := by decide +kernel
theorem d_M_made_193 : decode b_M_made 193 = .ok (.iconst 0, 1) := by decide +kernel
theorem d_M_made_194 : decode b_M_made 194 = .ok (.putfield 87, 3) := by decide +kernel
theorem d_M_made_197 : decode b_M_made 197 = .ok (.aload_n 0, 1) := by decide +kernel
theorem d_M_made_198 : decode b_M_made 198 = .ok (.getfield 87, 3) := by decide +kernel
theorem d_M_made_201 : decode b_M_made 201 = .ok (.ifCond .le 7, 3) := by decide +kernel
theorem d_M_made_204 : decode b_M_made 204 = .ok (.iconst 0, 1) := by decide +kernel
theorem d_M_made_205 : decode b_M_made 205 = .ok (.goto 19, 3) := by decide +kernel
theorem d_M_made_208 : decode b_M_made 208 = .ok (.aload_n 0, 1) := by decide +kernel
theorem d_M_made_209 : decode b_M_made 209 = .ok (.iconst 2, 1) := by decide +kernel
theorem d_M_made_210 : decode b_M_made 210 = .ok (.aload_n 0, 1) := by decide +kernel
theorem d_M_made_211 : decode b_M_made 211 = .ok (.getfield 13, 3) := by decide +kernel
theorem d_M_made_214 : decode b_M_made 214 = .ok (.iload_n 1, 1) := by decide +kernel
theorem d_M_made_215 : decode b_M_made 215 = .ok (.iaload, 1) := by decide +kernel
theorem d_M_made_216 : decode b_M_made 216 = .ok (.iload_n 1, 1) := by decide +kernel
theorem d_M_made_217 : decode b_M_made 217 = .ok (.iload_n 2, 1) := by decide +kernel
theorem d_M_made_218 : decode b_M_made 218 = .ok (.iload_n 3, 1) := by decide +kernel
theorem d_M_made_219 : decode b_M_made 219 = .ok (.iload 6, 2) := by decide +kernel
theorem d_M_made_221 : decode b_M_made 221 = .ok (.invokevirtual 100, 3) := by decide +kernel
theorem d_M_made_224 : decode b_M_made 224 = .ok (.ireturn, 1) := by decide +kernel
theorem d_M_isPattern_0 : decode b_M_isPattern 0 = .ok (.iload_n 1, 1) := by decide +kernel
theorem d_M_isPattern_1 : decode b_M_isPattern 1 = .ok (.ifCond .lt 15, 3) := by decide +kernel
theorem d_M_isPattern_4 : decode b_M_isPattern 4 = .ok (.iload_n 1, 1) := by decide +kernel
theorem d_M_isPattern_5 : decode b_M_isPattern 5 = .ok (.aload_n 0, 1) := by decide +kernel
theorem d_M_isPattern_6 : decode b_M_isPattern 6 = .ok (.getfield 90, 3) := by decide +kernel
theorem d_M_isPattern_9 : decode b_M_isPattern 9 = .ok (.if_icmp .ge 7, 3) := by decide +kernel
theorem d_M_isPattern_12 : decode b_M_isPattern 12 = .ok (.iconst 1, 1) := by decide +kernel
theorem d_M_isPattern_13 : decode b_M_isPattern 13 = .ok (.goto 4, 3) := by decide +kernel
theorem d_M_isPattern_16 : decode b_M_isPattern 16 = .ok (.iconst 0, 1) := by decide +kernel
theorem d_M_isPattern_17 : decode b_M_isPattern 17 = .ok (.ireturn, 1) := by decide +kernel
theorem d_M_begin_0 : decode b_M_begin 0 = .ok (.aload_n 0, 1) := by decide +kernel
theorem d_M_begin_1 : decode b_M_begin 1 = .ok (.aload_n 0, 1) := by decide +kernel
theorem d_M_begin_2 : decode b_M_begin 2 = .ok (.iload_n 1, 1) := by decide +kernel
theorem d_M_begin_3 : decode b_M_begin 3 = .ok (.invokevirtual 93, 3) := by decide +kernel
theorem d_M_begin_6 : decode b_M_begin 6 = .ok (.ifCond .eq 7, 3) := by decide +kernel
theorem d_M_begin_9 : decode b_M_begin 9 = .ok (.iconst 0, 1) := by decide +kernel
theorem d_M_begin_10 : decode b_M_begin 10 = .ok (.goto 4, 3) := by decide +kernel
theorem d_M_begin_13 : decode b_M_begin 13 = .ok (.iconst 1, 1) := by decide +kernel
theorem d_M_begin_14 : decode b_M_begin 14 = .ok (.putfield 87, 3) := by decide +kernel
theorem d_M_begin_17 : decode b_M_begin 17 = .ok (.aload_n 0, 1) := by decide +kernel
theorem d_M_begin_18 : decode b_M_begin 18 = .ok (.getfield 87, 3) := by decide +kernel
theorem d_M_begin_21 : decode b_M_begin 21 = .ok (.ifCond .le 4, 3) := by decide +kernel
theorem d_M_begin_24 : decode b_M_begin 24 = .ok (.return_, 1) := by decide +kernel
theorem d_M_begin_25 : decode b_M_begin 25 = .ok (.aload_n 0, 1) := by decide +kernel
theorem d_M_begin_26 : decode b_M_begin 26 = .ok (.iconst 0, 1) := by decide +kernel
theorem d_M_begin_27 : decode b_M_begin 27 = .ok (.putfield 107, 3) := by decide +kernel
theorem d_M_begin_30 : decode b_M_begin 30 = .ok (.aload_n 0, 1) := by decide +kernel
theorem d_M_begin_31 : decode b_M_begin 31 = .ok (.iload_n 1, 1) := by decide +kernel
theorem d_M_begin_32 : decode b_M_begin 32 = .ok (.putfield 110, 3) := by decide +kernel
theorem d_M_begin_35 : decode b_M_begin 35 = .ok (.return_, 1) := by decide +kernel
theorem d_M_clause_0 : decode b_M_clause 0 = .ok (.aload_n 0, 1) := by decide +kernel
theorem d_M_clause_1 : decode b_M_clause 1 = .ok (.iload_n 1, 1) := by decide +kernel
theorem d_M_clause_2 : decode b_M_clause 2 = .ok (.invokevirtual 104, 3) := by decide +kernel
theorem d_M_clause_5 : decode b_M_clause 5 = .ok (.ifCond .eq 20, 3) := by decide +kernel
theorem d_M_clause_8 : decode b_M_clause 8 = .ok (.aload_n 0, 1) := by decide +kernel
theorem d_M_clause_9 : decode b_M_clause 9 = .ok (.getfield 29, 3) := by decide +kernel
theorem d_M_clause_12 : decode b_M_clause 12 = .ok (.iload_n 1, 1) := by decide +kernel
theorem d_M_clause_13 : decode b_M_clause 13 = .ok (.iaload, 1) := by decide +kernel
theorem d_M_clause_14 : decode b_M_clause 14 = .ok (.aload_n 0, 1) := by decide +kernel
theorem d_M_clause_15 : decode b_M_clause 15 = .ok (.getfield 110, 3) := by decide +kernel
theorem d_M_clause_18 : decode b_M_clause 18 = .ok (.if_icmp .ne 7, 3) := by decide +kernel
theorem d_M_clause_21 : decode b_M_clause 21 = .ok (.iconst 1, 1) := by decide +kernel
theorem d_M_clause_22 : decode b_M_clause 22 = .ok (.goto 4, 3) := by decide +kernel
theorem d_M_clause_25 : decode b_M_clause 25 = .ok (.iconst 0, 1) := by decide +kernel
theorem d_M_clause_26 : decode b_M_clause 26 = .ok (.istore_n 2, 1) := by decide +kernel
theorem d_M_clause_27 : decode b_M_clause 27 = .ok (.iload_n 2, 1) := by decide +kernel
theorem d_M_clause_28 : decode b_M_clause 28 = .ok (.ifCond .eq 12, 3) := by decide +kernel
theorem d_M_clause_31 : decode b_M_clause 31 = .ok (.aload_n 0, 1) := by decide +kernel
theorem d_M_clause_32 : decode b_M_clause 32 = .ok (.getfield 41, 3) := by decide +kernel
theorem d_M_clause_35 : decode b_M_clause 35 = .ok (.iload_n 1, 1) := by decide +kernel
theorem d_M_clause_36 : decode b_M_clause 36 = .ok (.iaload, 1) := by decide +kernel
theorem d_M_clause_37 : decode b_M_clause 37 = .ok (.goto 4, 3) := by decide +kernel
theorem d_M_clause_40 : decode b_M_clause 40 = .ok (.iconst 0, 1) := by decide +kernel
theorem d_M_clause_41 : decode b_M_clause 41 = .ok (.istore_n 3, 1) := by decide +kernel
theorem d_M_clause_42 : decode b_M_clause 42 = .ok (.iconst 0, 1) := by decide +kernel
theorem d_M_clause_43 : decode b_M_clause 43 = .ok (.istore 4, 2) := by decide +kernel
theorem d_M_clause_45 : decode b_M_clause 45 = .ok (.iload 4, 2) := by decide +kernel
theorem d_M_clause_47 : decode b_M_clause 47 = .ok (.aload_n 0, 1) := by decide +kernel
theorem d_M_clause_48 : decode b_M_clause 48 = .ok (.getfield 107, 3) := by decide +kernel
theorem d_M_clause_51 : decode b_M_clause 51 = .ok (.if_icmp .ge 24, 3) := by decide +kernel
theorem d_M_clause_54 : decode b_M_clause 54 = .ok (.iload_n 3, 1) := by decide +kernel
theorem d_M_clause_55 : decode b_M_clause 55 = .ok (.aload_n 0, 1) := by decide +kernel
theorem d_M_clause_56 : decode b_M_clause 56 = .ok (.getfield 41, 3) := by decide +kernel
theorem d_M_clause_59 : decode b_M_clause 59 = .ok (.aload_n 0, 1) := by decide +kernel
theorem d_M_clause_60 : decode b_M_clause 60 = .ok (.getfield 44, 3) := by decide +kernel
theorem d_M_clause_63 : decode b_M_clause 63 = .ok (.iload 4, 2) := by decide +kernel
theorem d_M_clause_65 : decode b_M_clause 65 = .ok (.iaload, 1) := by decide +kernel
theorem d_M_clause_66 : decode b_M_clause 66 = .ok (.iaload, 1) := by decide +kernel
theorem d_M_clause_67 : decode b_M_clause 67 = .ok (.iadd, 1) := by decide +kernel
theorem d_M_clause_68 : decode b_M_clause 68 = .ok (.istore_n 3, 1) := by decide +kernel
theorem d_M_clause_69 : decode b_M_clause 69 = .ok (.iinc 4 1, 3) := by decide +kernel
theorem d_M_clause_72 : decode b_M_clause 72 = .ok (.goto (-27), 3) := by decide +kernel
theorem d_M_clause_75 : decode b_M_clause 75 = .ok (.aload_n 0, 1) := by decide +kernel
theorem d_M_clause_76 : decode b_M_clause 76 = .ok (.iload_n 2, 1) := by decide +kernel
theorem d_M_clause_77 : decode b_M_clause 77 = .ok (.ifCond .ne 7, 3) := by decide +kernel
theorem d_M_clause_80 : decode b_M_clause 80 = .ok (.iconst 1, 1) := by decide +kernel
theorem d_M_clause_81 : decode b_M_clause 81 = .ok (.goto 23, 3) := by decide +kernel
theorem d_M_clause_84 : decode b_M_clause 84 = .ok (.aload_n 0, 1) := by decide +kernel
theorem d_M_clause_85 : decode b_M_clause 85 = .ok (.getfield 107, 3) := by decide +kernel
theorem d_M_clause_88 : decode b_M_clause 88 = .ok (.bipush 8, 2) := by decide +kernel
theorem d_M_clause_90 : decode b_M_clause 90 = .ok (.if_icmp .eq 9, 3) := by decide +kernel
theorem d_M_clause_93 : decode b_M_clause 93 = .ok (.iload_n 3, 1) := by decide +kernel
theorem d_M_clause_94 : decode b_M_clause 94 = .ok (.bipush 40, 2) := by decide +kernel
theorem d_M_clause_96 : decode b_M_clause 96 = .ok (.if_icmp .le 7, 3) := by decide +kernel
theorem d_M_clause_99 : decode b_M_clause 99 = .ok (.iconst 2, 1) := by decide +kernel
theorem d_M_clause_100 : decode b_M_clause 100 = .ok (.goto 4, 3) := by decide +kernel
theorem d_M_clause_103 : decode b_M_clause 103 = .ok (.iconst 0, 1) := by decide +kernel
theorem d_M_clause_104 : decode b_M_clause 104 = .ok (.putfield 87, 3) := by decide +kernel
theorem d_M_clause_107 : decode b_M_clause 107 = .ok (.aload_n 0, 1) := by decide +kernel
theorem d_M_clause_108 : decode b_M_clause 108 = .ok (.getfield 87, 3) := by decide +kernel
theorem d_M_clause_111 : decode b_M_clause 111 = .ok (.ifCond .le 5, 3) := by decide +kernel
theorem d_M_clause_114 : decode b_M_clause 114 = .ok (.iconst 0, 1) := by decide +kernel
theorem d_M_clause_115 : decode b_M_clause 115 = .ok (.ireturn, 1) := by decide +kernel
theorem d_M_clause_116 : decode b_M_clause 116 = .ok (.aload_n 0, 1) := by decide +kernel
theorem d_M_clause_117 : decode b_M_clause 117 = .ok (.getfield 44, 3) := by decide +kernel
theorem d_M_clause_120 : decode b_M_clause 120 = .ok (.aload_n 0, 1) := by decide +kernel
theorem d_M_clause_121 : decode b_M_clause 121 = .ok (.getfield 107, 3) := by decide +kernel
theorem d_M_clause_124 : decode b_M_clause 124 = .ok (.iload_n 1, 1) := by decide +kernel
theorem d_M_clause_125 : decode b_M_clause 125 = .ok (.iastore, 1) := by decide +kernel
theorem d_M_clause_126 : decode b_M_clause 126 = .ok (.aload_n 0, 1) := by decide +kernel
theorem d_M_clause_127 : decode b_M_clause 127 = .ok (.dup, 1) := by decide +kernel
theorem d_M_clause_128 : decode b_M_clause 128 = .ok (.getfield 107, 3) := by decide +kernel
theorem d_M_clause_131 : decode b_M_clause 131 = .ok (.iconst 1, 1) := by decide +kernel
theorem d_M_clause_132 : decode b_M_clause 132 = .ok (.iadd, 1) := by decide +kernel
theorem d_M_clause_133 : decode b_M_clause 133 = .ok (.putfield 107, 3) := by decide +kernel
theorem d_M_clause_136 : decode b_M_clause 136 = .ok (.aload_n 0, 1) := by decide +kernel
theorem d_M_clause_137 : decode b_M_clause 137 = .ok (.aload_n 0, 1) := by decide +kernel
theorem d_M_clause_138 : decode b_M_clause 138 = .ok (.getfield 107, 3) := by decide +kernel
theorem d_M_clause_141 : decode b_M_clause 141 = .ok (.iconst 1, 1) := by decide +kernel
theorem d_M_clause_142 : decode b_M_clause 142 = .ok (.isub, 1) := by decide +kernel
theorem d_M_clause_143 : decode b_M_clause 143 = .ok (.invokevirtual 165, 3) := by decide +kernel
theorem d_M_clause_146 : decode b_M_clause 146 = .ok (.ireturn, 1) := by decide +kernel
theorem d_M_reaches_0 : decode b_M_reaches 0 = .ok (.aload_n 0, 1) := by decide +kernel
theorem d_M_reaches_1 : decode b_M_reaches 1 = .ok (.iconst 1, 1) := by decide +kernel
theorem d_M_reaches_2 : decode b_M_reaches 2 = .ok (.putfield 143, 3) := by decide +kernel
theorem d_M_reaches_5 : decode b_M_reaches 5 = .ok (.aload_n 0, 1) := by decide +kernel
theorem d_M_reaches_6 : decode b_M_reaches 6 = .ok (.getfield 78, 3) := by decide +kernel
theorem d_M_reaches_9 : decode b_M_reaches 9 = .ok (.iconst 0, 1) := by decide +kernel
theorem d_M_reaches_10 : decode b_M_reaches 10 = .ok (.aload_n 0, 1) := by decide +kernel
theorem d_M_reaches_11 : decode b_M_reaches 11 = .ok (.getfield 44, 3) := by decide +kernel
theorem d_M_reaches_14 : decode b_M_reaches 14 = .ok (.iload_n 1, 1) := by decide +kernel
theorem d_M_reaches_15 : decode b_M_reaches 15 = .ok (.iaload, 1) := by decide +kernel
theorem d_M_reaches_16 : decode b_M_reaches 16 = .ok (.iastore, 1) := by decide +kernel
theorem d_M_reaches_17 : decode b_M_reaches 17 = .ok (.aload_n 0, 1) := by decide +kernel
theorem d_M_reaches_18 : decode b_M_reaches 18 = .ok (.iload_n 1, 1) := by decide +kernel
theorem d_M_reaches_19 : decode b_M_reaches 19 = .ok (.putfield 146, 3) := by decide +kernel
theorem d_M_reaches_22 : decode b_M_reaches 22 = .ok (.iconst 0, 1) := by decide +kernel
theorem d_M_reaches_23 : decode b_M_reaches 23 = .ok (.istore_n 2, 1) := by decide +kernel
theorem d_M_reaches_24 : decode b_M_reaches 24 = .ok (.iload_n 2, 1) := by decide +kernel
theorem d_M_reaches_25 : decode b_M_reaches 25 = .ok (.iload_n 1, 1) := by decide +kernel
theorem d_M_reaches_26 : decode b_M_reaches 26 = .ok (.if_icmp .ge 21, 3) := by decide +kernel
theorem d_M_reaches_29 : decode b_M_reaches 29 = .ok (.aload_n 0, 1) := by decide +kernel
theorem d_M_reaches_30 : decode b_M_reaches 30 = .ok (.getfield 81, 3) := by decide +kernel
theorem d_M_reaches_33 : decode b_M_reaches 33 = .ok (.iload_n 2, 1) := by decide +kernel
theorem d_M_reaches_34 : decode b_M_reaches 34 = .ok (.aload_n 0, 1) := by decide +kernel
theorem d_M_reaches_35 : decode b_M_reaches 35 = .ok (.getfield 44, 3) := by decide +kernel
theorem d_M_reaches_38 : decode b_M_reaches 38 = .ok (.iload_n 2, 1) := by decide +kernel
theorem d_M_reaches_39 : decode b_M_reaches 39 = .ok (.iaload, 1) := by decide +kernel
theorem d_M_reaches_40 : decode b_M_reaches 40 = .ok (.iastore, 1) := by decide +kernel
theorem d_M_reaches_41 : decode b_M_reaches 41 = .ok (.iinc 2 1, 3) := by decide +kernel
theorem d_M_reaches_44 : decode b_M_reaches 44 = .ok (.goto (-20), 3) := by decide +kernel
theorem d_M_reaches_47 : decode b_M_reaches 47 = .ok (.aload_n 0, 1) := by decide +kernel
theorem d_M_reaches_48 : decode b_M_reaches 48 = .ok (.aload_n 0, 1) := by decide +kernel
theorem d_M_reaches_49 : decode b_M_reaches 49 = .ok (.getfield 110, 3) := by decide +kernel
theorem d_M_reaches_52 : decode b_M_reaches 52 = .ok (.invokevirtual 162, 3) := by decide +kernel
theorem d_M_reaches_55 : decode b_M_reaches 55 = .ok (.ireturn, 1) := by decide +kernel
theorem d_M_has_0 : decode b_M_has 0 = .ok (.aload_n 0, 1) := by decide +kernel
theorem d_M_has_1 : decode b_M_has 1 = .ok (.invokevirtual 153, 3) := by decide +kernel
theorem d_M_has_4 : decode b_M_has 4 = .ok (.aload_n 0, 1) := by decide +kernel
theorem d_M_has_5 : decode b_M_has 5 = .ok (.getfield 47, 3) := by decide +kernel
theorem d_M_has_8 : decode b_M_has 8 = .ok (.iload_n 1, 1) := by decide +kernel
theorem d_M_has_9 : decode b_M_has 9 = .ok (.baload, 1) := by decide +kernel
theorem d_M_has_10 : decode b_M_has 10 = .ok (.ifCond .ne 5, 3) := by decide +kernel
theorem d_M_has_13 : decode b_M_has 13 = .ok (.iconst 0, 1) := by decide +kernel
theorem d_M_has_14 : decode b_M_has 14 = .ok (.ireturn, 1) := by decide +kernel
theorem d_M_has_15 : decode b_M_has 15 = .ok (.aload_n 0, 1) := by decide +kernel
theorem d_M_has_16 : decode b_M_has 16 = .ok (.iconst 0, 1) := by decide +kernel
theorem d_M_has_17 : decode b_M_has 17 = .ok (.putfield 119, 3) := by decide +kernel
theorem d_M_has_20 : decode b_M_has 20 = .ok (.iconst 0, 1) := by decide +kernel
theorem d_M_has_21 : decode b_M_has 21 = .ok (.istore_n 2, 1) := by decide +kernel
theorem d_M_has_22 : decode b_M_has 22 = .ok (.iload_n 2, 1) := by decide +kernel
theorem d_M_has_23 : decode b_M_has 23 = .ok (.aload_n 0, 1) := by decide +kernel
theorem d_M_has_24 : decode b_M_has 24 = .ok (.getfield 97, 3) := by decide +kernel
theorem d_M_has_27 : decode b_M_has 27 = .ok (.if_icmp .ge 16, 3) := by decide +kernel
theorem d_M_has_30 : decode b_M_has 30 = .ok (.aload_n 0, 1) := by decide +kernel
theorem d_M_has_31 : decode b_M_has 31 = .ok (.getfield 75, 3) := by decide +kernel
theorem d_M_has_34 : decode b_M_has 34 = .ok (.iload_n 2, 1) := by decide +kernel
theorem d_M_has_35 : decode b_M_has 35 = .ok (.iconst 0, 1) := by decide +kernel
theorem d_M_has_36 : decode b_M_has 36 = .ok (.bastore, 1) := by decide +kernel
theorem d_M_has_37 : decode b_M_has 37 = .ok (.iinc 2 1, 3) := by decide +kernel
theorem d_M_has_40 : decode b_M_has 40 = .ok (.goto (-18), 3) := by decide +kernel
theorem d_M_has_43 : decode b_M_has 43 = .ok (.iconst 0, 1) := by decide +kernel
theorem d_M_has_44 : decode b_M_has 44 = .ok (.istore_n 2, 1) := by decide +kernel
theorem d_M_has_45 : decode b_M_has 45 = .ok (.iload_n 2, 1) := by decide +kernel
theorem d_M_has_46 : decode b_M_has 46 = .ok (.aload_n 0, 1) := by decide +kernel
theorem d_M_has_47 : decode b_M_has 47 = .ok (.getfield 143, 3) := by decide +kernel
theorem d_M_has_50 : decode b_M_has 50 = .ok (.if_icmp .ge 19, 3) := by decide +kernel
theorem d_M_has_53 : decode b_M_has 53 = .ok (.aload_n 0, 1) := by decide +kernel
theorem d_M_has_54 : decode b_M_has 54 = .ok (.aload_n 0, 1) := by decide +kernel
theorem d_M_has_55 : decode b_M_has 55 = .ok (.getfield 78, 3) := by decide +kernel
theorem d_M_has_58 : decode b_M_has 58 = .ok (.iload_n 2, 1) := by decide +kernel
theorem d_M_has_59 : decode b_M_has 59 = .ok (.iaload, 1) := by decide +kernel
theorem d_M_has_60 : decode b_M_has 60 = .ok (.invokevirtual 149, 3) := by decide +kernel
theorem d_M_has_63 : decode b_M_has 63 = .ok (.iinc 2 1, 3) := by decide +kernel
theorem d_M_has_66 : decode b_M_has 66 = .ok (.goto (-21), 3) := by decide +kernel
theorem d_M_has_69 : decode b_M_has 69 = .ok (.iconst 0, 1) := by decide +kernel
theorem d_M_has_70 : decode b_M_has 70 = .ok (.istore_n 2, 1) := by decide +kernel
theorem d_M_has_71 : decode b_M_has 71 = .ok (.iload_n 2, 1) := by decide +kernel
theorem d_M_has_72 : decode b_M_has 72 = .ok (.aload_n 0, 1) := by decide +kernel
theorem d_M_has_73 : decode b_M_has 73 = .ok (.getfield 146, 3) := by decide +kernel
theorem d_M_has_76 : decode b_M_has 76 = .ok (.if_icmp .ge 19, 3) := by decide +kernel
theorem d_M_has_79 : decode b_M_has 79 = .ok (.aload_n 0, 1) := by decide +kernel
theorem d_M_has_80 : decode b_M_has 80 = .ok (.aload_n 0, 1) := by decide +kernel
theorem d_M_has_81 : decode b_M_has 81 = .ok (.getfield 81, 3) := by decide +kernel
theorem d_M_has_84 : decode b_M_has 84 = .ok (.iload_n 2, 1) := by decide +kernel
theorem d_M_has_85 : decode b_M_has 85 = .ok (.iaload, 1) := by decide +kernel
theorem d_M_has_86 : decode b_M_has 86 = .ok (.invokevirtual 149, 3) := by decide +kernel
theorem d_M_has_89 : decode b_M_has 89 = .ok (.iinc 2 1, 3) := by decide +kernel
theorem d_M_has_92 : decode b_M_has 92 = .ok (.goto (-21), 3) := by decide +kernel
theorem d_M_has_95 : decode b_M_has 95 = .ok (.aload_n 0, 1) := by decide +kernel
theorem d_M_has_96 : decode b_M_has 96 = .ok (.iconst 0, 1) := by decide +kernel
theorem d_M_has_97 : decode b_M_has 97 = .ok (.putfield 136, 3) := by decide +kernel
theorem d_M_has_100 : decode b_M_has 100 = .ok (.aload_n 0, 1) := by decide +kernel
theorem d_M_has_101 : decode b_M_has 101 = .ok (.iload_n 1, 1) := by decide +kernel
theorem d_M_has_102 : decode b_M_has 102 = .ok (.invokevirtual 156, 3) := by decide +kernel
theorem d_M_has_105 : decode b_M_has 105 = .ok (.istore_n 2, 1) := by decide +kernel
theorem d_M_has_106 : decode b_M_has 106 = .ok (.iload_n 2, 1) := by decide +kernel
theorem d_M_has_107 : decode b_M_has 107 = .ok (.iconst 1, 1) := by decide +kernel
theorem d_M_has_108 : decode b_M_has 108 = .ok (.if_icmp .ne 5, 3) := by decide +kernel
theorem d_M_has_111 : decode b_M_has 111 = .ok (.iconst 1, 1) := by decide +kernel
theorem d_M_has_112 : decode b_M_has 112 = .ok (.ireturn, 1) := by decide +kernel
theorem d_M_has_113 : decode b_M_has 113 = .ok (.iload_n 2, 1) := by decide +kernel
theorem d_M_has_114 : decode b_M_has 114 = .ok (.iconst 2, 1) := by decide +kernel
theorem d_M_has_115 : decode b_M_has 115 = .ok (.if_icmp .ne 61, 3) := by decide +kernel
theorem d_M_has_118 : decode b_M_has 118 = .ok (.aload_n 0, 1) := by decide +kernel
theorem d_M_has_119 : decode b_M_has 119 = .ok (.getfield 66, 3) := by decide +kernel
theorem d_M_has_122 : decode b_M_has 122 = .ok (.aload_n 0, 1) := by decide +kernel
theorem d_M_has_123 : decode b_M_has 123 = .ok (.getfield 136, 3) := by decide +kernel
theorem d_M_has_126 : decode b_M_has 126 = .ok (.aload_n 0, 1) := by decide +kernel
theorem d_M_has_127 : decode b_M_has 127 = .ok (.getfield 129, 3) := by decide +kernel
theorem d_M_has_130 : decode b_M_has 130 = .ok (.iastore, 1) := by decide +kernel
theorem d_M_has_131 : decode b_M_has 131 = .ok (.aload_n 0, 1) := by decide +kernel
theorem d_M_has_132 : decode b_M_has 132 = .ok (.getfield 69, 3) := by decide +kernel
theorem d_M_has_135 : decode b_M_has 135 = .ok (.aload_n 0, 1) := by decide +kernel
theorem d_M_has_136 : decode b_M_has 136 = .ok (.getfield 136, 3) := by decide +kernel
theorem d_M_has_139 : decode b_M_has 139 = .ok (.iconst 0, 1) := by decide +kernel
theorem d_M_has_140 : decode b_M_has 140 = .ok (.iastore, 1) := by decide +kernel
theorem d_M_has_141 : decode b_M_has 141 = .ok (.aload_n 0, 1) := by decide +kernel
theorem d_M_has_142 : decode b_M_has 142 = .ok (.getfield 72, 3) := by decide +kernel
theorem d_M_has_145 : decode b_M_has 145 = .ok (.aload_n 0, 1) := by decide +kernel
theorem d_M_has_146 : decode b_M_has 146 = .ok (.getfield 136, 3) := by decide +kernel
theorem d_M_has_149 : decode b_M_has 149 = .ok (.aload_n 0, 1) := by decide +kernel
theorem d_M_has_150 : decode b_M_has 150 = .ok (.aload_n 0, 1) := by decide +kernel
theorem d_M_has_151 : decode b_M_has 151 = .ok (.getfield 54, 3) := by decide +kernel
theorem d_M_has_154 : decode b_M_has 154 = .ok (.aload_n 0, 1) := by decide +kernel
theorem d_M_has_155 : decode b_M_has 155 = .ok (.getfield 129, 3) := by decide +kernel
theorem d_M_has_158 : decode b_M_has 158 = .ok (.iaload, 1) := by decide +kernel
theorem d_M_has_159 : decode b_M_has 159 = .ok (.invokevirtual 159, 3) := by decide +kernel
theorem d_M_has_162 : decode b_M_has 162 = .ok (.iastore, 1) := by decide +kernel
theorem d_M_has_163 : decode b_M_has 163 = .ok (.aload_n 0, 1) := by decide +kernel
theorem d_M_has_164 : decode b_M_has 164 = .ok (.dup, 1) := by decide +kernel
theorem d_M_has_165 : decode b_M_has 165 = .ok (.getfield 136, 3) := by decide +kernel
theorem d_M_has_168 : decode b_M_has 168 = .ok (.iconst 1, 1) := by decide +kernel
theorem d_M_has_169 : decode b_M_has 169 = .ok (.iadd, 1) := by decide +kernel
theorem d_M_has_170 : decode b_M_has 170 = .ok (.putfield 136, 3) := by decide +kernel
theorem d_M_has_173 : decode b_M_has 173 = .ok (.goto (-73), 3) := by decide +kernel
theorem d_M_has_176 : decode b_M_has 176 = .ok (.aload_n 0, 1) := by decide +kernel
theorem d_M_has_177 : decode b_M_has 177 = .ok (.getfield 136, 3) := by decide +kernel
theorem d_M_has_180 : decode b_M_has 180 = .ok (.ifCond .le 43, 3) := by decide +kernel
theorem d_M_has_183 : decode b_M_has 183 = .ok (.aload_n 0, 1) := by decide +kernel
theorem d_M_has_184 : decode b_M_has 184 = .ok (.getfield 69, 3) := by decide +kernel
theorem d_M_has_187 : decode b_M_has 187 = .ok (.aload_n 0, 1) := by decide +kernel
theorem d_M_has_188 : decode b_M_has 188 = .ok (.getfield 136, 3) := by decide +kernel
theorem d_M_has_191 : decode b_M_has 191 = .ok (.iconst 1, 1) := by decide +kernel
theorem d_M_has_192 : decode b_M_has 192 = .ok (.isub, 1) := by decide +kernel
theorem d_M_has_193 : decode b_M_has 193 = .ok (.iaload, 1) := by decide +kernel
theorem d_M_has_194 : decode b_M_has 194 = .ok (.iconst 1, 1) := by decide +kernel
theorem d_M_has_195 : decode b_M_has 195 = .ok (.iadd, 1) := by decide +kernel
theorem d_M_has_196 : decode b_M_has 196 = .ok (.aload_n 0, 1) := by decide +kernel
theorem d_M_has_197 : decode b_M_has 197 = .ok (.getfield 72, 3) := by decide +kernel
theorem d_M_has_200 : decode b_M_has 200 = .ok (.aload_n 0, 1) := by decide +kernel
theorem d_M_has_201 : decode b_M_has 201 = .ok (.getfield 136, 3) := by decide +kernel
theorem d_M_has_204 : decode b_M_has 204 = .ok (.iconst 1, 1) := by decide +kernel
theorem d_M_has_205 : decode b_M_has 205 = .ok (.isub, 1) := by decide +kernel
theorem d_M_has_206 : decode b_M_has 206 = .ok (.iaload, 1) := by decide +kernel
theorem d_M_has_207 : decode b_M_has 207 = .ok (.if_icmp .ne 16, 3) := by decide +kernel
theorem d_M_has_210 : decode b_M_has 210 = .ok (.aload_n 0, 1) := by decide +kernel
theorem d_M_has_211 : decode b_M_has 211 = .ok (.dup, 1) := by decide +kernel
theorem d_M_has_212 : decode b_M_has 212 = .ok (.getfield 136, 3) := by decide +kernel
theorem d_M_has_215 : decode b_M_has 215 = .ok (.iconst 1, 1) := by decide +kernel
theorem d_M_has_216 : decode b_M_has 216 = .ok (.isub, 1) := by decide +kernel
theorem d_M_has_217 : decode b_M_has 217 = .ok (.putfield 136, 3) := by decide +kernel
theorem d_M_has_220 : decode b_M_has 220 = .ok (.goto (-44), 3) := by decide +kernel
theorem d_M_has_223 : decode b_M_has 223 = .ok (.aload_n 0, 1) := by decide +kernel
theorem d_M_has_224 : decode b_M_has 224 = .ok (.getfield 136, 3) := by decide +kernel
theorem d_M_has_227 : decode b_M_has 227 = .ok (.ifCond .ne 5, 3) := by decide +kernel
theorem d_M_has_230 : decode b_M_has 230 = .ok (.iconst 0, 1) := by decide +kernel
theorem d_M_has_231 : decode b_M_has 231 = .ok (.ireturn, 1) := by decide +kernel
theorem d_M_has_232 : decode b_M_has 232 = .ok (.aload_n 0, 1) := by decide +kernel
theorem d_M_has_233 : decode b_M_has 233 = .ok (.getfield 69, 3) := by decide +kernel
theorem d_M_has_236 : decode b_M_has 236 = .ok (.aload_n 0, 1) := by decide +kernel
theorem d_M_has_237 : decode b_M_has 237 = .ok (.getfield 136, 3) := by decide +kernel
theorem d_M_has_240 : decode b_M_has 240 = .ok (.iconst 1, 1) := by decide +kernel
theorem d_M_has_241 : decode b_M_has 241 = .ok (.isub, 1) := by decide +kernel
theorem d_M_has_242 : decode b_M_has 242 = .ok (.dup2, 1) := by decide +kernel
theorem d_M_has_243 : decode b_M_has 243 = .ok (.iaload, 1) := by decide +kernel
theorem d_M_has_244 : decode b_M_has 244 = .ok (.iconst 1, 1) := by decide +kernel
theorem d_M_has_245 : decode b_M_has 245 = .ok (.iadd, 1) := by decide +kernel
theorem d_M_has_246 : decode b_M_has 246 = .ok (.iastore, 1) := by decide +kernel
theorem d_M_has_247 : decode b_M_has 247 = .ok (.goto (-147), 3) := by decide +kernel
theorem d_M_live_0 : decode b_M_live 0 = .ok (.iconst 0, 1) := by decide +kernel
theorem d_M_live_1 : decode b_M_live 1 = .ok (.istore_n 1, 1) := by decide +kernel
theorem d_M_live_2 : decode b_M_live 2 = .ok (.iload_n 1, 1) := by decide +kernel
theorem d_M_live_3 : decode b_M_live 3 = .ok (.aload_n 0, 1) := by decide +kernel
theorem d_M_live_4 : decode b_M_live 4 = .ok (.getfield 7, 3) := by decide +kernel
theorem d_M_live_7 : decode b_M_live 7 = .ok (.if_icmp .ge 16, 3) := by decide +kernel
theorem d_M_live_10 : decode b_M_live 10 = .ok (.aload_n 0, 1) := by decide +kernel
theorem d_M_live_11 : decode b_M_live 11 = .ok (.getfield 47, 3) := by decide +kernel
theorem d_M_live_14 : decode b_M_live 14 = .ok (.iload_n 1, 1) := by decide +kernel
theorem d_M_live_15 : decode b_M_live 15 = .ok (.iconst 1, 1) := by decide +kernel
theorem d_M_live_16 : decode b_M_live 16 = .ok (.bastore, 1) := by decide +kernel
theorem d_M_live_17 : decode b_M_live 17 = .ok (.iinc 1 1, 3) := by decide +kernel
theorem d_M_live_20 : decode b_M_live 20 = .ok (.goto (-18), 3) := by decide +kernel
theorem d_M_live_23 : decode b_M_live 23 = .ok (.iconst 1, 1) := by decide +kernel
theorem d_M_live_24 : decode b_M_live 24 = .ok (.istore_n 1, 1) := by decide +kernel
theorem d_M_live_25 : decode b_M_live 25 = .ok (.iload_n 1, 1) := by decide +kernel
theorem d_M_live_26 : decode b_M_live 26 = .ok (.ifCond .eq 102, 3) := by decide +kernel
theorem d_M_live_29 : decode b_M_live 29 = .ok (.iconst 0, 1) := by decide +kernel
theorem d_M_live_30 : decode b_M_live 30 = .ok (.istore_n 1, 1) := by decide +kernel
theorem d_M_live_31 : decode b_M_live 31 = .ok (.iconst 1, 1) := by decide +kernel
theorem d_M_live_32 : decode b_M_live 32 = .ok (.istore_n 2, 1) := by decide +kernel
theorem d_M_live_33 : decode b_M_live 33 = .ok (.iload_n 2, 1) := by decide +kernel
theorem d_M_live_34 : decode b_M_live 34 = .ok (.aload_n 0, 1) := by decide +kernel
theorem d_M_live_35 : decode b_M_live 35 = .ok (.getfield 7, 3) := by decide +kernel
theorem d_M_live_38 : decode b_M_live 38 = .ok (.if_icmp .ge 87, 3) := by decide +kernel
theorem d_M_live_41 : decode b_M_live 41 = .ok (.aload_n 0, 1) := by decide +kernel
theorem d_M_live_42 : decode b_M_live 42 = .ok (.getfield 47, 3) := by decide +kernel
theorem d_M_live_45 : decode b_M_live 45 = .ok (.iload_n 2, 1) := by decide +kernel
theorem d_M_live_46 : decode b_M_live 46 = .ok (.baload, 1) := by decide +kernel
theorem d_M_live_47 : decode b_M_live 47 = .ok (.ifCond .ne 6, 3) := by decide +kernel
theorem d_M_live_50 : decode b_M_live 50 = .ok (.goto 69, 3) := by decide +kernel
theorem d_M_live_53 : decode b_M_live 53 = .ok (.iconst 0, 1) := by decide +kernel
theorem d_M_live_54 : decode b_M_live 54 = .ok (.istore_n 3, 1) := by decide +kernel
theorem d_M_live_55 : decode b_M_live 55 = .ok (.iconst 0, 1) := by decide +kernel
theorem d_M_live_56 : decode b_M_live 56 = .ok (.istore 4, 2) := by decide +kernel
theorem d_M_live_58 : decode b_M_live 58 = .ok (.iload 4, 2) := by decide +kernel
theorem d_M_live_60 : decode b_M_live 60 = .ok (.aload_n 0, 1) := by decide +kernel
theorem d_M_live_61 : decode b_M_live 61 = .ok (.getfield 97, 3) := by decide +kernel
theorem d_M_live_64 : decode b_M_live 64 = .ok (.if_icmp .ge 39, 3) := by decide +kernel
theorem d_M_live_67 : decode b_M_live 67 = .ok (.iload_n 3, 1) := by decide +kernel
theorem d_M_live_68 : decode b_M_live 68 = .ok (.ifCond .ne 23, 3) := by decide +kernel
theorem d_M_live_71 : decode b_M_live 71 = .ok (.aload_n 0, 1) := by decide +kernel
theorem d_M_live_72 : decode b_M_live 72 = .ok (.getfield 13, 3) := by decide +kernel
theorem d_M_live_75 : decode b_M_live 75 = .ok (.iload 4, 2) := by decide +kernel
theorem d_M_live_77 : decode b_M_live 77 = .ok (.iaload, 1) := by decide +kernel
theorem d_M_live_78 : decode b_M_live 78 = .ok (.iload_n 2, 1) := by decide +kernel
theorem d_M_live_79 : decode b_M_live 79 = .ok (.if_icmp .ne 16, 3) := by decide +kernel
theorem d_M_live_82 : decode b_M_live 82 = .ok (.aload_n 0, 1) := by decide +kernel
theorem d_M_live_83 : decode b_M_live 83 = .ok (.iload 4, 2) := by decide +kernel
theorem d_M_live_85 : decode b_M_live 85 = .ok (.invokevirtual 113, 3) := by decide +kernel
theorem d_M_live_88 : decode b_M_live 88 = .ok (.ifCond .eq 7, 3) := by decide +kernel
theorem d_M_live_91 : decode b_M_live 91 = .ok (.iconst 1, 1) := by decide +kernel
theorem d_M_live_92 : decode b_M_live 92 = .ok (.goto 4, 3) := by decide +kernel
theorem d_M_live_95 : decode b_M_live 95 = .ok (.iconst 0, 1) := by decide +kernel
theorem d_M_live_96 : decode b_M_live 96 = .ok (.istore_n 3, 1) := by decide +kernel
theorem d_M_live_97 : decode b_M_live 97 = .ok (.iinc 4 1, 3) := by decide +kernel
theorem d_M_live_100 : decode b_M_live 100 = .ok (.goto (-42), 3) := by decide +kernel
theorem d_M_live_103 : decode b_M_live 103 = .ok (.iload_n 3, 1) := by decide +kernel
theorem d_M_live_104 : decode b_M_live 104 = .ok (.ifCond .eq 6, 3) := by decide +kernel
theorem d_M_live_107 : decode b_M_live 107 = .ok (.goto 12, 3) := by decide +kernel
theorem d_M_live_110 : decode b_M_live 110 = .ok (.aload_n 0, 1) := by decide +kernel
theorem d_M_live_111 : decode b_M_live 111 = .ok (.getfield 47, 3) := by decide +kernel
theorem d_M_live_114 : decode b_M_live 114 = .ok (.iload_n 2, 1) := by decide +kernel
theorem d_M_live_115 : decode b_M_live 115 = .ok (.iconst 0, 1) := by decide +kernel
theorem d_M_live_116 : decode b_M_live 116 = .ok (.bastore, 1) := by decide +kernel
theorem d_M_live_117 : decode b_M_live 117 = .ok (.iconst 1, 1) := by decide +kernel
theorem d_M_live_118 : decode b_M_live 118 = .ok (.istore_n 1, 1) := by decide +kernel
theorem d_M_live_119 : decode b_M_live 119 = .ok (.iinc 2 1, 3) := by decide +kernel
theorem d_M_live_122 : decode b_M_live 122 = .ok (.goto (-89), 3) := by decide +kernel
theorem d_M_live_125 : decode b_M_live 125 = .ok (.goto (-100), 3) := by decide +kernel
theorem d_M_live_128 : decode b_M_live 128 = .ok (.return_, 1) := by decide +kernel
theorem d_M_isUsed_0 : decode b_M_isUsed 0 = .ok (.aload_n 0, 1) := by decide +kernel
theorem d_M_isUsed_1 : decode b_M_isUsed 1 = .ok (.getfield 17, 3) := by decide +kernel
theorem d_M_isUsed_4 : decode b_M_isUsed 4 = .ok (.iload_n 1, 1) := by decide +kernel
theorem d_M_isUsed_5 : decode b_M_isUsed 5 = .ok (.iaload, 1) := by decide +kernel
theorem d_M_isUsed_6 : decode b_M_isUsed 6 = .ok (.iconst 1, 1) := by decide +kernel
theorem d_M_isUsed_7 : decode b_M_isUsed 7 = .ok (.if_icmp .lt 17, 3) := by decide +kernel
theorem d_M_isUsed_10 : decode b_M_isUsed 10 = .ok (.aload_n 0, 1) := by decide +kernel
theorem d_M_isUsed_11 : decode b_M_isUsed 11 = .ok (.getfield 47, 3) := by decide +kernel
theorem d_M_isUsed_14 : decode b_M_isUsed 14 = .ok (.aload_n 0, 1) := by decide +kernel
theorem d_M_isUsed_15 : decode b_M_isUsed 15 = .ok (.getfield 20, 3) := by decide +kernel
theorem d_M_isUsed_18 : decode b_M_isUsed 18 = .ok (.iload_n 1, 1) := by decide +kernel
theorem d_M_isUsed_19 : decode b_M_isUsed 19 = .ok (.iaload, 1) := by decide +kernel
theorem d_M_isUsed_20 : decode b_M_isUsed 20 = .ok (.baload, 1) := by decide +kernel
theorem d_M_isUsed_21 : decode b_M_isUsed 21 = .ok (.ifCond .eq 31, 3) := by decide +kernel
theorem d_M_isUsed_24 : decode b_M_isUsed 24 = .ok (.aload_n 0, 1) := by decide +kernel
theorem d_M_isUsed_25 : decode b_M_isUsed 25 = .ok (.getfield 17, 3) := by decide +kernel
theorem d_M_isUsed_28 : decode b_M_isUsed 28 = .ok (.iload_n 1, 1) := by decide +kernel
theorem d_M_isUsed_29 : decode b_M_isUsed 29 = .ok (.iaload, 1) := by decide +kernel
theorem d_M_isUsed_30 : decode b_M_isUsed 30 = .ok (.iconst 2, 1) := by decide +kernel
theorem d_M_isUsed_31 : decode b_M_isUsed 31 = .ok (.if_icmp .lt 17, 3) := by decide +kernel
theorem d_M_isUsed_34 : decode b_M_isUsed 34 = .ok (.aload_n 0, 1) := by decide +kernel
theorem d_M_isUsed_35 : decode b_M_isUsed 35 = .ok (.getfield 47, 3) := by decide +kernel
end
section
theorem d_M_isUsed_38 : decode b_M_isUsed 38 = .ok (.aload_n 0, 1) := by decide +kernel
theorem d_M_isUsed_39 : decode b_M_isUsed 39 = .ok (.getfield 23, 3) := by decide +kernel
theorem d_M_isUsed_42 : decode b_M_isUsed 42 = .ok (.iload_n 1, 1) := by decide +kernel
theorem d_M_isUsed_43 : decode b_M_isUsed 43 = .ok (.iaload, 1) := by decide +kernel
theorem d_M_isUsed_44 : decode b_M_isUsed 44 = .ok (.baload, 1) := by decide +kernel
theorem d_M_isUsed_45 : decode b_M_isUsed 45 = .ok (.ifCond .eq 7, 3) := by decide +kernel
theorem d_M_isUsed_48 : decode b_M_isUsed 48 = .ok (.iconst 1, 1) := by decide +kernel
theorem d_M_isUsed_49 : decode b_M_isUsed 49 = .ok (.goto 4, 3) := by decide +kernel
theorem d_M_isUsed_52 : decode b_M_isUsed 52 = .ok (.iconst 0, 1) := by decide +kernel
theorem d_M_isUsed_53 : decode b_M_isUsed 53 = .ok (.ireturn, 1) := by decide +kernel
theorem d_M_gather_0 : decode b_M_gather 0 = .ok (.aload_n 0, 1) := by decide +kernel
theorem d_M_gather_1 : decode b_M_gather 1 = .ok (.getfield 26, 3) := by decide +kernel
theorem d_M_gather_4 : decode b_M_gather 4 = .ok (.iload_n 1, 1) := by decide +kernel
theorem d_M_gather_5 : decode b_M_gather 5 = .ok (.iaload, 1) := by decide +kernel
theorem d_M_gather_6 : decode b_M_gather 6 = .ok (.iconst 1, 1) := by decide +kernel
theorem d_M_gather_7 : decode b_M_gather 7 = .ok (.if_icmp .ne 63, 3) := by decide +kernel
theorem d_M_gather_10 : decode b_M_gather 10 = .ok (.iconst 0, 1) := by decide +kernel
theorem d_M_gather_11 : decode b_M_gather 11 = .ok (.istore_n 2, 1) := by decide +kernel
theorem d_M_gather_12 : decode b_M_gather 12 = .ok (.iload_n 2, 1) := by decide +kernel
theorem d_M_gather_13 : decode b_M_gather 13 = .ok (.aload_n 0, 1) := by decide +kernel
theorem d_M_gather_14 : decode b_M_gather 14 = .ok (.getfield 119, 3) := by decide +kernel
theorem d_M_gather_17 : decode b_M_gather 17 = .ok (.if_icmp .ge 25, 3) := by decide +kernel
theorem d_M_gather_20 : decode b_M_gather 20 = .ok (.aload_n 0, 1) := by decide +kernel
theorem d_M_gather_21 : decode b_M_gather 21 = .ok (.getfield 84, 3) := by decide +kernel
theorem d_M_gather_24 : decode b_M_gather 24 = .ok (.iload_n 2, 1) := by decide +kernel
theorem d_M_gather_25 : decode b_M_gather 25 = .ok (.iaload, 1) := by decide +kernel
theorem d_M_gather_26 : decode b_M_gather 26 = .ok (.aload_n 0, 1) := by decide +kernel
theorem d_M_gather_27 : decode b_M_gather 27 = .ok (.getfield 32, 3) := by decide +kernel
theorem d_M_gather_30 : decode b_M_gather 30 = .ok (.iload_n 1, 1) := by decide +kernel
theorem d_M_gather_31 : decode b_M_gather 31 = .ok (.iaload, 1) := by decide +kernel
theorem d_M_gather_32 : decode b_M_gather 32 = .ok (.if_icmp .ne 4, 3) := by decide +kernel
theorem d_M_gather_35 : decode b_M_gather 35 = .ok (.return_, 1) := by decide +kernel
theorem d_M_gather_36 : decode b_M_gather 36 = .ok (.iinc 2 1, 3) := by decide +kernel
theorem d_M_gather_39 : decode b_M_gather 39 = .ok (.goto (-27), 3) := by decide +kernel
theorem d_M_gather_42 : decode b_M_gather 42 = .ok (.aload_n 0, 1) := by decide +kernel
theorem d_M_gather_43 : decode b_M_gather 43 = .ok (.getfield 84, 3) := by decide +kernel
theorem d_M_gather_46 : decode b_M_gather 46 = .ok (.aload_n 0, 1) := by decide +kernel
theorem d_M_gather_47 : decode b_M_gather 47 = .ok (.getfield 119, 3) := by decide +kernel
theorem d_M_gather_50 : decode b_M_gather 50 = .ok (.aload_n 0, 1) := by decide +kernel
theorem d_M_gather_51 : decode b_M_gather 51 = .ok (.getfield 32, 3) := by decide +kernel
theorem d_M_gather_54 : decode b_M_gather 54 = .ok (.iload_n 1, 1) := by decide +kernel
theorem d_M_gather_55 : decode b_M_gather 55 = .ok (.iaload, 1) := by decide +kernel
theorem d_M_gather_56 : decode b_M_gather 56 = .ok (.iastore, 1) := by decide +kernel
theorem d_M_gather_57 : decode b_M_gather 57 = .ok (.aload_n 0, 1) := by decide +kernel
theorem d_M_gather_58 : decode b_M_gather 58 = .ok (.dup, 1) := by decide +kernel
theorem d_M_gather_59 : decode b_M_gather 59 = .ok (.getfield 119, 3) := by decide +kernel
theorem d_M_gather_62 : decode b_M_gather 62 = .ok (.iconst 1, 1) := by decide +kernel
theorem d_M_gather_63 : decode b_M_gather 63 = .ok (.iadd, 1) := by decide +kernel
theorem d_M_gather_64 : decode b_M_gather 64 = .ok (.putfield 119, 3) := by decide +kernel
theorem d_M_gather_67 : decode b_M_gather 67 = .ok (.goto 74, 3) := by decide +kernel
theorem d_M_gather_70 : decode b_M_gather 70 = .ok (.aload_n 0, 1) := by decide +kernel
theorem d_M_gather_71 : decode b_M_gather 71 = .ok (.getfield 26, 3) := by decide +kernel
theorem d_M_gather_74 : decode b_M_gather 74 = .ok (.iload_n 1, 1) := by decide +kernel
theorem d_M_gather_75 : decode b_M_gather 75 = .ok (.iaload, 1) := by decide +kernel
theorem d_M_gather_76 : decode b_M_gather 76 = .ok (.iconst 2, 1) := by decide +kernel
theorem d_M_gather_77 : decode b_M_gather 77 = .ok (.if_icmp .ne 64, 3) := by decide +kernel
theorem d_M_gather_80 : decode b_M_gather 80 = .ok (.aload_n 0, 1) := by decide +kernel
theorem d_M_gather_81 : decode b_M_gather 81 = .ok (.getfield 75, 3) := by decide +kernel
theorem d_M_gather_84 : decode b_M_gather 84 = .ok (.aload_n 0, 1) := by decide +kernel
theorem d_M_gather_85 : decode b_M_gather 85 = .ok (.getfield 32, 3) := by decide +kernel
theorem d_M_gather_88 : decode b_M_gather 88 = .ok (.iload_n 1, 1) := by decide +kernel
theorem d_M_gather_89 : decode b_M_gather 89 = .ok (.iaload, 1) := by decide +kernel
theorem d_M_gather_90 : decode b_M_gather 90 = .ok (.iconst 1, 1) := by decide +kernel
theorem d_M_gather_91 : decode b_M_gather 91 = .ok (.bastore, 1) := by decide +kernel
theorem d_M_gather_92 : decode b_M_gather 92 = .ok (.aload_n 0, 1) := by decide +kernel
theorem d_M_gather_93 : decode b_M_gather 93 = .ok (.getfield 17, 3) := by decide +kernel
theorem d_M_gather_96 : decode b_M_gather 96 = .ok (.aload_n 0, 1) := by decide +kernel
theorem d_M_gather_97 : decode b_M_gather 97 = .ok (.getfield 32, 3) := by decide +kernel
theorem d_M_gather_100 : decode b_M_gather 100 = .ok (.iload_n 1, 1) := by decide +kernel
theorem d_M_gather_101 : decode b_M_gather 101 = .ok (.iaload, 1) := by decide +kernel
theorem d_M_gather_102 : decode b_M_gather 102 = .ok (.iaload, 1) := by decide +kernel
theorem d_M_gather_103 : decode b_M_gather 103 = .ok (.ifCond .le 13, 3) := by decide +kernel
theorem d_M_gather_106 : decode b_M_gather 106 = .ok (.aload_n 0, 1) := by decide +kernel
theorem d_M_gather_107 : decode b_M_gather 107 = .ok (.aload_n 0, 1) := by decide +kernel
theorem d_M_gather_108 : decode b_M_gather 108 = .ok (.getfield 35, 3) := by decide +kernel
theorem d_M_gather_111 : decode b_M_gather 111 = .ok (.iload_n 1, 1) := by decide +kernel
theorem d_M_gather_112 : decode b_M_gather 112 = .ok (.iaload, 1) := by decide +kernel
theorem d_M_gather_113 : decode b_M_gather 113 = .ok (.invokevirtual 149, 3) := by decide +kernel
theorem d_M_gather_116 : decode b_M_gather 116 = .ok (.aload_n 0, 1) := by decide +kernel
theorem d_M_gather_117 : decode b_M_gather 117 = .ok (.getfield 17, 3) := by decide +kernel
theorem d_M_gather_120 : decode b_M_gather 120 = .ok (.aload_n 0, 1) := by decide +kernel
theorem d_M_gather_121 : decode b_M_gather 121 = .ok (.getfield 32, 3) := by decide +kernel
theorem d_M_gather_124 : decode b_M_gather 124 = .ok (.iload_n 1, 1) := by decide +kernel
theorem d_M_gather_125 : decode b_M_gather 125 = .ok (.iaload, 1) := by decide +kernel
theorem d_M_gather_126 : decode b_M_gather 126 = .ok (.iaload, 1) := by decide +kernel
theorem d_M_gather_127 : decode b_M_gather 127 = .ok (.iconst 1, 1) := by decide +kernel
theorem d_M_gather_128 : decode b_M_gather 128 = .ok (.if_icmp .le 13, 3) := by decide +kernel
theorem d_M_gather_131 : decode b_M_gather 131 = .ok (.aload_n 0, 1) := by decide +kernel
theorem d_M_gather_132 : decode b_M_gather 132 = .ok (.aload_n 0, 1) := by decide +kernel
theorem d_M_gather_133 : decode b_M_gather 133 = .ok (.getfield 38, 3) := by decide +kernel
theorem d_M_gather_136 : decode b_M_gather 136 = .ok (.iload_n 1, 1) := by decide +kernel
theorem d_M_gather_137 : decode b_M_gather 137 = .ok (.iaload, 1) := by decide +kernel
theorem d_M_gather_138 : decode b_M_gather 138 = .ok (.invokevirtual 149, 3) := by decide +kernel
theorem d_M_gather_141 : decode b_M_gather 141 = .ok (.return_, 1) := by decide +kernel
theorem d_M_look_0 : decode b_M_look 0 = .ok (.aload_n 0, 1) := by decide +kernel
theorem d_M_look_1 : decode b_M_look 1 = .ok (.iconst 0, 1) := by decide +kernel
theorem d_M_look_2 : decode b_M_look 2 = .ok (.putfield 116, 3) := by decide +kernel
theorem d_M_look_5 : decode b_M_look 5 = .ok (.aload_n 0, 1) := by decide +kernel
theorem d_M_look_6 : decode b_M_look 6 = .ok (.iload_n 1, 1) := by decide +kernel
theorem d_M_look_7 : decode b_M_look 7 = .ok (.invokevirtual 125, 3) := by decide +kernel
theorem d_M_look_10 : decode b_M_look 10 = .ok (.istore_n 2, 1) := by decide +kernel
theorem d_M_look_11 : decode b_M_look 11 = .ok (.iconst 0, 1) := by decide +kernel
theorem d_M_look_12 : decode b_M_look 12 = .ok (.istore_n 3, 1) := by decide +kernel
theorem d_M_look_13 : decode b_M_look 13 = .ok (.iload_n 3, 1) := by decide +kernel
theorem d_M_look_14 : decode b_M_look 14 = .ok (.aload_n 0, 1) := by decide +kernel
theorem d_M_look_15 : decode b_M_look 15 = .ok (.getfield 136, 3) := by decide +kernel
theorem d_M_look_18 : decode b_M_look 18 = .ok (.if_icmp .ge 25, 3) := by decide +kernel
theorem d_M_look_21 : decode b_M_look 21 = .ok (.aload_n 0, 1) := by decide +kernel
theorem d_M_look_22 : decode b_M_look 22 = .ok (.aload_n 0, 1) := by decide +kernel
theorem d_M_look_23 : decode b_M_look 23 = .ok (.getfield 66, 3) := by decide +kernel
theorem d_M_look_26 : decode b_M_look 26 = .ok (.iload_n 3, 1) := by decide +kernel
theorem d_M_look_27 : decode b_M_look 27 = .ok (.iaload, 1) := by decide +kernel
theorem d_M_look_28 : decode b_M_look 28 = .ok (.aload_n 0, 1) := by decide +kernel
theorem d_M_look_29 : decode b_M_look 29 = .ok (.getfield 69, 3) := by decide +kernel
theorem d_M_look_32 : decode b_M_look 32 = .ok (.iload_n 3, 1) := by decide +kernel
theorem d_M_look_33 : decode b_M_look 33 = .ok (.iaload, 1) := by decide +kernel
theorem d_M_look_34 : decode b_M_look 34 = .ok (.invokevirtual 139, 3) := by decide +kernel
theorem d_M_look_37 : decode b_M_look 37 = .ok (.iinc 3 1, 3) := by decide +kernel
theorem d_M_look_40 : decode b_M_look 40 = .ok (.goto (-27), 3) := by decide +kernel
theorem d_M_look_43 : decode b_M_look 43 = .ok (.iconst 0, 1) := by decide +kernel
theorem d_M_look_44 : decode b_M_look 44 = .ok (.istore_n 3, 1) := by decide +kernel
theorem d_M_look_45 : decode b_M_look 45 = .ok (.iload_n 3, 1) := by decide +kernel
theorem d_M_look_46 : decode b_M_look 46 = .ok (.aload_n 0, 1) := by decide +kernel
theorem d_M_look_47 : decode b_M_look 47 = .ok (.getfield 143, 3) := by decide +kernel
theorem d_M_look_50 : decode b_M_look 50 = .ok (.if_icmp .ge 31, 3) := by decide +kernel
theorem d_M_look_53 : decode b_M_look 53 = .ok (.aload_n 0, 1) := by decide +kernel
theorem d_M_look_54 : decode b_M_look 54 = .ok (.aload_n 0, 1) := by decide +kernel
theorem d_M_look_55 : decode b_M_look 55 = .ok (.getfield 78, 3) := by decide +kernel
theorem d_M_look_58 : decode b_M_look 58 = .ok (.iload_n 3, 1) := by decide +kernel
theorem d_M_look_59 : decode b_M_look 59 = .ok (.iaload, 1) := by decide +kernel
theorem d_M_look_60 : decode b_M_look 60 = .ok (.iload_n 2, 1) := by decide +kernel
theorem d_M_look_61 : decode b_M_look 61 = .ok (.invokevirtual 132, 3) := by decide +kernel
theorem d_M_look_64 : decode b_M_look 64 = .ok (.istore 4, 2) := by decide +kernel
theorem d_M_look_66 : decode b_M_look 66 = .ok (.iload 4, 2) := by decide +kernel
theorem d_M_look_68 : decode b_M_look 68 = .ok (.iconst 1, 1) := by decide +kernel
theorem d_M_look_69 : decode b_M_look 69 = .ok (.if_icmp .eq 6, 3) := by decide +kernel
theorem d_M_look_72 : decode b_M_look 72 = .ok (.iload 4, 2) := by decide +kernel
theorem d_M_look_74 : decode b_M_look 74 = .ok (.ireturn, 1) := by decide +kernel
theorem d_M_look_75 : decode b_M_look 75 = .ok (.iinc 3 1, 3) := by decide +kernel
theorem d_M_look_78 : decode b_M_look 78 = .ok (.goto (-33), 3) := by decide +kernel
theorem d_M_look_81 : decode b_M_look 81 = .ok (.iconst 0, 1) := by decide +kernel
theorem d_M_look_82 : decode b_M_look 82 = .ok (.istore_n 3, 1) := by decide +kernel
theorem d_M_look_83 : decode b_M_look 83 = .ok (.iload_n 3, 1) := by decide +kernel
theorem d_M_look_84 : decode b_M_look 84 = .ok (.aload_n 0, 1) := by decide +kernel
theorem d_M_look_85 : decode b_M_look 85 = .ok (.getfield 146, 3) := by decide +kernel
theorem d_M_look_88 : decode b_M_look 88 = .ok (.if_icmp .ge 26, 3) := by decide +kernel
theorem d_M_look_91 : decode b_M_look 91 = .ok (.aload_n 0, 1) := by decide +kernel
theorem d_M_look_92 : decode b_M_look 92 = .ok (.aload_n 0, 1) := by decide +kernel
theorem d_M_look_93 : decode b_M_look 93 = .ok (.getfield 81, 3) := by decide +kernel
theorem d_M_look_96 : decode b_M_look 96 = .ok (.iload_n 3, 1) := by decide +kernel
theorem d_M_look_97 : decode b_M_look 97 = .ok (.iaload, 1) := by decide +kernel
theorem d_M_look_98 : decode b_M_look 98 = .ok (.iload_n 2, 1) := by decide +kernel
theorem d_M_look_99 : decode b_M_look 99 = .ok (.invokevirtual 132, 3) := by decide +kernel
theorem d_M_look_102 : decode b_M_look 102 = .ok (.iconst 1, 1) := by decide +kernel
theorem d_M_look_103 : decode b_M_look 103 = .ok (.if_icmp .ne 5, 3) := by decide +kernel
theorem d_M_look_106 : decode b_M_look 106 = .ok (.iconst 0, 1) := by decide +kernel
theorem d_M_look_107 : decode b_M_look 107 = .ok (.ireturn, 1) := by decide +kernel
theorem d_M_look_108 : decode b_M_look 108 = .ok (.iinc 3 1, 3) := by decide +kernel
theorem d_M_look_111 : decode b_M_look 111 = .ok (.goto (-28), 3) := by decide +kernel
theorem d_M_look_114 : decode b_M_look 114 = .ok (.iconst 0, 1) := by decide +kernel
theorem d_M_look_115 : decode b_M_look 115 = .ok (.istore_n 3, 1) := by decide +kernel
theorem d_M_look_116 : decode b_M_look 116 = .ok (.iload_n 3, 1) := by decide +kernel
theorem d_M_look_117 : decode b_M_look 117 = .ok (.aload_n 0, 1) := by decide +kernel
theorem d_M_look_118 : decode b_M_look 118 = .ok (.getfield 146, 3) := by decide +kernel
theorem d_M_look_121 : decode b_M_look 121 = .ok (.if_icmp .ge 26, 3) := by decide +kernel
theorem d_M_look_124 : decode b_M_look 124 = .ok (.aload_n 0, 1) := by decide +kernel
theorem d_M_look_125 : decode b_M_look 125 = .ok (.aload_n 0, 1) := by decide +kernel
theorem d_M_look_126 : decode b_M_look 126 = .ok (.getfield 81, 3) := by decide +kernel
theorem d_M_look_129 : decode b_M_look 129 = .ok (.iload_n 3, 1) := by decide +kernel
theorem d_M_look_130 : decode b_M_look 130 = .ok (.iaload, 1) := by decide +kernel
theorem d_M_look_131 : decode b_M_look 131 = .ok (.iload_n 2, 1) := by decide +kernel
theorem d_M_look_132 : decode b_M_look 132 = .ok (.invokevirtual 132, 3) := by decide +kernel
theorem d_M_look_135 : decode b_M_look 135 = .ok (.iconst 2, 1) := by decide +kernel
theorem d_M_look_136 : decode b_M_look 136 = .ok (.if_icmp .ne 5, 3) := by decide +kernel
theorem d_M_look_139 : decode b_M_look 139 = .ok (.iconst 2, 1) := by decide +kernel
theorem d_M_look_140 : decode b_M_look 140 = .ok (.ireturn, 1) := by decide +kernel
theorem d_M_look_141 : decode b_M_look 141 = .ok (.iinc 3 1, 3) := by decide +kernel
theorem d_M_look_144 : decode b_M_look 144 = .ok (.goto (-28), 3) := by decide +kernel
theorem d_M_look_147 : decode b_M_look 147 = .ok (.iconst 1, 1) := by decide +kernel
theorem d_M_look_148 : decode b_M_look 148 = .ok (.ireturn, 1) := by decide +kernel
theorem d_M_node_0 : decode b_M_node 0 = .ok (.aload_n 0, 1) := by decide +kernel
theorem d_M_node_1 : decode b_M_node 1 = .ok (.getfield 51, 3) := by decide +kernel
theorem d_M_node_4 : decode b_M_node 4 = .ok (.aload_n 0, 1) := by decide +kernel
theorem d_M_node_5 : decode b_M_node 5 = .ok (.getfield 116, 3) := by decide +kernel
theorem d_M_node_8 : decode b_M_node 8 = .ok (.iconst 0, 1) := by decide +kernel
theorem d_M_node_9 : decode b_M_node 9 = .ok (.iastore, 1) := by decide +kernel
theorem d_M_node_10 : decode b_M_node 10 = .ok (.aload_n 0, 1) := by decide +kernel
theorem d_M_node_11 : decode b_M_node 11 = .ok (.getfield 54, 3) := by decide +kernel
theorem d_M_node_14 : decode b_M_node 14 = .ok (.aload_n 0, 1) := by decide +kernel
theorem d_M_node_15 : decode b_M_node 15 = .ok (.getfield 116, 3) := by decide +kernel
theorem d_M_node_18 : decode b_M_node 18 = .ok (.iload_n 1, 1) := by decide +kernel
theorem d_M_node_19 : decode b_M_node 19 = .ok (.iastore, 1) := by decide +kernel
theorem d_M_node_20 : decode b_M_node 20 = .ok (.aload_n 0, 1) := by decide +kernel
theorem d_M_node_21 : decode b_M_node 21 = .ok (.dup, 1) := by decide +kernel
theorem d_M_node_22 : decode b_M_node 22 = .ok (.getfield 116, 3) := by decide +kernel
theorem d_M_node_25 : decode b_M_node 25 = .ok (.iconst 1, 1) := by decide +kernel
theorem d_M_node_26 : decode b_M_node 26 = .ok (.iadd, 1) := by decide +kernel
theorem d_M_node_27 : decode b_M_node 27 = .ok (.putfield 116, 3) := by decide +kernel
theorem d_M_node_30 : decode b_M_node 30 = .ok (.aload_n 0, 1) := by decide +kernel
theorem d_M_node_31 : decode b_M_node 31 = .ok (.getfield 116, 3) := by decide +kernel
theorem d_M_node_34 : decode b_M_node 34 = .ok (.iconst 1, 1) := by decide +kernel
theorem d_M_node_35 : decode b_M_node 35 = .ok (.isub, 1) := by decide +kernel
theorem d_M_node_36 : decode b_M_node 36 = .ok (.ireturn, 1) := by decide +kernel
theorem d_M_fill_0 : decode b_M_fill 0 = .ok (.aload_n 0, 1) := by decide +kernel
theorem d_M_fill_1 : decode b_M_fill 1 = .ok (.getfield 54, 3) := by decide +kernel
theorem d_M_fill_4 : decode b_M_fill 4 = .ok (.iload_n 1, 1) := by decide +kernel
theorem d_M_fill_5 : decode b_M_fill 5 = .ok (.iaload, 1) := by decide +kernel
theorem d_M_fill_6 : decode b_M_fill 6 = .ok (.ifCond .ne 47, 3) := by decide +kernel
theorem d_M_fill_9 : decode b_M_fill 9 = .ok (.aload_n 0, 1) := by decide +kernel
theorem d_M_fill_10 : decode b_M_fill 10 = .ok (.getfield 51, 3) := by decide +kernel
theorem d_M_fill_13 : decode b_M_fill 13 = .ok (.iload_n 1, 1) := by decide +kernel
theorem d_M_fill_14 : decode b_M_fill 14 = .ok (.iload_n 2, 1) := by decide +kernel
theorem d_M_fill_15 : decode b_M_fill 15 = .ok (.aload_n 0, 1) := by decide +kernel
theorem d_M_fill_16 : decode b_M_fill 16 = .ok (.getfield 119, 3) := by decide +kernel
theorem d_M_fill_19 : decode b_M_fill 19 = .ok (.if_icmp .ge 7, 3) := by decide +kernel
theorem d_M_fill_22 : decode b_M_fill 22 = .ok (.iconst 1, 1) := by decide +kernel
theorem d_M_fill_23 : decode b_M_fill 23 = .ok (.goto 4, 3) := by decide +kernel
theorem d_M_fill_26 : decode b_M_fill 26 = .ok (.iconst 3, 1) := by decide +kernel
theorem d_M_fill_27 : decode b_M_fill 27 = .ok (.iastore, 1) := by decide +kernel
theorem d_M_fill_28 : decode b_M_fill 28 = .ok (.aload_n 0, 1) := by decide +kernel
theorem d_M_fill_29 : decode b_M_fill 29 = .ok (.getfield 57, 3) := by decide +kernel
theorem d_M_fill_32 : decode b_M_fill 32 = .ok (.iload_n 1, 1) := by decide +kernel
theorem d_M_fill_33 : decode b_M_fill 33 = .ok (.iload_n 2, 1) := by decide +kernel
theorem d_M_fill_34 : decode b_M_fill 34 = .ok (.aload_n 0, 1) := by decide +kernel
theorem d_M_fill_35 : decode b_M_fill 35 = .ok (.getfield 119, 3) := by decide +kernel
theorem d_M_fill_38 : decode b_M_fill 38 = .ok (.if_icmp .ge 12, 3) := by decide +kernel
theorem d_M_fill_41 : decode b_M_fill 41 = .ok (.aload_n 0, 1) := by decide +kernel
theorem d_M_fill_42 : decode b_M_fill 42 = .ok (.getfield 84, 3) := by decide +kernel
theorem d_M_fill_45 : decode b_M_fill 45 = .ok (.iload_n 2, 1) := by decide +kernel
theorem d_M_fill_46 : decode b_M_fill 46 = .ok (.iaload, 1) := by decide +kernel
theorem d_M_fill_47 : decode b_M_fill 47 = .ok (.goto 4, 3) := by decide +kernel
theorem d_M_fill_50 : decode b_M_fill 50 = .ok (.iconst 0, 1) := by decide +kernel
theorem d_M_fill_51 : decode b_M_fill 51 = .ok (.iastore, 1) := by decide +kernel
theorem d_M_fill_52 : decode b_M_fill 52 = .ok (.return_, 1) := by decide +kernel
theorem d_M_fill_53 : decode b_M_fill 53 = .ok (.iconst (-1), 1) := by decide +kernel
theorem d_M_fill_54 : decode b_M_fill 54 = .ok (.istore_n 3, 1) := by decide +kernel
theorem d_M_fill_55 : decode b_M_fill 55 = .ok (.iload_n 2, 1) := by decide +kernel
theorem d_M_fill_56 : decode b_M_fill 56 = .ok (.istore 4, 2) := by decide +kernel
theorem d_M_fill_58 : decode b_M_fill 58 = .ok (.iload 4, 2) := by decide +kernel
theorem d_M_fill_60 : decode b_M_fill 60 = .ok (.ifCond .lt 41, 3) := by decide +kernel
theorem d_M_fill_63 : decode b_M_fill 63 = .ok (.iinc 3 1, 3) := by decide +kernel
theorem d_M_fill_66 : decode b_M_fill 66 = .ok (.aload_n 0, 1) := by decide +kernel
theorem d_M_fill_67 : decode b_M_fill 67 = .ok (.getfield 13, 3) := by decide +kernel
theorem d_M_fill_70 : decode b_M_fill 70 = .ok (.iload_n 3, 1) := by decide +kernel
theorem d_M_fill_71 : decode b_M_fill 71 = .ok (.iaload, 1) := by decide +kernel
theorem d_M_fill_72 : decode b_M_fill 72 = .ok (.aload_n 0, 1) := by decide +kernel
theorem d_M_fill_73 : decode b_M_fill 73 = .ok (.getfield 54, 3) := by decide +kernel
theorem d_M_fill_76 : decode b_M_fill 76 = .ok (.iload_n 1, 1) := by decide +kernel
theorem d_M_fill_77 : decode b_M_fill 77 = .ok (.iaload, 1) := by decide +kernel
theorem d_M_fill_78 : decode b_M_fill 78 = .ok (.if_icmp .ne 11, 3) := by decide +kernel
theorem d_M_fill_81 : decode b_M_fill 81 = .ok (.aload_n 0, 1) := by decide +kernel
theorem d_M_fill_82 : decode b_M_fill 82 = .ok (.iload_n 3, 1) := by decide +kernel
theorem d_M_fill_83 : decode b_M_fill 83 = .ok (.invokevirtual 122, 3) := by decide +kernel
theorem d_M_fill_86 : decode b_M_fill 86 = .ok (.ifCond .ne 9, 3) := by decide +kernel
theorem d_M_fill_89 : decode b_M_fill 89 = .ok (.iinc 3 1, 3) := by decide +kernel
theorem d_M_fill_92 : decode b_M_fill 92 = .ok (.goto (-26), 3) := by decide +kernel
theorem d_M_fill_95 : decode b_M_fill 95 = .ok (.iinc 4 (-1), 3) := by decide +kernel
theorem d_M_fill_98 : decode b_M_fill 98 = .ok (.goto (-40), 3) := by decide +kernel
theorem d_M_fill_101 : decode b_M_fill 101 = .ok (.aload_n 0, 1) := by decide +kernel
theorem d_M_fill_102 : decode b_M_fill 102 = .ok (.getfield 51, 3) := by decide +kernel
theorem d_M_fill_105 : decode b_M_fill 105 = .ok (.iload_n 1, 1) := by decide +kernel
theorem d_M_fill_106 : decode b_M_fill 106 = .ok (.iconst 2, 1) := by decide +kernel
theorem d_M_fill_107 : decode b_M_fill 107 = .ok (.iastore, 1) := by decide +kernel
theorem d_M_fill_108 : decode b_M_fill 108 = .ok (.aload_n 0, 1) := by decide +kernel
theorem d_M_fill_109 : decode b_M_fill 109 = .ok (.getfield 57, 3) := by decide +kernel
theorem d_M_fill_112 : decode b_M_fill 112 = .ok (.iload_n 1, 1) := by decide +kernel
theorem d_M_fill_113 : decode b_M_fill 113 = .ok (.iload_n 3, 1) := by decide +kernel
theorem d_M_fill_114 : decode b_M_fill 114 = .ok (.iastore, 1) := by decide +kernel
theorem d_M_fill_115 : decode b_M_fill 115 = .ok (.aload_n 0, 1) := by decide +kernel
theorem d_M_fill_116 : decode b_M_fill 116 = .ok (.getfield 17, 3) := by decide +kernel
theorem d_M_fill_119 : decode b_M_fill 119 = .ok (.iload_n 3, 1) := by decide +kernel
theorem d_M_fill_120 : decode b_M_fill 120 = .ok (.iaload, 1) := by decide +kernel
theorem d_M_fill_121 : decode b_M_fill 121 = .ok (.ifCond .le 19, 3) := by decide +kernel
theorem d_M_fill_124 : decode b_M_fill 124 = .ok (.aload_n 0, 1) := by decide +kernel
theorem d_M_fill_125 : decode b_M_fill 125 = .ok (.getfield 60, 3) := by decide +kernel
theorem d_M_fill_128 : decode b_M_fill 128 = .ok (.iload_n 1, 1) := by decide +kernel
theorem d_M_fill_129 : decode b_M_fill 129 = .ok (.aload_n 0, 1) := by decide +kernel
theorem d_M_fill_130 : decode b_M_fill 130 = .ok (.aload_n 0, 1) := by decide +kernel
theorem d_M_fill_131 : decode b_M_fill 131 = .ok (.getfield 20, 3) := by decide +kernel
theorem d_M_fill_134 : decode b_M_fill 134 = .ok (.iload_n 3, 1) := by decide +kernel
theorem d_M_fill_135 : decode b_M_fill 135 = .ok (.iaload, 1) := by decide +kernel
theorem d_M_fill_136 : decode b_M_fill 136 = .ok (.invokevirtual 125, 3) := by decide +kernel
theorem d_M_fill_139 : decode b_M_fill 139 = .ok (.iastore, 1) := by decide +kernel
theorem d_M_fill_140 : decode b_M_fill 140 = .ok (.aload_n 0, 1) := by decide +kernel
theorem d_M_fill_141 : decode b_M_fill 141 = .ok (.getfield 17, 3) := by decide +kernel
theorem d_M_fill_144 : decode b_M_fill 144 = .ok (.iload_n 3, 1) := by decide +kernel
theorem d_M_fill_145 : decode b_M_fill 145 = .ok (.iaload, 1) := by decide +kernel
theorem d_M_fill_146 : decode b_M_fill 146 = .ok (.iconst 1, 1) := by decide +kernel
theorem d_M_fill_147 : decode b_M_fill 147 = .ok (.if_icmp .le 19, 3) := by decide +kernel
theorem d_M_fill_150 : decode b_M_fill 150 = .ok (.aload_n 0, 1) := by decide +kernel
theorem d_M_fill_151 : decode b_M_fill 151 = .ok (.getfield 63, 3) := by decide +kernel
theorem d_M_fill_154 : decode b_M_fill 154 = .ok (.iload_n 1, 1) := by decide +kernel
theorem d_M_fill_155 : decode b_M_fill 155 = .ok (.aload_n 0, 1) := by decide +kernel
theorem d_M_fill_156 : decode b_M_fill 156 = .ok (.aload_n 0, 1) := by decide +kernel
theorem d_M_fill_157 : decode b_M_fill 157 = .ok (.getfield 23, 3) := by decide +kernel
theorem d_M_fill_160 : decode b_M_fill 160 = .ok (.iload_n 3, 1) := by decide +kernel
theorem d_M_fill_161 : decode b_M_fill 161 = .ok (.iaload, 1) := by decide +kernel
theorem d_M_fill_162 : decode b_M_fill 162 = .ok (.invokevirtual 125, 3) := by decide +kernel
theorem d_M_fill_165 : decode b_M_fill 165 = .ok (.iastore, 1) := by decide +kernel
theorem d_M_fill_166 : decode b_M_fill 166 = .ok (.return_, 1) := by decide +kernel
theorem d_M_isTried_0 : decode b_M_isTried 0 = .ok (.aload_n 0, 1) := by decide +kernel
theorem d_M_isTried_1 : decode b_M_isTried 1 = .ok (.getfield 75, 3) := by decide +kernel
theorem d_M_isTried_4 : decode b_M_isTried 4 = .ok (.iload_n 1, 1) := by decide +kernel
theorem d_M_isTried_5 : decode b_M_isTried 5 = .ok (.baload, 1) := by decide +kernel
theorem d_M_isTried_6 : decode b_M_isTried 6 = .ok (.ifCond .ne 11, 3) := by decide +kernel
theorem d_M_isTried_9 : decode b_M_isTried 9 = .ok (.aload_n 0, 1) := by decide +kernel
theorem d_M_isTried_10 : decode b_M_isTried 10 = .ok (.iload_n 1, 1) := by decide +kernel
theorem d_M_isTried_11 : decode b_M_isTried 11 = .ok (.invokevirtual 113, 3) := by decide +kernel
theorem d_M_isTried_14 : decode b_M_isTried 14 = .ok (.ifCond .ne 9, 3) := by decide +kernel
theorem d_M_isTried_17 : decode b_M_isTried 17 = .ok (.aload_n 0, 1) := by decide +kernel
theorem d_M_isTried_18 : decode b_M_isTried 18 = .ok (.iload_n 1, 1) := by decide +kernel
theorem d_M_isTried_19 : decode b_M_isTried 19 = .ok (.invokevirtual 113, 3) := by decide +kernel
theorem d_M_isTried_22 : decode b_M_isTried 22 = .ok (.ireturn, 1) := by decide +kernel
theorem d_M_isTried_23 : decode b_M_isTried 23 = .ok (.iconst 0, 1) := by decide +kernel
theorem d_M_isTried_24 : decode b_M_isTried 24 = .ok (.istore_n 2, 1) := by decide +kernel
theorem d_M_isTried_25 : decode b_M_isTried 25 = .ok (.iload_n 2, 1) := by decide +kernel
theorem d_M_isTried_26 : decode b_M_isTried 26 = .ok (.iload_n 1, 1) := by decide +kernel
theorem d_M_isTried_27 : decode b_M_isTried 27 = .ok (.if_icmp .ge 43, 3) := by decide +kernel
theorem d_M_isTried_30 : decode b_M_isTried 30 = .ok (.aload_n 0, 1) := by decide +kernel
theorem d_M_isTried_31 : decode b_M_isTried 31 = .ok (.getfield 13, 3) := by decide +kernel
theorem d_M_isTried_34 : decode b_M_isTried 34 = .ok (.iload_n 2, 1) := by decide +kernel
theorem d_M_isTried_35 : decode b_M_isTried 35 = .ok (.iaload, 1) := by decide +kernel
theorem d_M_isTried_36 : decode b_M_isTried 36 = .ok (.aload_n 0, 1) := by decide +kernel
theorem d_M_isTried_37 : decode b_M_isTried 37 = .ok (.getfield 13, 3) := by decide +kernel
theorem d_M_isTried_40 : decode b_M_isTried 40 = .ok (.iload_n 1, 1) := by decide +kernel
theorem d_M_isTried_41 : decode b_M_isTried 41 = .ok (.iaload, 1) := by decide +kernel
theorem d_M_isTried_42 : decode b_M_isTried 42 = .ok (.if_icmp .ne 22, 3) := by decide +kernel
theorem d_M_isTried_45 : decode b_M_isTried 45 = .ok (.aload_n 0, 1) := by decide +kernel
theorem d_M_isTried_46 : decode b_M_isTried 46 = .ok (.getfield 75, 3) := by decide +kernel
theorem d_M_isTried_49 : decode b_M_isTried 49 = .ok (.iload_n 2, 1) := by decide +kernel
theorem d_M_isTried_50 : decode b_M_isTried 50 = .ok (.baload, 1) := by decide +kernel
theorem d_M_isTried_51 : decode b_M_isTried 51 = .ok (.ifCond .ne 13, 3) := by decide +kernel
theorem d_M_isTried_54 : decode b_M_isTried 54 = .ok (.aload_n 0, 1) := by decide +kernel
theorem d_M_isTried_55 : decode b_M_isTried 55 = .ok (.iload_n 2, 1) := by decide +kernel
theorem d_M_isTried_56 : decode b_M_isTried 56 = .ok (.invokevirtual 113, 3) := by decide +kernel
theorem d_M_isTried_59 : decode b_M_isTried 59 = .ok (.ifCond .eq 5, 3) := by decide +kernel
theorem d_M_isTried_62 : decode b_M_isTried 62 = .ok (.iconst 0, 1) := by decide +kernel
theorem d_M_isTried_63 : decode b_M_isTried 63 = .ok (.ireturn, 1) := by decide +kernel
theorem d_M_isTried_64 : decode b_M_isTried 64 = .ok (.iinc 2 1, 3) := by decide +kernel
theorem d_M_isTried_67 : decode b_M_isTried 67 = .ok (.goto (-42), 3) := by decide +kernel
theorem d_M_isTried_70 : decode b_M_isTried 70 = .ok (.iconst 1, 1) := by decide +kernel
theorem d_M_isTried_71 : decode b_M_isTried 71 = .ok (.ireturn, 1) := by decide +kernel
theorem d_M_fit_0 : decode b_M_fit 0 = .ok (.aload_n 0, 1) := by decide +kernel
theorem d_M_fit_1 : decode b_M_fit 1 = .ok (.getfield 26, 3) := by decide +kernel
theorem d_M_fit_4 : decode b_M_fit 4 = .ok (.iload_n 1, 1) := by decide +kernel
theorem d_M_fit_5 : decode b_M_fit 5 = .ok (.iaload, 1) := by decide +kernel
theorem d_M_fit_6 : decode b_M_fit 6 = .ok (.ifCond .ne 5, 3) := by decide +kernel
theorem d_M_fit_9 : decode b_M_fit 9 = .ok (.iconst 1, 1) := by decide +kernel
theorem d_M_fit_10 : decode b_M_fit 10 = .ok (.ireturn, 1) := by decide +kernel
theorem d_M_fit_11 : decode b_M_fit 11 = .ok (.aload_n 0, 1) := by decide +kernel
theorem d_M_fit_12 : decode b_M_fit 12 = .ok (.getfield 51, 3) := by decide +kernel
theorem d_M_fit_15 : decode b_M_fit 15 = .ok (.iload_n 2, 1) := by decide +kernel
theorem d_M_fit_16 : decode b_M_fit 16 = .ok (.iaload, 1) := by decide +kernel
theorem d_M_fit_17 : decode b_M_fit 17 = .ok (.ifCond .ne 10, 3) := by decide +kernel
theorem d_M_fit_20 : decode b_M_fit 20 = .ok (.aload_n 0, 1) := by decide +kernel
theorem d_M_fit_21 : decode b_M_fit 21 = .ok (.iload_n 2, 1) := by decide +kernel
theorem d_M_fit_22 : decode b_M_fit 22 = .ok (.putfield 129, 3) := by decide +kernel
theorem d_M_fit_25 : decode b_M_fit 25 = .ok (.iconst 2, 1) := by decide +kernel
theorem d_M_fit_26 : decode b_M_fit 26 = .ok (.ireturn, 1) := by decide +kernel
theorem d_M_fit_27 : decode b_M_fit 27 = .ok (.aload_n 0, 1) := by decide +kernel
theorem d_M_fit_28 : decode b_M_fit 28 = .ok (.getfield 26, 3) := by decide +kernel
theorem d_M_fit_31 : decode b_M_fit 31 = .ok (.iload_n 1, 1) := by decide +kernel
theorem d_M_fit_32 : decode b_M_fit 32 = .ok (.iaload, 1) := by decide +kernel
theorem d_M_fit_33 : decode b_M_fit 33 = .ok (.iconst 1, 1) := by decide +kernel
theorem d_M_fit_34 : decode b_M_fit 34 = .ok (.if_icmp .ne 34, 3) := by decide +kernel
theorem d_M_fit_37 : decode b_M_fit 37 = .ok (.aload_n 0, 1) := by decide +kernel
theorem d_M_fit_38 : decode b_M_fit 38 = .ok (.getfield 51, 3) := by decide +kernel
theorem d_M_fit_41 : decode b_M_fit 41 = .ok (.iload_n 2, 1) := by decide +kernel
theorem d_M_fit_42 : decode b_M_fit 42 = .ok (.iaload, 1) := by decide +kernel
theorem d_M_fit_43 : decode b_M_fit 43 = .ok (.iconst 1, 1) := by decide +kernel
theorem d_M_fit_44 : decode b_M_fit 44 = .ok (.if_icmp .ne 22, 3) := by decide +kernel
theorem d_M_fit_47 : decode b_M_fit 47 = .ok (.aload_n 0, 1) := by decide +kernel
theorem d_M_fit_48 : decode b_M_fit 48 = .ok (.getfield 57, 3) := by decide +kernel
theorem d_M_fit_51 : decode b_M_fit 51 = .ok (.iload_n 2, 1) := by decide +kernel
theorem d_M_fit_52 : decode b_M_fit 52 = .ok (.iaload, 1) := by decide +kernel
theorem d_M_fit_53 : decode b_M_fit 53 = .ok (.aload_n 0, 1) := by decide +kernel
theorem d_M_fit_54 : decode b_M_fit 54 = .ok (.getfield 32, 3) := by decide +kernel
theorem d_M_fit_57 : decode b_M_fit 57 = .ok (.iload_n 1, 1) := by decide +kernel
theorem d_M_fit_58 : decode b_M_fit 58 = .ok (.iaload, 1) := by decide +kernel
theorem d_M_fit_59 : decode b_M_fit 59 = .ok (.if_icmp .ne 7, 3) := by decide +kernel
theorem d_M_fit_62 : decode b_M_fit 62 = .ok (.iconst 1, 1) := by decide +kernel
theorem d_M_fit_63 : decode b_M_fit 63 = .ok (.goto 4, 3) := by decide +kernel
theorem d_M_fit_66 : decode b_M_fit 66 = .ok (.iconst 0, 1) := by decide +kernel
theorem d_M_fit_67 : decode b_M_fit 67 = .ok (.ireturn, 1) := by decide +kernel
theorem d_M_fit_68 : decode b_M_fit 68 = .ok (.aload_n 0, 1) := by decide +kernel
theorem d_M_fit_69 : decode b_M_fit 69 = .ok (.getfield 57, 3) := by decide +kernel
theorem d_M_fit_72 : decode b_M_fit 72 = .ok (.iload_n 2, 1) := by decide +kernel
theorem d_M_fit_73 : decode b_M_fit 73 = .ok (.iaload, 1) := by decide +kernel
theorem d_M_fit_74 : decode b_M_fit 74 = .ok (.aload_n 0, 1) := by decide +kernel
theorem d_M_fit_75 : decode b_M_fit 75 = .ok (.getfield 32, 3) := by decide +kernel
theorem d_M_fit_78 : decode b_M_fit 78 = .ok (.iload_n 1, 1) := by decide +kernel
theorem d_M_fit_79 : decode b_M_fit 79 = .ok (.iaload, 1) := by decide +kernel
theorem d_M_fit_80 : decode b_M_fit 80 = .ok (.if_icmp .eq 5, 3) := by decide +kernel
theorem d_M_fit_83 : decode b_M_fit 83 = .ok (.iconst 0, 1) := by decide +kernel
theorem d_M_fit_84 : decode b_M_fit 84 = .ok (.ireturn, 1) := by decide +kernel
theorem d_M_fit_85 : decode b_M_fit 85 = .ok (.aload_n 0, 1) := by decide +kernel
theorem d_M_fit_86 : decode b_M_fit 86 = .ok (.getfield 17, 3) := by decide +kernel
theorem d_M_fit_89 : decode b_M_fit 89 = .ok (.aload_n 0, 1) := by decide +kernel
theorem d_M_fit_90 : decode b_M_fit 90 = .ok (.getfield 32, 3) := by decide +kernel
theorem d_M_fit_93 : decode b_M_fit 93 = .ok (.iload_n 1, 1) := by decide +kernel
theorem d_M_fit_94 : decode b_M_fit 94 = .ok (.iaload, 1) := by decide +kernel
theorem d_M_fit_95 : decode b_M_fit 95 = .ok (.iaload, 1) := by decide +kernel
theorem d_M_fit_96 : decode b_M_fit 96 = .ok (.istore_n 3, 1) := by decide +kernel
theorem d_M_fit_97 : decode b_M_fit 97 = .ok (.iload_n 3, 1) := by decide +kernel
theorem d_M_fit_98 : decode b_M_fit 98 = .ok (.iconst 1, 1) := by decide +kernel
theorem d_M_fit_99 : decode b_M_fit 99 = .ok (.if_icmp .ge 7, 3) := by decide +kernel
theorem d_M_fit_102 : decode b_M_fit 102 = .ok (.iconst 1, 1) := by decide +kernel
theorem d_M_fit_103 : decode b_M_fit 103 = .ok (.goto 19, 3) := by decide +kernel
theorem d_M_fit_106 : decode b_M_fit 106 = .ok (.aload_n 0, 1) := by decide +kernel
theorem d_M_fit_107 : decode b_M_fit 107 = .ok (.aload_n 0, 1) := by decide +kernel
theorem d_M_fit_108 : decode b_M_fit 108 = .ok (.getfield 35, 3) := by decide +kernel
theorem d_M_fit_111 : decode b_M_fit 111 = .ok (.iload_n 1, 1) := by decide +kernel
theorem d_M_fit_112 : decode b_M_fit 112 = .ok (.iaload, 1) := by decide +kernel
theorem d_M_fit_113 : decode b_M_fit 113 = .ok (.aload_n 0, 1) := by decide +kernel
theorem d_M_fit_114 : decode b_M_fit 114 = .ok (.getfield 60, 3) := by decide +kernel
theorem d_M_fit_117 : decode b_M_fit 117 = .ok (.iload_n 2, 1) := by decide +kernel
theorem d_M_fit_118 : decode b_M_fit 118 = .ok (.iaload, 1) := by decide +kernel
theorem d_M_fit_119 : decode b_M_fit 119 = .ok (.invokevirtual 132, 3) := by decide +kernel
theorem d_M_fit_122 : decode b_M_fit 122 = .ok (.istore 4, 2) := by decide +kernel
theorem d_M_fit_124 : decode b_M_fit 124 = .ok (.iload 4, 2) := by decide +kernel
theorem d_M_fit_126 : decode b_M_fit 126 = .ok (.iconst 1, 1) := by decide +kernel
theorem d_M_fit_127 : decode b_M_fit 127 = .ok (.if_icmp .ne 8, 3) := by decide +kernel
theorem d_M_fit_130 : decode b_M_fit 130 = .ok (.iload_n 3, 1) := by decide +kernel
theorem d_M_fit_131 : decode b_M_fit 131 = .ok (.iconst 2, 1) := by decide +kernel
theorem d_M_fit_132 : decode b_M_fit 132 = .ok (.if_icmp .ge 8, 3) := by decide +kernel
theorem d_M_fit_135 : decode b_M_fit 135 = .ok (.iload 4, 2) := by decide +kernel
theorem d_M_fit_137 : decode b_M_fit 137 = .ok (.goto 19, 3) := by decide +kernel
theorem d_M_fit_140 : decode b_M_fit 140 = .ok (.aload_n 0, 1) := by decide +kernel
theorem d_M_fit_141 : decode b_M_fit 141 = .ok (.aload_n 0, 1) := by decide +kernel
theorem d_M_fit_142 : decode b_M_fit 142 = .ok (.getfield 38, 3) := by decide +kernel
theorem d_M_fit_145 : decode b_M_fit 145 = .ok (.iload_n 1, 1) := by decide +kernel
theorem d_M_fit_146 : decode b_M_fit 146 = .ok (.iaload, 1) := by decide +kernel
theorem d_M_fit_147 : decode b_M_fit 147 = .ok (.aload_n 0, 1) := by decide +kernel
theorem d_M_fit_148 : decode b_M_fit 148 = .ok (.getfield 63, 3) := by decide +kernel
theorem d_M_fit_151 : decode b_M_fit 151 = .ok (.iload_n 2, 1) := by decide +kernel
theorem d_M_fit_152 : decode b_M_fit 152 = .ok (.iaload, 1) := by decide +kernel
theorem d_M_fit_153 : decode b_M_fit 153 = .ok (.invokevirtual 132, 3) := by decide +kernel
theorem d_M_fit_156 : decode b_M_fit 156 = .ok (.ireturn, 1) := by decide +kernel
theorem d_M_options_0 : decode b_M_options 0 = .ok (.iload_n 1, 1) := by decide +kernel
theorem d_M_options_1 : decode b_M_options 1 = .ok (.ifCond .ne 10, 3) := by decide +kernel
theorem d_M_options_4 : decode b_M_options 4 = .ok (.aload_n 0, 1) := by decide +kernel
theorem d_M_options_5 : decode b_M_options 5 = .ok (.getfield 119, 3) := by decide +kernel
theorem d_M_options_8 : decode b_M_options 8 = .ok (.iconst 1, 1) := by decide +kernel
theorem d_M_options_9 : decode b_M_options 9 = .ok (.iadd, 1) := by decide +kernel
theorem d_M_options_10 : decode b_M_options 10 = .ok (.ireturn, 1) := by decide +kernel
theorem d_M_options_11 : decode b_M_options 11 = .ok (.iconst 0, 1) := by decide +kernel
theorem d_M_options_12 : decode b_M_options 12 = .ok (.istore_n 2, 1) := by decide +kernel
theorem d_M_options_13 : decode b_M_options 13 = .ok (.iconst 0, 1) := by decide +kernel
theorem d_M_options_14 : decode b_M_options 14 = .ok (.istore_n 3, 1) := by decide +kernel
theorem d_M_options_15 : decode b_M_options 15 = .ok (.iload_n 3, 1) := by decide +kernel
theorem d_M_options_16 : decode b_M_options 16 = .ok (.aload_n 0, 1) := by decide +kernel
theorem d_M_options_17 : decode b_M_options 17 = .ok (.getfield 97, 3) := by decide +kernel
theorem d_M_options_20 : decode b_M_options 20 = .ok (.if_icmp .ge 30, 3) := by decide +kernel
theorem d_M_options_23 : decode b_M_options 23 = .ok (.aload_n 0, 1) := by decide +kernel
theorem d_M_options_24 : decode b_M_options 24 = .ok (.getfield 13, 3) := by decide +kernel
theorem d_M_options_27 : decode b_M_options 27 = .ok (.iload_n 3, 1) := by decide +kernel
theorem d_M_options_28 : decode b_M_options 28 = .ok (.iaload, 1) := by decide +kernel
theorem d_M_options_29 : decode b_M_options 29 = .ok (.iload_n 1, 1) := by decide +kernel
theorem d_M_options_30 : decode b_M_options 30 = .ok (.if_icmp .ne 14, 3) := by decide +kernel
theorem d_M_options_33 : decode b_M_options 33 = .ok (.aload_n 0, 1) := by decide +kernel
theorem d_M_options_34 : decode b_M_options 34 = .ok (.iload_n 3, 1) := by decide +kernel
theorem d_M_options_35 : decode b_M_options 35 = .ok (.invokevirtual 122, 3) := by decide +kernel
theorem d_M_options_38 : decode b_M_options 38 = .ok (.ifCond .eq 6, 3) := by decide +kernel
theorem d_M_options_41 : decode b_M_options 41 = .ok (.iinc 2 1, 3) := by decide +kernel
theorem d_M_options_44 : decode b_M_options 44 = .ok (.iinc 3 1, 3) := by decide +kernel
theorem d_M_options_47 : decode b_M_options 47 = .ok (.goto (-32), 3) := by decide +kernel
theorem d_M_options_50 : decode b_M_options 50 = .ok (.iload_n 2, 1) := by decide +kernel
theorem d_M_options_51 : decode b_M_options 51 = .ok (.ireturn, 1) := by decide +kernel
theorem d_M_takes_0 : decode b_M_takes 0 = .ok (.aload_n 0, 1) := by decide +kernel
theorem d_M_takes_1 : decode b_M_takes 1 = .ok (.iload_n 1, 1) := by decide +kernel
theorem d_M_takes_2 : decode b_M_takes 2 = .ok (.ifCond .lt 15, 3) := by decide +kernel
theorem d_M_takes_5 : decode b_M_takes 5 = .ok (.iload_n 1, 1) := by decide +kernel
theorem d_M_takes_6 : decode b_M_takes 6 = .ok (.aload_n 0, 1) := by decide +kernel
theorem d_M_takes_7 : decode b_M_takes 7 = .ok (.getfield 107, 3) := by decide +kernel
theorem d_M_takes_10 : decode b_M_takes 10 = .ok (.if_icmp .ge 7, 3) := by decide +kernel
theorem d_M_takes_13 : decode b_M_takes 13 = .ok (.iconst 0, 1) := by decide +kernel
theorem d_M_takes_14 : decode b_M_takes 14 = .ok (.goto 4, 3) := by decide +kernel
theorem d_M_takes_17 : decode b_M_takes 17 = .ok (.iconst 1, 1) := by decide +kernel
theorem d_M_takes_18 : decode b_M_takes 18 = .ok (.putfield 87, 3) := by decide +kernel
theorem d_M_takes_21 : decode b_M_takes 21 = .ok (.aload_n 0, 1) := by decide +kernel
theorem d_M_takes_22 : decode b_M_takes 22 = .ok (.getfield 87, 3) := by decide +kernel
theorem d_M_takes_25 : decode b_M_takes 25 = .ok (.ifCond .ne 15, 3) := by decide +kernel
theorem d_M_takes_28 : decode b_M_takes 28 = .ok (.aload_n 0, 1) := by decide +kernel
theorem d_M_takes_29 : decode b_M_takes 29 = .ok (.iload_n 1, 1) := by decide +kernel
theorem d_M_takes_30 : decode b_M_takes 30 = .ok (.invokevirtual 165, 3) := by decide +kernel
theorem d_M_takes_33 : decode b_M_takes 33 = .ok (.ifCond .eq 7, 3) := by decide +kernel
theorem d_M_takes_36 : decode b_M_takes 36 = .ok (.iconst 1, 1) := by decide +kernel
theorem d_M_takes_37 : decode b_M_takes 37 = .ok (.goto 4, 3) := by decide +kernel
theorem d_M_takes_40 : decode b_M_takes 40 = .ok (.iconst 0, 1) := by decide +kernel
theorem d_M_takes_41 : decode b_M_takes 41 = .ok (.ireturn, 1) := by decide +kernel
theorem d_M_open_0 : decode b_M_open 0 = .ok (.aload_n 0, 1) := by decide +kernel
theorem d_M_open_1 : decode b_M_open 1 = .ok (.iconst 0, 1) := by decide +kernel
theorem d_M_open_2 : decode b_M_open 2 = .ok (.putfield 87, 3) := by decide +kernel
theorem d_M_open_5 : decode b_M_open 5 = .ok (.aload_n 0, 1) := by decide +kernel
theorem d_M_open_6 : decode b_M_open 6 = .ok (.iconst 0, 1) := by decide +kernel
theorem d_M_open_7 : decode b_M_open 7 = .ok (.putfield 143, 3) := by decide +kernel
theorem d_M_open_10 : decode b_M_open 10 = .ok (.aload_n 0, 1) := by decide +kernel
theorem d_M_open_11 : decode b_M_open 11 = .ok (.aload_n 0, 1) := by decide +kernel
theorem d_M_open_12 : decode b_M_open 12 = .ok (.getfield 107, 3) := by decide +kernel
theorem d_M_open_15 : decode b_M_open 15 = .ok (.putfield 146, 3) := by decide +kernel
theorem d_M_open_18 : decode b_M_open 18 = .ok (.iconst 0, 1) := by decide +kernel
theorem d_M_open_19 : decode b_M_open 19 = .ok (.istore_n 1, 1) := by decide +kernel
theorem d_M_open_20 : decode b_M_open 20 = .ok (.iload_n 1, 1) := by decide +kernel
theorem d_M_open_21 : decode b_M_open 21 = .ok (.aload_n 0, 1) := by decide +kernel
theorem d_M_open_22 : decode b_M_open 22 = .ok (.getfield 107, 3) := by decide +kernel
theorem d_M_open_25 : decode b_M_open 25 = .ok (.if_icmp .ge 21, 3) := by decide +kernel
theorem d_M_open_28 : decode b_M_open 28 = .ok (.aload_n 0, 1) := by decide +kernel
theorem d_M_open_29 : decode b_M_open 29 = .ok (.getfield 81, 3) := by decide +kernel
theorem d_M_open_32 : decode b_M_open 32 = .ok (.iload_n 1, 1) := by decide +kernel
theorem d_M_open_33 : decode b_M_open 33 = .ok (.aload_n 0, 1) := by decide +kernel
theorem d_M_open_34 : decode b_M_open 34 = .ok (.getfield 44, 3) := by decide +kernel
theorem d_M_open_37 : decode b_M_open 37 = .ok (.iload_n 1, 1) := by decide +kernel
theorem d_M_open_38 : decode b_M_open 38 = .ok (.iaload, 1) := by decide +kernel
theorem d_M_open_39 : decode b_M_open 39 = .ok (.iastore, 1) := by decide +kernel
theorem d_M_open_40 : decode b_M_open 40 = .ok (.iinc 1 1, 3) := by decide +kernel
theorem d_M_open_43 : decode b_M_open 43 = .ok (.goto (-23), 3) := by decide +kernel
theorem d_M_open_46 : decode b_M_open 46 = .ok (.aload_n 0, 1) := by decide +kernel
theorem d_M_open_47 : decode b_M_open 47 = .ok (.aload_n 0, 1) := by decide +kernel
theorem d_M_open_48 : decode b_M_open 48 = .ok (.getfield 110, 3) := by decide +kernel
theorem d_M_open_51 : decode b_M_open 51 = .ok (.invokevirtual 162, 3) := by decide +kernel
theorem d_M_open_54 : decode b_M_open 54 = .ok (.ireturn, 1) := by decide +kernel
theorem d_M_covers_0 : decode b_M_covers 0 = .ok (.aload_n 0, 1) := by decide +kernel
theorem d_M_covers_1 : decode b_M_covers 1 = .ok (.aload_n 0, 1) := by decide +kernel
theorem d_M_covers_2 : decode b_M_covers 2 = .ok (.iload_n 1, 1) := by decide +kernel
theorem d_M_covers_3 : decode b_M_covers 3 = .ok (.iload_n 2, 1) := by decide +kernel
theorem d_M_covers_4 : decode b_M_covers 4 = .ok (.invokevirtual 168, 3) := by decide +kernel
theorem d_M_covers_7 : decode b_M_covers 7 = .ok (.ifCond .eq 7, 3) := by decide +kernel
theorem d_M_covers_10 : decode b_M_covers 10 = .ok (.iconst 0, 1) := by decide +kernel
theorem d_M_covers_11 : decode b_M_covers 11 = .ok (.goto 4, 3) := by decide +kernel
theorem d_M_covers_14 : decode b_M_covers 14 = .ok (.iconst 1, 1) := by decide +kernel
theorem d_M_covers_15 : decode b_M_covers 15 = .ok (.putfield 87, 3) := by decide +kernel
theorem d_M_covers_18 : decode b_M_covers 18 = .ok (.aload_n 0, 1) := by decide +kernel
theorem d_M_covers_19 : decode b_M_covers 19 = .ok (.getfield 87, 3) := by decide +kernel
theorem d_M_covers_22 : decode b_M_covers 22 = .ok (.ifCond .le 5, 3) := by decide +kernel
theorem d_M_covers_25 : decode b_M_covers 25 = .ok (.iconst 0, 1) := by decide +kernel
theorem d_M_covers_26 : decode b_M_covers 26 = .ok (.ireturn, 1) := by decide +kernel
theorem d_M_covers_27 : decode b_M_covers 27 = .ok (.aload_n 0, 1) := by decide +kernel
theorem d_M_covers_28 : decode b_M_covers 28 = .ok (.iconst 1, 1) := by decide +kernel
theorem d_M_covers_29 : decode b_M_covers 29 = .ok (.putfield 143, 3) := by decide +kernel
theorem d_M_covers_32 : decode b_M_covers 32 = .ok (.aload_n 0, 1) := by decide +kernel
theorem d_M_covers_33 : decode b_M_covers 33 = .ok (.getfield 78, 3) := by decide +kernel
theorem d_M_covers_36 : decode b_M_covers 36 = .ok (.iconst 0, 1) := by decide +kernel
theorem d_M_covers_37 : decode b_M_covers 37 = .ok (.iload_n 2, 1) := by decide +kernel
theorem d_M_covers_38 : decode b_M_covers 38 = .ok (.iastore, 1) := by decide +kernel
theorem d_M_covers_39 : decode b_M_covers 39 = .ok (.aload_n 0, 1) := by decide +kernel
theorem d_M_covers_40 : decode b_M_covers 40 = .ok (.iconst 1, 1) := by decide +kernel
theorem d_M_covers_41 : decode b_M_covers 41 = .ok (.putfield 146, 3) := by decide +kernel
theorem d_M_covers_44 : decode b_M_covers 44 = .ok (.aload_n 0, 1) := by decide +kernel
theorem d_M_covers_45 : decode b_M_covers 45 = .ok (.getfield 81, 3) := by decide +kernel
theorem d_M_covers_48 : decode b_M_covers 48 = .ok (.iconst 0, 1) := by decide +kernel
theorem d_M_covers_49 : decode b_M_covers 49 = .ok (.iload_n 1, 1) := by decide +kernel
theorem d_M_covers_50 : decode b_M_covers 50 = .ok (.iastore, 1) := by decide +kernel
theorem d_M_covers_51 : decode b_M_covers 51 = .ok (.aload_n 0, 1) := by decide +kernel
theorem d_M_covers_52 : decode b_M_covers 52 = .ok (.aload_n 0, 1) := by decide +kernel
theorem d_M_covers_53 : decode b_M_covers 53 = .ok (.getfield 29, 3) := by decide +kernel
theorem d_M_covers_56 : decode b_M_covers 56 = .ok (.iload_n 1, 1) := by decide +kernel
theorem d_M_covers_57 : decode b_M_covers 57 = .ok (.iaload, 1) := by decide +kernel
theorem d_M_covers_58 : decode b_M_covers 58 = .ok (.invokevirtual 162, 3) := by decide +kernel
theorem d_M_covers_61 : decode b_M_covers 61 = .ok (.ifCond .ne 7, 3) := by decide +kernel
theorem d_M_covers_64 : decode b_M_covers 64 = .ok (.iconst 1, 1) := by decide +kernel
theorem d_M_covers_65 : decode b_M_covers 65 = .ok (.goto 4, 3) := by decide +kernel
theorem d_M_covers_68 : decode b_M_covers 68 = .ok (.iconst 0, 1) := by decide +kernel
theorem d_M_covers_69 : decode b_M_covers 69 = .ok (.ireturn, 1) := by decide +kernel
theorem d_M_areLike_0 : decode b_M_areLike 0 = .ok (.aload_n 0, 1) := by decide +kernel
theorem d_M_areLike_1 : decode b_M_areLike 1 = .ok (.iload_n 1, 1) := by decide +kernel
theorem d_M_areLike_2 : decode b_M_areLike 2 = .ok (.invokevirtual 104, 3) := by decide +kernel
theorem d_M_areLike_5 : decode b_M_areLike 5 = .ok (.ifCond .eq 30, 3) := by decide +kernel
theorem d_M_areLike_8 : decode b_M_areLike 8 = .ok (.aload_n 0, 1) := by decide +kernel
theorem d_M_areLike_9 : decode b_M_areLike 9 = .ok (.iload_n 2, 1) := by decide +kernel
theorem d_M_areLike_10 : decode b_M_areLike 10 = .ok (.invokevirtual 104, 3) := by decide +kernel
theorem d_M_areLike_13 : decode b_M_areLike 13 = .ok (.ifCond .eq 22, 3) := by decide +kernel
theorem d_M_areLike_16 : decode b_M_areLike 16 = .ok (.aload_n 0, 1) := by decide +kernel
theorem d_M_areLike_17 : decode b_M_areLike 17 = .ok (.getfield 29, 3) := by decide +kernel
theorem d_M_areLike_20 : decode b_M_areLike 20 = .ok (.iload_n 1, 1) := by decide +kernel
theorem d_M_areLike_21 : decode b_M_areLike 21 = .ok (.iaload, 1) := by decide +kernel
theorem d_M_areLike_22 : decode b_M_areLike 22 = .ok (.aload_n 0, 1) := by decide +kernel
theorem d_M_areLike_23 : decode b_M_areLike 23 = .ok (.getfield 29, 3) := by decide +kernel
theorem d_M_areLike_26 : decode b_M_areLike 26 = .ok (.iload_n 2, 1) := by decide +kernel
theorem d_M_areLike_27 : decode b_M_areLike 27 = .ok (.iaload, 1) := by decide +kernel
theorem d_M_areLike_28 : decode b_M_areLike 28 = .ok (.if_icmp .ne 7, 3) := by decide +kernel
theorem d_M_areLike_31 : decode b_M_areLike 31 = .ok (.iconst 1, 1) := by decide +kernel
theorem d_M_areLike_32 : decode b_M_areLike 32 = .ok (.goto 4, 3) := by decide +kernel
theorem d_M_areLike_35 : decode b_M_areLike 35 = .ok (.iconst 0, 1) := by decide +kernel
theorem d_M_areLike_36 : decode b_M_areLike 36 = .ok (.ireturn, 1) := by decide +kernel
theorem d_M_meets_0 : decode b_M_meets 0 = .ok (.aload_n 0, 1) := by decide +kernel
theorem d_M_meets_1 : decode b_M_meets 1 = .ok (.aload_n 0, 1) := by decide +kernel
theorem d_M_meets_2 : decode b_M_meets 2 = .ok (.iload_n 1, 1) := by decide +kernel
theorem d_M_meets_3 : decode b_M_meets 3 = .ok (.iload_n 2, 1) := by decide +kernel
theorem d_M_meets_4 : decode b_M_meets 4 = .ok (.invokevirtual 168, 3) := by decide +kernel
theorem d_M_meets_7 : decode b_M_meets 7 = .ok (.ifCond .eq 7, 3) := by decide +kernel
theorem d_M_meets_10 : decode b_M_meets 10 = .ok (.iconst 0, 1) := by decide +kernel
theorem d_M_meets_11 : decode b_M_meets 11 = .ok (.goto 4, 3) := by decide +kernel
theorem d_M_meets_14 : decode b_M_meets 14 = .ok (.iconst 1, 1) := by decide +kernel
theorem d_M_meets_15 : decode b_M_meets 15 = .ok (.putfield 87, 3) := by decide +kernel
theorem d_M_meets_18 : decode b_M_meets 18 = .ok (.aload_n 0, 1) := by decide +kernel
theorem d_M_meets_19 : decode b_M_meets 19 = .ok (.getfield 87, 3) := by decide +kernel
theorem d_M_meets_22 : decode b_M_meets 22 = .ok (.ifCond .le 5, 3) := by decide +kernel
theorem d_M_meets_25 : decode b_M_meets 25 = .ok (.iconst 0, 1) := by decide +kernel
theorem d_M_meets_26 : decode b_M_meets 26 = .ok (.ireturn, 1) := by decide +kernel
theorem d_M_meets_27 : decode b_M_meets 27 = .ok (.aload_n 0, 1) := by decide +kernel
theorem d_M_meets_28 : decode b_M_meets 28 = .ok (.iconst 2, 1) := by decide +kernel
theorem d_M_meets_29 : decode b_M_meets 29 = .ok (.putfield 143, 3) := by decide +kernel
theorem d_M_meets_32 : decode b_M_meets 32 = .ok (.aload_n 0, 1) := by decide +kernel
theorem d_M_meets_33 : decode b_M_meets 33 = .ok (.getfield 78, 3) := by decide +kernel
theorem d_M_meets_36 : decode b_M_meets 36 = .ok (.iconst 0, 1) := by decide +kernel
theorem d_M_meets_37 : decode b_M_meets 37 = .ok (.iload_n 1, 1) := by decide +kernel
theorem d_M_meets_38 : decode b_M_meets 38 = .ok (.iastore, 1) := by decide +kernel
theorem d_M_meets_39 : decode b_M_meets 39 = .ok (.aload_n 0, 1) := by decide +kernel
theorem d_M_meets_40 : decode b_M_meets 40 = .ok (.getfield 78, 3) := by decide +kernel
theorem d_M_meets_43 : decode b_M_meets 43 = .ok (.iconst 1, 1) := by decide +kernel
theorem d_M_meets_44 : decode b_M_meets 44 = .ok (.iload_n 2, 1) := by decide +kernel
theorem d_M_meets_45 : decode b_M_meets 45 = .ok (.iastore, 1) := by decide +kernel
theorem d_M_meets_46 : decode b_M_meets 46 = .ok (.aload_n 0, 1) := by decide +kernel
theorem d_M_meets_47 : decode b_M_meets 47 = .ok (.iconst 0, 1) := by decide +kernel
theorem d_M_meets_48 : decode b_M_meets 48 = .ok (.putfield 146, 3) := by decide +kernel
theorem d_M_meets_51 : decode b_M_meets 51 = .ok (.aload_n 0, 1) := by decide +kernel
theorem d_M_meets_52 : decode b_M_meets 52 = .ok (.aload_n 0, 1) := by decide +kernel
theorem d_M_meets_53 : decode b_M_meets 53 = .ok (.getfield 29, 3) := by decide +kernel
theorem d_M_meets_56 : decode b_M_meets 56 = .ok (.iload_n 1, 1) := by decide +kernel
theorem d_M_meets_57 : decode b_M_meets 57 = .ok (.iaload, 1) := by decide +kernel
theorem d_M_meets_58 : decode b_M_meets 58 = .ok (.invokevirtual 162, 3) := by decide +kernel
theorem d_M_meets_61 : decode b_M_meets 61 = .ok (.ireturn, 1) := by decide +kernel
theorem d_M_lives_0 : decode b_M_lives 0 = .ok (.aload_n 0, 1) := by decide +kernel
theorem d_M_lives_1 : decode b_M_lives 1 = .ok (.aload_n 0, 1) := by decide +kernel
theorem d_M_lives_2 : decode b_M_lives 2 = .ok (.iload_n 1, 1) := by decide +kernel
theorem d_M_lives_3 : decode b_M_lives 3 = .ok (.invokevirtual 93, 3) := by decide +kernel
theorem d_M_lives_6 : decode b_M_lives 6 = .ok (.ifCond .eq 7, 3) := by decide +kernel
theorem d_M_lives_9 : decode b_M_lives 9 = .ok (.iconst 0, 1) := by decide +kernel
theorem d_M_lives_10 : decode b_M_lives 10 = .ok (.goto 4, 3) := by decide +kernel
theorem d_M_lives_13 : decode b_M_lives 13 = .ok (.iconst 1, 1) := by decide +kernel
theorem d_M_lives_14 : decode b_M_lives 14 = .ok (.putfield 87, 3) := by decide +kernel
theorem d_M_lives_17 : decode b_M_lives 17 = .ok (.aload_n 0, 1) := by decide +kernel
theorem d_M_lives_18 : decode b_M_lives 18 = .ok (.getfield 87, 3) := by decide +kernel
theorem d_M_lives_21 : decode b_M_lives 21 = .ok (.ifCond .le 5, 3) := by decide +kernel
theorem d_M_lives_24 : decode b_M_lives 24 = .ok (.iconst 0, 1) := by decide +kernel
theorem d_M_lives_25 : decode b_M_lives 25 = .ok (.ireturn, 1) := by decide +kernel
theorem d_M_lives_26 : decode b_M_lives 26 = .ok (.aload_n 0, 1) := by decide +kernel
theorem d_M_lives_27 : decode b_M_lives 27 = .ok (.invokevirtual 153, 3) := by decide +kernel
theorem d_M_lives_30 : decode b_M_lives 30 = .ok (.aload_n 0, 1) := by decide +kernel
theorem d_M_lives_31 : decode b_M_lives 31 = .ok (.getfield 47, 3) := by decide +kernel
theorem d_M_lives_34 : decode b_M_lives 34 = .ok (.iload_n 1, 1) := by decide +kernel
theorem d_M_lives_35 : decode b_M_lives 35 = .ok (.baload, 1) := by decide +kernel
theorem d_M_lives_36 : decode b_M_lives 36 = .ok (.ireturn, 1) := by decide +kernel
theorem d_M_count_0 : decode b_M_count 0 = .ok (.aload_n 0, 1) := by decide +kernel
theorem d_M_count_1 : decode b_M_count 1 = .ok (.iconst 0, 1) := by decide +kernel
theorem d_M_count_2 : decode b_M_count 2 = .ok (.putfield 87, 3) := by decide +kernel
theorem d_M_count_5 : decode b_M_count 5 = .ok (.iconst 0, 1) := by decide +kernel
theorem d_M_count_6 : decode b_M_count 6 = .ok (.istore_n 2, 1) := by decide +kernel
theorem d_M_count_7 : decode b_M_count 7 = .ok (.iload_n 1, 1) := by decide +kernel
theorem d_M_count_8 : decode b_M_count 8 = .ok (.tableswitch 123 0 5 #[40, 45, 50, 55, 60, 89], 40) := by decide +kernel
theorem d_M_count_48 : decode b_M_count 48 = .ok (.aload_n 0, 1) := by decide +kernel
theorem d_M_count_49 : decode b_M_count 49 = .ok (.getfield 7, 3) := by decide +kernel
theorem d_M_count_52 : decode b_M_count 52 = .ok (.ireturn, 1) := by decide +kernel
theorem d_M_count_53 : decode b_M_count 53 = .ok (.aload_n 0, 1) := by decide +kernel
theorem d_M_count_54 : decode b_M_count 54 = .ok (.getfield 97, 3) := by decide +kernel
theorem d_M_count_57 : decode b_M_count 57 = .ok (.ireturn, 1) := by decide +kernel
theorem d_M_count_58 : decode b_M_count 58 = .ok (.aload_n 0, 1) := by decide +kernel
theorem d_M_count_59 : decode b_M_count 59 = .ok (.getfield 90, 3) := by decide +kernel
theorem d_M_count_62 : decode b_M_count 62 = .ok (.ireturn, 1) := by decide +kernel
theorem d_M_count_63 : decode b_M_count 63 = .ok (.aload_n 0, 1) := by decide +kernel
theorem d_M_count_64 : decode b_M_count 64 = .ok (.getfield 107, 3) := by decide +kernel
theorem d_M_count_67 : decode b_M_count 67 = .ok (.ireturn, 1) := by decide +kernel
theorem d_M_count_68 : decode b_M_count 68 = .ok (.iconst 0, 1) := by decide +kernel
theorem d_M_count_69 : decode b_M_count 69 = .ok (.istore_n 3, 1) := by decide +kernel
theorem d_M_count_70 : decode b_M_count 70 = .ok (.iload_n 3, 1) := by decide +kernel
theorem d_M_count_71 : decode b_M_count 71 = .ok (.aload_n 0, 1) := by decide +kernel
theorem d_M_count_72 : decode b_M_count 72 = .ok (.getfield 107, 3) := by decide +kernel
theorem d_M_count_75 : decode b_M_count 75 = .ok (.if_icmp .ge 20, 3) := by decide +kernel
theorem d_M_count_78 : decode b_M_count 78 = .ok (.aload_n 0, 1) := by decide +kernel
theorem d_M_count_79 : decode b_M_count 79 = .ok (.iload_n 3, 1) := by decide +kernel
theorem d_M_count_80 : decode b_M_count 80 = .ok (.invokevirtual 165, 3) := by decide +kernel
theorem d_M_count_83 : decode b_M_count 83 = .ok (.ifCond .eq 6, 3) := by decide +kernel
theorem d_M_count_86 : decode b_M_count 86 = .ok (.iinc 2 1, 3) := by decide +kernel
theorem d_M_count_89 : decode b_M_count 89 = .ok (.iinc 3 1, 3) := by decide +kernel
theorem d_M_count_92 : decode b_M_count 92 = .ok (.goto (-22), 3) := by decide +kernel
theorem d_M_count_95 : decode b_M_count 95 = .ok (.iload_n 2, 1) := by decide +kernel
theorem d_M_count_96 : decode b_M_count 96 = .ok (.ireturn, 1) := by decide +kernel
theorem d_M_count_97 : decode b_M_count 97 = .ok (.aload_n 0, 1) := by decide +kernel
theorem d_M_count_98 : decode b_M_count 98 = .ok (.invokevirtual 153, 3) := by decide +kernel
theorem d_M_count_101 : decode b_M_count 101 = .ok (.iconst 0, 1) := by decide +kernel
theorem d_M_count_102 : decode b_M_count 102 = .ok (.istore_n 3, 1) := by decide +kernel
theorem d_M_count_103 : decode b_M_count 103 = .ok (.iload_n 3, 1) := by decide +kernel
theorem d_M_count_104 : decode b_M_count 104 = .ok (.aload_n 0, 1) := by decide +kernel
theorem d_M_count_105 : decode b_M_count 105 = .ok (.getfield 7, 3) := by decide +kernel
theorem d_M_count_108 : decode b_M_count 108 = .ok (.if_icmp .ge 21, 3) := by decide +kernel
theorem d_M_count_111 : decode b_M_count 111 = .ok (.aload_n 0, 1) := by decide +kernel
theorem d_M_count_112 : decode b_M_count 112 = .ok (.getfield 47, 3) := by decide +kernel
theorem d_M_count_115 : decode b_M_count 115 = .ok (.iload_n 3, 1) := by decide +kernel
theorem d_M_count_116 : decode b_M_count 116 = .ok (.baload, 1) := by decide +kernel
theorem d_M_count_117 : decode b_M_count 117 = .ok (.ifCond .eq 6, 3) := by decide +kernel
theorem d_M_count_120 : decode b_M_count 120 = .ok (.iinc 2 1, 3) := by decide +kernel
theorem d_M_count_123 : decode b_M_count 123 = .ok (.iinc 3 1, 3) := by decide +kernel
theorem d_M_count_126 : decode b_M_count 126 = .ok (.goto (-23), 3) := by decide +kernel
theorem d_M_count_129 : decode b_M_count 129 = .ok (.iload_n 2, 1) := by decide +kernel
theorem d_M_count_130 : decode b_M_count 130 = .ok (.ireturn, 1) := by decide +kernel
theorem d_M_count_131 : decode b_M_count 131 = .ok (.iconst (-1), 1) := by decide +kernel
theorem d_M_count_132 : decode b_M_count 132 = .ok (.ireturn, 1) := by decide +kernel
theorem d_L_law_0 : decode b_L_law 0 = .ok (.new 8, 3) := by decide +kernel
theorem d_L_law_3 : decode b_L_law 3 = .ok (.dup, 1) := by decide +kernel
theorem d_L_law_4 : decode b_L_law 4 = .ok (.invokespecial 53, 3) := by decide +kernel
theorem d_L_law_7 : decode b_L_law 7 = .ok (.astore_n 1, 1) := by decide +kernel
theorem d_L_law_8 : decode b_L_law 8 = .ok (.new 54, 3) := by decide +kernel
theorem d_L_law_11 : decode b_L_law 11 = .ok (.dup, 1) := by decide +kernel
theorem d_L_law_12 : decode b_L_law 12 = .ok (.invokespecial 56, 3) := by decide +kernel
theorem d_L_law_15 : decode b_L_law 15 = .ok (.astore_n 2, 1) := by decide +kernel
theorem d_L_law_16 : decode b_L_law 16 = .ok (.iconst 1, 1) := by decide +kernel
theorem d_L_law_17 : decode b_L_law 17 = .ok (.newarray .long, 2) := by decide +kernel
theorem d_L_law_19 : decode b_L_law 19 = .ok (.astore_n 3, 1) := by decide +kernel
theorem d_L_law_20 : decode b_L_law 20 = .ok (.iconst 0, 1) := by decide +kernel
theorem d_L_law_21 : decode b_L_law 21 = .ok (.istore 4, 2) := by decide +kernel
theorem d_L_law_23 : decode b_L_law 23 = .ok (.iload 4, 2) := by decide +kernel
theorem d_L_law_25 : decode b_L_law 25 = .ok (.aload_n 0, 1) := by decide +kernel
theorem d_L_law_26 : decode b_L_law 26 = .ok (.arraylength, 1) := by decide +kernel
theorem d_L_law_27 : decode b_L_law 27 = .ok (.iconst 5, 1) := by decide +kernel
theorem d_L_law_28 : decode b_L_law 28 = .ok (.isub, 1) := by decide +kernel
theorem d_L_law_29 : decode b_L_law 29 = .ok (.if_icmp .gt 822, 3) := by decide +kernel
theorem d_L_law_32 : decode b_L_law 32 = .ok (.aload_n 0, 1) := by decide +kernel
theorem d_L_law_33 : decode b_L_law 33 = .ok (.iload 4, 2) := by decide +kernel
theorem d_L_law_35 : decode b_L_law 35 = .ok (.iaload, 1) := by decide +kernel
theorem d_L_law_36 : decode b_L_law 36 = .ok (.bipush 15, 2) := by decide +kernel
theorem d_L_law_38 : decode b_L_law 38 = .ok (.iand, 1) := by decide +kernel
theorem d_L_law_39 : decode b_L_law 39 = .ok (.tableswitch 806 0 12 #[65, 109, 201, 257, 313, 393, 429, 492, 555, 568, 643, 718, 781], 65) := by decide +kernel
theorem d_L_law_104 : decode b_L_law 104 = .ok (.aload_n 1, 1) := by decide +kernel
theorem d_L_law_105 : decode b_L_law 105 = .ok (.aload_n 3, 1) := by decide +kernel
theorem d_L_law_106 : decode b_L_law 106 = .ok (.invokestatic 57, 3) := by decide +kernel
theorem d_L_law_109 : decode b_L_law 109 = .ok (.istore 5, 2) := by decide +kernel
theorem d_L_law_111 : decode b_L_law 111 = .ok (.aload_n 2, 1) := by decide +kernel
theorem d_L_law_112 : decode b_L_law 112 = .ok (.invokevirtual 62, 3) := by decide +kernel
theorem d_L_law_115 : decode b_L_law 115 = .ok (.istore 6, 2) := by decide +kernel
theorem d_L_law_117 : decode b_L_law 117 = .ok (.aload_n 2, 1) := by decide +kernel
theorem d_L_law_118 : decode b_L_law 118 = .ok (.invokevirtual 63, 3) := by decide +kernel
theorem d_L_law_121 : decode b_L_law 121 = .ok (.iload 5, 2) := by decide +kernel
theorem d_L_law_123 : decode b_L_law 123 = .ok (.if_icmp .eq 5, 3) := by decide +kernel
theorem d_L_law_126 : decode b_L_law 126 = .ok (.iconst 0, 1) := by decide +kernel
theorem d_L_law_127 : decode b_L_law 127 = .ok (.ireturn, 1) := by decide +kernel
theorem d_L_law_128 : decode b_L_law 128 = .ok (.iload 5, 2) := by decide +kernel
theorem d_L_law_130 : decode b_L_law 130 = .ok (.ifCond .ne 15, 3) := by decide +kernel
theorem d_L_law_133 : decode b_L_law 133 = .ok (.aload_n 3, 1) := by decide +kernel
theorem d_L_law_134 : decode b_L_law 134 = .ok (.iconst 0, 1) := by decide +kernel
theorem d_L_law_135 : decode b_L_law 135 = .ok (.laload, 1) := by decide +kernel
theorem d_L_law_136 : decode b_L_law 136 = .ok (.iload 6, 2) := by decide +kernel
theorem d_L_law_138 : decode b_L_law 138 = .ok (.i2l, 1) := by decide +kernel
theorem d_L_law_139 : decode b_L_law 139 = .ok (.lcmp, 1) := by decide +kernel
theorem d_L_law_140 : decode b_L_law 140 = .ok (.ifCond .eq 5, 3) := by decide +kernel
theorem d_L_law_143 : decode b_L_law 143 = .ok (.iconst 0, 1) := by decide +kernel
theorem d_L_law_144 : decode b_L_law 144 = .ok (.ireturn, 1) := by decide +kernel
theorem d_L_law_145 : decode b_L_law 145 = .ok (.goto 700, 3) := by decide +kernel
theorem d_L_law_148 : decode b_L_law 148 = .ok (.aload_n 1, 1) := by decide +kernel
theorem d_L_law_149 : decode b_L_law 149 = .ok (.aload_n 0, 1) := by decide +kernel
theorem d_L_law_150 : decode b_L_law 150 = .ok (.iload 4, 2) := by decide +kernel
theorem d_L_law_152 : decode b_L_law 152 = .ok (.iconst 1, 1) := by decide +kernel
theorem d_L_law_153 : decode b_L_law 153 = .ok (.iadd, 1) := by decide +kernel
theorem d_L_law_154 : decode b_L_law 154 = .ok (.iaload, 1) := by decide +kernel
theorem d_L_law_155 : decode b_L_law 155 = .ok (.aload_n 0, 1) := by decide +kernel
theorem d_L_law_156 : decode b_L_law 156 = .ok (.iload 4, 2) := by decide +kernel
theorem d_L_law_158 : decode b_L_law 158 = .ok (.iconst 2, 1) := by decide +kernel
theorem d_L_law_159 : decode b_L_law 159 = .ok (.iadd, 1) := by decide +kernel
theorem d_L_law_160 : decode b_L_law 160 = .ok (.iaload, 1) := by decide +kernel
theorem d_L_law_161 : decode b_L_law 161 = .ok (.aload_n 0, 1) := by decide +kernel
theorem d_L_law_162 : decode b_L_law 162 = .ok (.iload 4, 2) := by decide +kernel
theorem d_L_law_164 : decode b_L_law 164 = .ok (.iconst 3, 1) := by decide +kernel
theorem d_L_law_165 : decode b_L_law 165 = .ok (.iadd, 1) := by decide +kernel
theorem d_L_law_166 : decode b_L_law 166 = .ok (.iaload, 1) := by decide +kernel
theorem d_L_law_167 : decode b_L_law 167 = .ok (.aload_n 0, 1) := by decide +kernel
theorem d_L_law_168 : decode b_L_law 168 = .ok (.iload 4, 2) := by decide +kernel
theorem d_L_law_170 : decode b_L_law 170 = .ok (.iconst 4, 1) := by decide +kernel
theorem d_L_law_171 : decode b_L_law 171 = .ok (.iadd, 1) := by decide +kernel
theorem d_L_law_172 : decode b_L_law 172 = .ok (.iaload, 1) := by decide +kernel
theorem d_L_law_173 : decode b_L_law 173 = .ok (.aload_n 3, 1) := by decide +kernel
theorem d_L_law_174 : decode b_L_law 174 = .ok (.invokestatic 66, 3) := by decide +kernel
theorem d_L_law_177 : decode b_L_law 177 = .ok (.istore 5, 2) := by decide +kernel
theorem d_L_law_179 : decode b_L_law 179 = .ok (.aload_n 2, 1) := by decide +kernel
theorem d_L_law_180 : decode b_L_law 180 = .ok (.aload_n 0, 1) := by decide +kernel
theorem d_L_law_181 : decode b_L_law 181 = .ok (.iload 4, 2) := by decide +kernel
theorem d_L_law_183 : decode b_L_law 183 = .ok (.iconst 1, 1) := by decide +kernel
theorem d_L_law_184 : decode b_L_law 184 = .ok (.iadd, 1) := by decide +kernel
theorem d_L_law_185 : decode b_L_law 185 = .ok (.iaload, 1) := by decide +kernel
theorem d_L_law_186 : decode b_L_law 186 = .ok (.aload_n 0, 1) := by decide +kernel
theorem d_L_law_187 : decode b_L_law 187 = .ok (.iload 4, 2) := by decide +kernel
theorem d_L_law_189 : decode b_L_law 189 = .ok (.iconst 2, 1) := by decide +kernel
theorem d_L_law_190 : decode b_L_law 190 = .ok (.iadd, 1) := by decide +kernel
theorem d_L_law_191 : decode b_L_law 191 = .ok (.iaload, 1) := by decide +kernel
theorem d_L_law_192 : decode b_L_law 192 = .ok (.aload_n 0, 1) := by decide +kernel
theorem d_L_law_193 : decode b_L_law 193 = .ok (.iload 4, 2) := by decide +kernel
theorem d_L_law_195 : decode b_L_law 195 = .ok (.iconst 3, 1) := by decide +kernel
theorem d_L_law_196 : decode b_L_law 196 = .ok (.iadd, 1) := by decide +kernel
theorem d_L_law_197 : decode b_L_law 197 = .ok (.iaload, 1) := by decide +kernel
theorem d_L_law_198 : decode b_L_law 198 = .ok (.aload_n 0, 1) := by decide +kernel
theorem d_L_law_199 : decode b_L_law 199 = .ok (.iload 4, 2) := by decide +kernel
theorem d_L_law_201 : decode b_L_law 201 = .ok (.iconst 4, 1) := by decide +kernel
theorem d_L_law_202 : decode b_L_law 202 = .ok (.iadd, 1) := by decide +kernel
theorem d_L_law_203 : decode b_L_law 203 = .ok (.iaload, 1) := by decide +kernel
theorem d_L_law_204 : decode b_L_law 204 = .ok (.invokevirtual 69, 3) := by decide +kernel
theorem d_L_law_207 : decode b_L_law 207 = .ok (.istore 6, 2) := by decide +kernel
theorem d_L_law_209 : decode b_L_law 209 = .ok (.aload_n 2, 1) := by decide +kernel
theorem d_L_law_210 : decode b_L_law 210 = .ok (.invokevirtual 63, 3) := by decide +kernel
theorem d_L_law_213 : decode b_L_law 213 = .ok (.iload 5, 2) := by decide +kernel
theorem d_L_law_215 : decode b_L_law 215 = .ok (.if_icmp .eq 5, 3) := by decide +kernel
theorem d_L_law_218 : decode b_L_law 218 = .ok (.iconst 0, 1) := by decide +kernel
theorem d_L_law_219 : decode b_L_law 219 = .ok (.ireturn, 1) := by decide +kernel
theorem d_L_law_220 : decode b_L_law 220 = .ok (.iload 5, 2) := by decide +kernel
theorem d_L_law_222 : decode b_L_law 222 = .ok (.ifCond .ne 15, 3) := by decide +kernel
theorem d_L_law_225 : decode b_L_law 225 = .ok (.aload_n 3, 1) := by decide +kernel
theorem d_L_law_226 : decode b_L_law 226 = .ok (.iconst 0, 1) := by decide +kernel
theorem d_L_law_227 : decode b_L_law 227 = .ok (.laload, 1) := by decide +kernel
theorem d_L_law_228 : decode b_L_law 228 = .ok (.iload 6, 2) := by decide +kernel
theorem d_L_law_230 : decode b_L_law 230 = .ok (.i2l, 1) := by decide +kernel
theorem d_L_law_231 : decode b_L_law 231 = .ok (.lcmp, 1) := by decide +kernel
theorem d_L_law_232 : decode b_L_law 232 = .ok (.ifCond .eq 5, 3) := by decide +kernel
theorem d_L_law_235 : decode b_L_law 235 = .ok (.iconst 0, 1) := by decide +kernel
theorem d_L_law_236 : decode b_L_law 236 = .ok (.ireturn, 1) := by decide +kernel
theorem d_L_law_237 : decode b_L_law 237 = .ok (.goto 608, 3) := by decide +kernel
theorem d_L_law_240 : decode b_L_law 240 = .ok (.aload_n 1, 1) := by decide +kernel
theorem d_L_law_241 : decode b_L_law 241 = .ok (.aload_n 0, 1) := by decide +kernel
theorem d_L_law_242 : decode b_L_law 242 = .ok (.iload 4, 2) := by decide +kernel
theorem d_L_law_244 : decode b_L_law 244 = .ok (.iconst 1, 1) := by decide +kernel
theorem d_L_law_245 : decode b_L_law 245 = .ok (.iadd, 1) := by decide +kernel
theorem d_L_law_246 : decode b_L_law 246 = .ok (.iaload, 1) := by decide +kernel
theorem d_L_law_247 : decode b_L_law 247 = .ok (.aload_n 3, 1) := by decide +kernel
theorem d_L_law_248 : decode b_L_law 248 = .ok (.invokestatic 70, 3) := by decide +kernel
theorem d_L_law_251 : decode b_L_law 251 = .ok (.istore 5, 2) := by decide +kernel
theorem d_L_law_253 : decode b_L_law 253 = .ok (.aload_n 2, 1) := by decide +kernel
theorem d_L_law_254 : decode b_L_law 254 = .ok (.aload_n 0, 1) := by decide +kernel
theorem d_L_law_255 : decode b_L_law 255 = .ok (.iload 4, 2) := by decide +kernel
theorem d_L_law_257 : decode b_L_law 257 = .ok (.iconst 1, 1) := by decide +kernel
theorem d_L_law_258 : decode b_L_law 258 = .ok (.iadd, 1) := by decide +kernel
theorem d_L_law_259 : decode b_L_law 259 = .ok (.iaload, 1) := by decide +kernel
theorem d_L_law_260 : decode b_L_law 260 = .ok (.invokevirtual 73, 3) := by decide +kernel
theorem d_L_law_263 : decode b_L_law 263 = .ok (.istore 6, 2) := by decide +kernel
theorem d_L_law_265 : decode b_L_law 265 = .ok (.aload_n 2, 1) := by decide +kernel
theorem d_L_law_266 : decode b_L_law 266 = .ok (.invokevirtual 63, 3) := by decide +kernel
theorem d_L_law_269 : decode b_L_law 269 = .ok (.iload 5, 2) := by decide +kernel
theorem d_L_law_271 : decode b_L_law 271 = .ok (.if_icmp .eq 5, 3) := by decide +kernel
theorem d_L_law_274 : decode b_L_law 274 = .ok (.iconst 0, 1) := by decide +kernel
theorem d_L_law_275 : decode b_L_law 275 = .ok (.ireturn, 1) := by decide +kernel
theorem d_L_law_276 : decode b_L_law 276 = .ok (.iload 5, 2) := by decide +kernel
theorem d_L_law_278 : decode b_L_law 278 = .ok (.ifCond .ne 15, 3) := by decide +kernel
theorem d_L_law_281 : decode b_L_law 281 = .ok (.aload_n 3, 1) := by decide +kernel
theorem d_L_law_282 : decode b_L_law 282 = .ok (.iconst 0, 1) := by decide +kernel
theorem d_L_law_283 : decode b_L_law 283 = .ok (.laload, 1) := by decide +kernel
theorem d_L_law_284 : decode b_L_law 284 = .ok (.iload 6, 2) := by decide +kernel
theorem d_L_law_286 : decode b_L_law 286 = .ok (.i2l, 1) := by decide +kernel
theorem d_L_law_287 : decode b_L_law 287 = .ok (.lcmp, 1) := by decide +kernel
theorem d_L_law_288 : decode b_L_law 288 = .ok (.ifCond .eq 5, 3) := by decide +kernel
theorem d_L_law_291 : decode b_L_law 291 = .ok (.iconst 0, 1) := by decide +kernel
theorem d_L_law_292 : decode b_L_law 292 = .ok (.ireturn, 1) := by decide +kernel
theorem d_L_law_293 : decode b_L_law 293 = .ok (.goto 552, 3) := by decide +kernel
theorem d_L_law_296 : decode b_L_law 296 = .ok (.aload_n 1, 1) := by decide +kernel
theorem d_L_law_297 : decode b_L_law 297 = .ok (.aload_n 0, 1) := by decide +kernel
theorem d_L_law_298 : decode b_L_law 298 = .ok (.iload 4, 2) := by decide +kernel
theorem d_L_law_300 : decode b_L_law 300 = .ok (.iconst 1, 1) := by decide +kernel
theorem d_L_law_301 : decode b_L_law 301 = .ok (.iadd, 1) := by decide +kernel
theorem d_L_law_302 : decode b_L_law 302 = .ok (.iaload, 1) := by decide +kernel
theorem d_L_law_303 : decode b_L_law 303 = .ok (.aload_n 3, 1) := by decide +kernel
theorem d_L_law_304 : decode b_L_law 304 = .ok (.invokestatic 74, 3) := by decide +kernel
theorem d_L_law_307 : decode b_L_law 307 = .ok (.istore 5, 2) := by decide +kernel
theorem d_L_law_309 : decode b_L_law 309 = .ok (.aload_n 2, 1) := by decide +kernel
theorem d_L_law_310 : decode b_L_law 310 = .ok (.aload_n 0, 1) := by decide +kernel
theorem d_L_law_311 : decode b_L_law 311 = .ok (.iload 4, 2) := by decide +kernel
theorem d_L_law_313 : decode b_L_law 313 = .ok (.iconst 1, 1) := by decide +kernel
theorem d_L_law_314 : decode b_L_law 314 = .ok (.iadd, 1) := by decide +kernel
theorem d_L_law_315 : decode b_L_law 315 = .ok (.iaload, 1) := by decide +kernel
theorem d_L_law_316 : decode b_L_law 316 = .ok (.invokevirtual 76, 3) := by decide +kernel
theorem d_L_law_319 : decode b_L_law 319 = .ok (.istore 6, 2) := by decide +kernel
theorem d_L_law_321 : decode b_L_law 321 = .ok (.aload_n 2, 1) := by decide +kernel
theorem d_L_law_322 : decode b_L_law 322 = .ok (.invokevirtual 63, 3) := by decide +kernel
theorem d_L_law_325 : decode b_L_law 325 = .ok (.iload 5, 2) := by decide +kernel
theorem d_L_law_327 : decode b_L_law 327 = .ok (.if_icmp .eq 5, 3) := by decide +kernel
theorem d_L_law_330 : decode b_L_law 330 = .ok (.iconst 0, 1) := by decide +kernel
theorem d_L_law_331 : decode b_L_law 331 = .ok (.ireturn, 1) := by decide +kernel
theorem d_L_law_332 : decode b_L_law 332 = .ok (.iload 5, 2) := by decide +kernel
theorem d_L_law_334 : decode b_L_law 334 = .ok (.ifCond .ne 15, 3) := by decide +kernel
theorem d_L_law_337 : decode b_L_law 337 = .ok (.aload_n 3, 1) := by decide +kernel
theorem d_L_law_338 : decode b_L_law 338 = .ok (.iconst 0, 1) := by decide +kernel
theorem d_L_law_339 : decode b_L_law 339 = .ok (.laload, 1) := by decide +kernel
theorem d_L_law_340 : decode b_L_law 340 = .ok (.iload 6, 2) := by decide +kernel
theorem d_L_law_342 : decode b_L_law 342 = .ok (.i2l, 1) := by decide +kernel
theorem d_L_law_343 : decode b_L_law 343 = .ok (.lcmp, 1) := by decide +kernel
theorem d_L_law_344 : decode b_L_law 344 = .ok (.ifCond .eq 5, 3) := by decide +kernel
theorem d_L_law_347 : decode b_L_law 347 = .ok (.iconst 0, 1) := by decide +kernel
theorem d_L_law_348 : decode b_L_law 348 = .ok (.ireturn, 1) := by decide +kernel
theorem d_L_law_349 : decode b_L_law 349 = .ok (.goto 496, 3) := by decide +kernel
theorem d_L_law_352 : decode b_L_law 352 = .ok (.aload_n 1, 1) := by decide +kernel
theorem d_L_law_353 : decode b_L_law 353 = .ok (.aload_n 0, 1) := by decide +kernel
theorem d_L_law_354 : decode b_L_law 354 = .ok (.iload 4, 2) := by decide +kernel
theorem d_L_law_356 : decode b_L_law 356 = .ok (.iconst 1, 1) := by decide +kernel
theorem d_L_law_357 : decode b_L_law 357 = .ok (.iadd, 1) := by decide +kernel
theorem d_L_law_358 : decode b_L_law 358 = .ok (.iaload, 1) := by decide +kernel
theorem d_L_law_359 : decode b_L_law 359 = .ok (.aload_n 0, 1) := by decide +kernel
theorem d_L_law_360 : decode b_L_law 360 = .ok (.iload 4, 2) := by decide +kernel
theorem d_L_law_362 : decode b_L_law 362 = .ok (.iconst 2, 1) := by decide +kernel
theorem d_L_law_363 : decode b_L_law 363 = .ok (.iadd, 1) := by decide +kernel
theorem d_L_law_364 : decode b_L_law 364 = .ok (.iaload, 1) := by decide +kernel
theorem d_L_law_365 : decode b_L_law 365 = .ok (.aload_n 0, 1) := by decide +kernel
theorem d_L_law_366 : decode b_L_law 366 = .ok (.iload 4, 2) := by decide +kernel
theorem d_L_law_368 : decode b_L_law 368 = .ok (.iconst 3, 1) := by decide +kernel
theorem d_L_law_369 : decode b_L_law 369 = .ok (.iadd, 1) := by decide +kernel
theorem d_L_law_370 : decode b_L_law 370 = .ok (.iaload, 1) := by decide +kernel
theorem d_L_law_371 : decode b_L_law 371 = .ok (.aload_n 3, 1) := by decide +kernel
theorem d_L_law_372 : decode b_L_law 372 = .ok (.invokestatic 77, 3) := by decide +kernel
theorem d_L_law_375 : decode b_L_law 375 = .ok (.istore 5, 2) := by decide +kernel
theorem d_L_law_377 : decode b_L_law 377 = .ok (.aload_n 2, 1) := by decide +kernel
theorem d_L_law_378 : decode b_L_law 378 = .ok (.aload_n 0, 1) := by decide +kernel
theorem d_L_law_379 : decode b_L_law 379 = .ok (.iload 4, 2) := by decide +kernel
theorem d_L_law_381 : decode b_L_law 381 = .ok (.iconst 1, 1) := by decide +kernel
theorem d_L_law_382 : decode b_L_law 382 = .ok (.iadd, 1) := by decide +kernel
theorem d_L_law_383 : decode b_L_law 383 = .ok (.iaload, 1) := by decide +kernel
theorem d_L_law_384 : decode b_L_law 384 = .ok (.aload_n 0, 1) := by decide +kernel
theorem d_L_law_385 : decode b_L_law 385 = .ok (.iload 4, 2) := by decide +kernel
theorem d_L_law_387 : decode b_L_law 387 = .ok (.iconst 2, 1) := by decide +kernel
theorem d_L_law_388 : decode b_L_law 388 = .ok (.iadd, 1) := by decide +kernel
theorem d_L_law_389 : decode b_L_law 389 = .ok (.iaload, 1) := by decide +kernel
theorem d_L_law_390 : decode b_L_law 390 = .ok (.aload_n 0, 1) := by decide +kernel
theorem d_L_law_391 : decode b_L_law 391 = .ok (.iload 4, 2) := by decide +kernel
theorem d_L_law_393 : decode b_L_law 393 = .ok (.iconst 3, 1) := by decide +kernel
theorem d_L_law_394 : decode b_L_law 394 = .ok (.iadd, 1) := by decide +kernel
theorem d_L_law_395 : decode b_L_law 395 = .ok (.iaload, 1) := by decide +kernel
theorem d_L_law_396 : decode b_L_law 396 = .ok (.invokevirtual 80, 3) := by decide +kernel
theorem d_L_law_399 : decode b_L_law 399 = .ok (.istore 6, 2) := by decide +kernel
theorem d_L_law_401 : decode b_L_law 401 = .ok (.aload_n 2, 1) := by decide +kernel
theorem d_L_law_402 : decode b_L_law 402 = .ok (.invokevirtual 63, 3) := by decide +kernel
theorem d_L_law_405 : decode b_L_law 405 = .ok (.iload 5, 2) := by decide +kernel
theorem d_L_law_407 : decode b_L_law 407 = .ok (.if_icmp .eq 5, 3) := by decide +kernel
theorem d_L_law_410 : decode b_L_law 410 = .ok (.iconst 0, 1) := by decide +kernel
theorem d_L_law_411 : decode b_L_law 411 = .ok (.ireturn, 1) := by decide +kernel
theorem d_L_law_412 : decode b_L_law 412 = .ok (.iload 5, 2) := by decide +kernel
theorem d_L_law_414 : decode b_L_law 414 = .ok (.ifCond .ne 15, 3) := by decide +kernel
theorem d_L_law_417 : decode b_L_law 417 = .ok (.aload_n 3, 1) := by decide +kernel
theorem d_L_law_418 : decode b_L_law 418 = .ok (.iconst 0, 1) := by decide +kernel
theorem d_L_law_419 : decode b_L_law 419 = .ok (.laload, 1) := by decide +kernel
theorem d_L_law_420 : decode b_L_law 420 = .ok (.iload 6, 2) := by decide +kernel
theorem d_L_law_422 : decode b_L_law 422 = .ok (.i2l, 1) := by decide +kernel
theorem d_L_law_423 : decode b_L_law 423 = .ok (.lcmp, 1) := by decide +kernel
theorem d_L_law_424 : decode b_L_law 424 = .ok (.ifCond .eq 5, 3) := by decide +kernel
theorem d_L_law_427 : decode b_L_law 427 = .ok (.iconst 0, 1) := by decide +kernel
theorem d_L_law_428 : decode b_L_law 428 = .ok (.ireturn, 1) := by decide +kernel
theorem d_L_law_429 : decode b_L_law 429 = .ok (.goto 416, 3) := by decide +kernel
theorem d_L_law_432 : decode b_L_law 432 = .ok (.aload_n 1, 1) := by decide +kernel
theorem d_L_law_433 : decode b_L_law 433 = .ok (.aload_n 0, 1) := by decide +kernel
theorem d_L_law_434 : decode b_L_law 434 = .ok (.iload 4, 2) := by decide +kernel
theorem d_L_law_436 : decode b_L_law 436 = .ok (.iconst 1, 1) := by decide +kernel
theorem d_L_law_437 : decode b_L_law 437 = .ok (.iadd, 1) := by decide +kernel
theorem d_L_law_438 : decode b_L_law 438 = .ok (.iaload, 1) := by decide +kernel
theorem d_L_law_439 : decode b_L_law 439 = .ok (.invokestatic 81, 3) := by decide +kernel
theorem d_L_law_442 : decode b_L_law 442 = .ok (.istore 5, 2) := by decide +kernel
theorem d_L_law_444 : decode b_L_law 444 = .ok (.aload_n 2, 1) := by decide +kernel
theorem d_L_law_445 : decode b_L_law 445 = .ok (.aload_n 0, 1) := by decide +kernel
theorem d_L_law_446 : decode b_L_law 446 = .ok (.iload 4, 2) := by decide +kernel
theorem d_L_law_448 : decode b_L_law 448 = .ok (.iconst 1, 1) := by decide +kernel
theorem d_L_law_449 : decode b_L_law 449 = .ok (.iadd, 1) := by decide +kernel
theorem d_L_law_450 : decode b_L_law 450 = .ok (.iaload, 1) := by decide +kernel
theorem d_L_law_451 : decode b_L_law 451 = .ok (.invokevirtual 84, 3) := by decide +kernel
theorem d_L_law_454 : decode b_L_law 454 = .ok (.aload_n 2, 1) := by decide +kernel
theorem d_L_law_455 : decode b_L_law 455 = .ok (.invokevirtual 63, 3) := by decide +kernel
theorem d_L_law_458 : decode b_L_law 458 = .ok (.iload 5, 2) := by decide +kernel
theorem d_L_law_460 : decode b_L_law 460 = .ok (.if_icmp .eq 5, 3) := by decide +kernel
theorem d_L_law_463 : decode b_L_law 463 = .ok (.iconst 0, 1) := by decide +kernel
theorem d_L_law_464 : decode b_L_law 464 = .ok (.ireturn, 1) := by decide +kernel
theorem d_L_law_465 : decode b_L_law 465 = .ok (.goto 380, 3) := by decide +kernel
theorem d_L_law_468 : decode b_L_law 468 = .ok (.aload_n 1, 1) := by decide +kernel
theorem d_L_law_469 : decode b_L_law 469 = .ok (.aload_n 0, 1) := by decide +kernel
theorem d_L_law_470 : decode b_L_law 470 = .ok (.iload 4, 2) := by decide +kernel
theorem d_L_law_472 : decode b_L_law 472 = .ok (.iconst 1, 1) := by decide +kernel
theorem d_L_law_473 : decode b_L_law 473 = .ok (.iadd, 1) := by decide +kernel
theorem d_L_law_474 : decode b_L_law 474 = .ok (.iaload, 1) := by decide +kernel
theorem d_L_law_475 : decode b_L_law 475 = .ok (.aload_n 3, 1) := by decide +kernel
theorem d_L_law_476 : decode b_L_law 476 = .ok (.invokestatic 85, 3) := by decide +kernel
theorem d_L_law_479 : decode b_L_law 479 = .ok (.istore 5, 2) := by decide +kernel
theorem d_L_law_481 : decode b_L_law 481 = .ok (.aload_n 2, 1) := by decide +kernel
theorem d_L_law_482 : decode b_L_law 482 = .ok (.aload_n 0, 1) := by decide +kernel
theorem d_L_law_483 : decode b_L_law 483 = .ok (.iload 4, 2) := by decide +kernel
theorem d_L_law_485 : decode b_L_law 485 = .ok (.iconst 1, 1) := by decide +kernel
theorem d_L_law_486 : decode b_L_law 486 = .ok (.iadd, 1) := by decide +kernel
theorem d_L_law_487 : decode b_L_law 487 = .ok (.iaload, 1) := by decide +kernel
theorem d_L_law_488 : decode b_L_law 488 = .ok (.invokevirtual 87, 3) := by decide +kernel
theorem d_L_law_491 : decode b_L_law 491 = .ok (.istore 6, 2) := by decide +kernel
theorem d_L_law_493 : decode b_L_law 493 = .ok (.aload_n 2, 1) := by decide +kernel
theorem d_L_law_494 : decode b_L_law 494 = .ok (.invokevirtual 63, 3) := by decide +kernel
theorem d_L_law_497 : decode b_L_law 497 = .ok (.iload 5, 2) := by decide +kernel
theorem d_L_law_499 : decode b_L_law 499 = .ok (.if_icmp .eq 5, 3) := by decide +kernel
theorem d_L_law_502 : decode b_L_law 502 = .ok (.iconst 0, 1) := by decide +kernel
theorem d_L_law_503 : decode b_L_law 503 = .ok (.ireturn, 1) := by decide +kernel
theorem d_L_law_504 : decode b_L_law 504 = .ok (.iload 5, 2) := by decide +kernel
theorem d_L_law_506 : decode b_L_law 506 = .ok (.ifCond .ne 22, 3) := by decide +kernel
theorem d_L_law_509 : decode b_L_law 509 = .ok (.aload_n 3, 1) := by decide +kernel
theorem d_L_law_510 : decode b_L_law 510 = .ok (.iconst 0, 1) := by decide +kernel
theorem d_L_law_511 : decode b_L_law 511 = .ok (.laload, 1) := by decide +kernel
theorem d_L_law_512 : decode b_L_law 512 = .ok (.iload 6, 2) := by decide +kernel
theorem d_L_law_514 : decode b_L_law 514 = .ok (.ifCond .eq 7, 3) := by decide +kernel
theorem d_L_law_517 : decode b_L_law 517 = .ok (.lconst 1, 1) := by decide +kernel
theorem d_L_law_518 : decode b_L_law 518 = .ok (.goto 4, 3) := by decide +kernel
theorem d_L_law_521 : decode b_L_law 521 = .ok (.lconst 0, 1) := by decide +kernel
theorem d_L_law_522 : decode b_L_law 522 = .ok (.lcmp, 1) := by decide +kernel
theorem d_L_law_523 : decode b_L_law 523 = .ok (.ifCond .eq 5, 3) := by decide +kernel
theorem d_L_law_526 : decode b_L_law 526 = .ok (.iconst 0, 1) := by decide +kernel
theorem d_L_law_527 : decode b_L_law 527 = .ok (.ireturn, 1) := by decide +kernel
theorem d_L_law_528 : decode b_L_law 528 = .ok (.goto 317, 3) := by decide +kernel
theorem d_L_law_531 : decode b_L_law 531 = .ok (.aload_n 1, 1) := by decide +kernel
theorem d_L_law_532 : decode b_L_law 532 = .ok (.aload_n 0, 1) := by decide +kernel
theorem d_L_law_533 : decode b_L_law 533 = .ok (.iload 4, 2) := by decide +kernel
theorem d_L_law_535 : decode b_L_law 535 = .ok (.iconst 1, 1) := by decide +kernel
theorem d_L_law_536 : decode b_L_law 536 = .ok (.iadd, 1) := by decide +kernel
theorem d_L_law_537 : decode b_L_law 537 = .ok (.iaload, 1) := by decide +kernel
theorem d_L_law_538 : decode b_L_law 538 = .ok (.aload_n 3, 1) := by decide +kernel
theorem d_L_law_539 : decode b_L_law 539 = .ok (.invokestatic 88, 3) := by decide +kernel
theorem d_L_law_542 : decode b_L_law 542 = .ok (.istore 5, 2) := by decide +kernel
theorem d_L_law_544 : decode b_L_law 544 = .ok (.aload_n 2, 1) := by decide +kernel
theorem d_L_law_545 : decode b_L_law 545 = .ok (.aload_n 0, 1) := by decide +kernel
theorem d_L_law_546 : decode b_L_law 546 = .ok (.iload 4, 2) := by decide +kernel
theorem d_L_law_548 : decode b_L_law 548 = .ok (.iconst 1, 1) := by decide +kernel
theorem d_L_law_549 : decode b_L_law 549 = .ok (.iadd, 1) := by decide +kernel
theorem d_L_law_550 : decode b_L_law 550 = .ok (.iaload, 1) := by decide +kernel
theorem d_L_law_551 : decode b_L_law 551 = .ok (.invokevirtual 90, 3) := by decide +kernel
theorem d_L_law_554 : decode b_L_law 554 = .ok (.istore 6, 2) := by decide +kernel
theorem d_L_law_556 : decode b_L_law 556 = .ok (.aload_n 2, 1) := by decide +kernel
theorem d_L_law_557 : decode b_L_law 557 = .ok (.invokevirtual 63, 3) := by decide +kernel
theorem d_L_law_560 : decode b_L_law 560 = .ok (.iload 5, 2) := by decide +kernel
theorem d_L_law_562 : decode b_L_law 562 = .ok (.if_icmp .eq 5, 3) := by decide +kernel
theorem d_L_law_565 : decode b_L_law 565 = .ok (.iconst 0, 1) := by decide +kernel
theorem d_L_law_566 : decode b_L_law 566 = .ok (.ireturn, 1) := by decide +kernel
theorem d_L_law_567 : decode b_L_law 567 = .ok (.iload 5, 2) := by decide +kernel
theorem d_L_law_569 : decode b_L_law 569 = .ok (.ifCond .ne 22, 3) := by decide +kernel
theorem d_L_law_572 : decode b_L_law 572 = .ok (.aload_n 3, 1) := by decide +kernel
theorem d_L_law_573 : decode b_L_law 573 = .ok (.iconst 0, 1) := by decide +kernel
theorem d_L_law_574 : decode b_L_law 574 = .ok (.laload, 1) := by decide +kernel
theorem d_L_law_575 : decode b_L_law 575 = .ok (.iload 6, 2) := by decide +kernel
theorem d_L_law_577 : decode b_L_law 577 = .ok (.ifCond .eq 7, 3) := by decide +kernel
theorem d_L_law_580 : decode b_L_law 580 = .ok (.lconst 1, 1) := by decide +kernel
theorem d_L_law_581 : decode b_L_law 581 = .ok (.goto 4, 3) := by decide +kernel
theorem d_L_law_584 : decode b_L_law 584 = .ok (.lconst 0, 1) := by decide +kernel
theorem d_L_law_585 : decode b_L_law 585 = .ok (.lcmp, 1) := by decide +kernel
theorem d_L_law_586 : decode b_L_law 586 = .ok (.ifCond .eq 5, 3) := by decide +kernel
theorem d_L_law_589 : decode b_L_law 589 = .ok (.iconst 0, 1) := by decide +kernel
theorem d_L_law_590 : decode b_L_law 590 = .ok (.ireturn, 1) := by decide +kernel
theorem d_L_law_591 : decode b_L_law 591 = .ok (.goto 254, 3) := by decide +kernel
theorem d_L_law_594 : decode b_L_law 594 = .ok (.aload_n 1, 1) := by decide +kernel
theorem d_L_law_595 : decode b_L_law 595 = .ok (.invokevirtual 91, 3) := by decide +kernel
theorem d_L_law_598 : decode b_L_law 598 = .ok (.aload_n 2, 1) := by decide +kernel
theorem d_L_law_599 : decode b_L_law 599 = .ok (.invokevirtual 95, 3) := by decide +kernel
theorem d_L_law_602 : decode b_L_law 602 = .ok (.if_icmp .eq 243, 3) := by decide +kernel
theorem d_L_law_605 : decode b_L_law 605 = .ok (.iconst 0, 1) := by decide +kernel
theorem d_L_law_606 : decode b_L_law 606 = .ok (.ireturn, 1) := by decide +kernel
theorem d_L_law_607 : decode b_L_law 607 = .ok (.aload_n 1, 1) := by decide +kernel
theorem d_L_law_608 : decode b_L_law 608 = .ok (.aload_n 0, 1) := by decide +kernel
theorem d_L_law_609 : decode b_L_law 609 = .ok (.iload 4, 2) := by decide +kernel
theorem d_L_law_611 : decode b_L_law 611 = .ok (.iconst 1, 1) := by decide +kernel
theorem d_L_law_612 : decode b_L_law 612 = .ok (.iadd, 1) := by decide +kernel
theorem d_L_law_613 : decode b_L_law 613 = .ok (.iaload, 1) := by decide +kernel
theorem d_L_law_614 : decode b_L_law 614 = .ok (.aload_n 0, 1) := by decide +kernel
theorem d_L_law_615 : decode b_L_law 615 = .ok (.iload 4, 2) := by decide +kernel
theorem d_L_law_617 : decode b_L_law 617 = .ok (.iconst 2, 1) := by decide +kernel
theorem d_L_law_618 : decode b_L_law 618 = .ok (.iadd, 1) := by decide +kernel
theorem d_L_law_619 : decode b_L_law 619 = .ok (.iaload, 1) := by decide +kernel
theorem d_L_law_620 : decode b_L_law 620 = .ok (.aload_n 3, 1) := by decide +kernel
theorem d_L_law_621 : decode b_L_law 621 = .ok (.invokestatic 96, 3) := by decide +kernel
theorem d_L_law_624 : decode b_L_law 624 = .ok (.istore 5, 2) := by decide +kernel
theorem d_L_law_626 : decode b_L_law 626 = .ok (.aload_n 2, 1) := by decide +kernel
theorem d_L_law_627 : decode b_L_law 627 = .ok (.aload_n 0, 1) := by decide +kernel
theorem d_L_law_628 : decode b_L_law 628 = .ok (.iload 4, 2) := by decide +kernel
theorem d_L_law_630 : decode b_L_law 630 = .ok (.iconst 1, 1) := by decide +kernel
theorem d_L_law_631 : decode b_L_law 631 = .ok (.iadd, 1) := by decide +kernel
theorem d_L_law_632 : decode b_L_law 632 = .ok (.iaload, 1) := by decide +kernel
theorem d_L_law_633 : decode b_L_law 633 = .ok (.aload_n 0, 1) := by decide +kernel
theorem d_L_law_634 : decode b_L_law 634 = .ok (.iload 4, 2) := by decide +kernel
theorem d_L_law_636 : decode b_L_law 636 = .ok (.iconst 2, 1) := by decide +kernel
theorem d_L_law_637 : decode b_L_law 637 = .ok (.iadd, 1) := by decide +kernel
theorem d_L_law_638 : decode b_L_law 638 = .ok (.iaload, 1) := by decide +kernel
theorem d_L_law_639 : decode b_L_law 639 = .ok (.invokevirtual 99, 3) := by decide +kernel
theorem d_L_law_642 : decode b_L_law 642 = .ok (.istore 6, 2) := by decide +kernel
theorem d_L_law_644 : decode b_L_law 644 = .ok (.aload_n 2, 1) := by decide +kernel
theorem d_L_law_645 : decode b_L_law 645 = .ok (.invokevirtual 63, 3) := by decide +kernel
theorem d_L_law_648 : decode b_L_law 648 = .ok (.iload 5, 2) := by decide +kernel
theorem d_L_law_650 : decode b_L_law 650 = .ok (.if_icmp .eq 5, 3) := by decide +kernel
theorem d_L_law_653 : decode b_L_law 653 = .ok (.iconst 0, 1) := by decide +kernel
theorem d_L_law_654 : decode b_L_law 654 = .ok (.ireturn, 1) := by decide +kernel
theorem d_L_law_655 : decode b_L_law 655 = .ok (.iload 5, 2) := by decide +kernel
theorem d_L_law_657 : decode b_L_law 657 = .ok (.ifCond .ne 22, 3) := by decide +kernel
theorem d_L_law_660 : decode b_L_law 660 = .ok (.aload_n 3, 1) := by decide +kernel
theorem d_L_law_661 : decode b_L_law 661 = .ok (.iconst 0, 1) := by decide +kernel
theorem d_L_law_662 : decode b_L_law 662 = .ok (.laload, 1) := by decide +kernel
theorem d_L_law_663 : decode b_L_law 663 = .ok (.iload 6, 2) := by decide +kernel
theorem d_L_law_665 : decode b_L_law 665 = .ok (.ifCond .eq 7, 3) := by decide +kernel
theorem d_L_law_668 : decode b_L_law 668 = .ok (.lconst 1, 1) := by decide +kernel
theorem d_L_law_669 : decode b_L_law 669 = .ok (.goto 4, 3) := by decide +kernel
theorem d_L_law_672 : decode b_L_law 672 = .ok (.lconst 0, 1) := by decide +kernel
theorem d_L_law_673 : decode b_L_law 673 = .ok (.lcmp, 1) := by decide +kernel
theorem d_L_law_674 : decode b_L_law 674 = .ok (.ifCond .eq 5, 3) := by decide +kernel
theorem d_L_law_677 : decode b_L_law 677 = .ok (.iconst 0, 1) := by decide +kernel
theorem d_L_law_678 : decode b_L_law 678 = .ok (.ireturn, 1) := by decide +kernel
theorem d_L_law_679 : decode b_L_law 679 = .ok (.goto 166, 3) := by decide +kernel
theorem d_L_law_682 : decode b_L_law 682 = .ok (.aload_n 1, 1) := by decide +kernel
theorem d_L_law_683 : decode b_L_law 683 = .ok (.aload_n 0, 1) := by decide +kernel
theorem d_L_law_684 : decode b_L_law 684 = .ok (.iload 4, 2) := by decide +kernel
theorem d_L_law_686 : decode b_L_law 686 = .ok (.iconst 1, 1) := by decide +kernel
theorem d_L_law_687 : decode b_L_law 687 = .ok (.iadd, 1) := by decide +kernel
theorem d_L_law_688 : decode b_L_law 688 = .ok (.iaload, 1) := by decide +kernel
theorem d_L_law_689 : decode b_L_law 689 = .ok (.aload_n 0, 1) := by decide +kernel
theorem d_L_law_690 : decode b_L_law 690 = .ok (.iload 4, 2) := by decide +kernel
theorem d_L_law_692 : decode b_L_law 692 = .ok (.iconst 2, 1) := by decide +kernel
theorem d_L_law_693 : decode b_L_law 693 = .ok (.iadd, 1) := by decide +kernel
theorem d_L_law_694 : decode b_L_law 694 = .ok (.iaload, 1) := by decide +kernel
theorem d_L_law_695 : decode b_L_law 695 = .ok (.aload_n 3, 1) := by decide +kernel
theorem d_L_law_696 : decode b_L_law 696 = .ok (.invokestatic 100, 3) := by decide +kernel
theorem d_L_law_699 : decode b_L_law 699 = .ok (.istore 5, 2) := by decide +kernel
theorem d_L_law_701 : decode b_L_law 701 = .ok (.aload_n 2, 1) := by decide +kernel
theorem d_L_law_702 : decode b_L_law 702 = .ok (.aload_n 0, 1) := by decide +kernel
theorem d_L_law_703 : decode b_L_law 703 = .ok (.iload 4, 2) := by decide +kernel
theorem d_L_law_705 : decode b_L_law 705 = .ok (.iconst 1, 1) := by decide +kernel
theorem d_L_law_706 : decode b_L_law 706 = .ok (.iadd, 1) := by decide +kernel
theorem d_L_law_707 : decode b_L_law 707 = .ok (.iaload, 1) := by decide +kernel
theorem d_L_law_708 : decode b_L_law 708 = .ok (.aload_n 0, 1) := by decide +kernel
theorem d_L_law_709 : decode b_L_law 709 = .ok (.iload 4, 2) := by decide +kernel
theorem d_L_law_711 : decode b_L_law 711 = .ok (.iconst 2, 1) := by decide +kernel
theorem d_L_law_712 : decode b_L_law 712 = .ok (.iadd, 1) := by decide +kernel
theorem d_L_law_713 : decode b_L_law 713 = .ok (.iaload, 1) := by decide +kernel
theorem d_L_law_714 : decode b_L_law 714 = .ok (.invokevirtual 102, 3) := by decide +kernel
theorem d_L_law_717 : decode b_L_law 717 = .ok (.istore 6, 2) := by decide +kernel
theorem d_L_law_719 : decode b_L_law 719 = .ok (.aload_n 2, 1) := by decide +kernel
theorem d_L_law_720 : decode b_L_law 720 = .ok (.invokevirtual 63, 3) := by decide +kernel
theorem d_L_law_723 : decode b_L_law 723 = .ok (.iload 5, 2) := by decide +kernel
theorem d_L_law_725 : decode b_L_law 725 = .ok (.if_icmp .eq 5, 3) := by decide +kernel
theorem d_L_law_728 : decode b_L_law 728 = .ok (.iconst 0, 1) := by decide +kernel
theorem d_L_law_729 : decode b_L_law 729 = .ok (.ireturn, 1) := by decide +kernel
theorem d_L_law_730 : decode b_L_law 730 = .ok (.iload 5, 2) := by decide +kernel
theorem d_L_law_732 : decode b_L_law 732 = .ok (.ifCond .ne 22, 3) := by decide +kernel
theorem d_L_law_735 : decode b_L_law 735 = .ok (.aload_n 3, 1) := by decide +kernel
theorem d_L_law_736 : decode b_L_law 736 = .ok (.iconst 0, 1) := by decide +kernel
theorem d_L_law_737 : decode b_L_law 737 = .ok (.laload, 1) := by decide +kernel
theorem d_L_law_738 : decode b_L_law 738 = .ok (.iload 6, 2) := by decide +kernel
theorem d_L_law_740 : decode b_L_law 740 = .ok (.ifCond .eq 7, 3) := by decide +kernel
theorem d_L_law_743 : decode b_L_law 743 = .ok (.lconst 1, 1) := by decide +kernel
theorem d_L_law_744 : decode b_L_law 744 = .ok (.goto 4, 3) := by decide +kernel
theorem d_L_law_747 : decode b_L_law 747 = .ok (.lconst 0, 1) := by decide +kernel
theorem d_L_law_748 : decode b_L_law 748 = .ok (.lcmp, 1) := by decide +kernel
theorem d_L_law_749 : decode b_L_law 749 = .ok (.ifCond .eq 5, 3) := by decide +kernel
theorem d_L_law_752 : decode b_L_law 752 = .ok (.iconst 0, 1) := by decide +kernel
theorem d_L_law_753 : decode b_L_law 753 = .ok (.ireturn, 1) := by decide +kernel
theorem d_L_law_754 : decode b_L_law 754 = .ok (.goto 91, 3) := by decide +kernel
theorem d_L_law_757 : decode b_L_law 757 = .ok (.aload_n 1, 1) := by decide +kernel
theorem d_L_law_758 : decode b_L_law 758 = .ok (.aload_n 0, 1) := by decide +kernel
theorem d_L_law_759 : decode b_L_law 759 = .ok (.iload 4, 2) := by decide +kernel
theorem d_L_law_761 : decode b_L_law 761 = .ok (.iconst 1, 1) := by decide +kernel
theorem d_L_law_762 : decode b_L_law 762 = .ok (.iadd, 1) := by decide +kernel
theorem d_L_law_763 : decode b_L_law 763 = .ok (.iaload, 1) := by decide +kernel
theorem d_L_law_764 : decode b_L_law 764 = .ok (.aload_n 3, 1) := by decide +kernel
theorem d_L_law_765 : decode b_L_law 765 = .ok (.invokestatic 103, 3) := by decide +kernel
theorem d_L_law_768 : decode b_L_law 768 = .ok (.istore 5, 2) := by decide +kernel
theorem d_L_law_770 : decode b_L_law 770 = .ok (.aload_n 2, 1) := by decide +kernel
theorem d_L_law_771 : decode b_L_law 771 = .ok (.aload_n 0, 1) := by decide +kernel
theorem d_L_law_772 : decode b_L_law 772 = .ok (.iload 4, 2) := by decide +kernel
theorem d_L_law_774 : decode b_L_law 774 = .ok (.iconst 1, 1) := by decide +kernel
theorem d_L_law_775 : decode b_L_law 775 = .ok (.iadd, 1) := by decide +kernel
theorem d_L_law_776 : decode b_L_law 776 = .ok (.iaload, 1) := by decide +kernel
theorem d_L_law_777 : decode b_L_law 777 = .ok (.invokevirtual 105, 3) := by decide +kernel
theorem d_L_law_780 : decode b_L_law 780 = .ok (.istore 6, 2) := by decide +kernel
theorem d_L_law_782 : decode b_L_law 782 = .ok (.aload_n 2, 1) := by decide +kernel
theorem d_L_law_783 : decode b_L_law 783 = .ok (.invokevirtual 63, 3) := by decide +kernel
theorem d_L_law_786 : decode b_L_law 786 = .ok (.iload 5, 2) := by decide +kernel
theorem d_L_law_788 : decode b_L_law 788 = .ok (.if_icmp .eq 5, 3) := by decide +kernel
theorem d_L_law_791 : decode b_L_law 791 = .ok (.iconst 0, 1) := by decide +kernel
theorem d_L_law_792 : decode b_L_law 792 = .ok (.ireturn, 1) := by decide +kernel
theorem d_L_law_793 : decode b_L_law 793 = .ok (.iload 5, 2) := by decide +kernel
theorem d_L_law_795 : decode b_L_law 795 = .ok (.ifCond .ne 22, 3) := by decide +kernel
theorem d_L_law_798 : decode b_L_law 798 = .ok (.aload_n 3, 1) := by decide +kernel
theorem d_L_law_799 : decode b_L_law 799 = .ok (.iconst 0, 1) := by decide +kernel
theorem d_L_law_800 : decode b_L_law 800 = .ok (.laload, 1) := by decide +kernel
theorem d_L_law_801 : decode b_L_law 801 = .ok (.iload 6, 2) := by decide +kernel
theorem d_L_law_803 : decode b_L_law 803 = .ok (.ifCond .eq 7, 3) := by decide +kernel
theorem d_L_law_806 : decode b_L_law 806 = .ok (.lconst 1, 1) := by decide +kernel
theorem d_L_law_807 : decode b_L_law 807 = .ok (.goto 4, 3) := by decide +kernel
theorem d_L_law_810 : decode b_L_law 810 = .ok (.lconst 0, 1) := by decide +kernel
theorem d_L_law_811 : decode b_L_law 811 = .ok (.lcmp, 1) := by decide +kernel
theorem d_L_law_812 : decode b_L_law 812 = .ok (.ifCond .eq 5, 3) := by decide +kernel
theorem d_L_law_815 : decode b_L_law 815 = .ok (.iconst 0, 1) := by decide +kernel
theorem d_L_law_816 : decode b_L_law 816 = .ok (.ireturn, 1) := by decide +kernel
theorem d_L_law_817 : decode b_L_law 817 = .ok (.goto 28, 3) := by decide +kernel
theorem d_L_law_820 : decode b_L_law 820 = .ok (.aload_n 1, 1) := by decide +kernel
theorem d_L_law_821 : decode b_L_law 821 = .ok (.aload_n 0, 1) := by decide +kernel
theorem d_L_law_822 : decode b_L_law 822 = .ok (.iload 4, 2) := by decide +kernel
theorem d_L_law_824 : decode b_L_law 824 = .ok (.iconst 1, 1) := by decide +kernel
theorem d_L_law_825 : decode b_L_law 825 = .ok (.iadd, 1) := by decide +kernel
theorem d_L_law_826 : decode b_L_law 826 = .ok (.iaload, 1) := by decide +kernel
theorem d_L_law_827 : decode b_L_law 827 = .ok (.invokevirtual 106, 3) := by decide +kernel
theorem d_L_law_830 : decode b_L_law 830 = .ok (.aload_n 2, 1) := by decide +kernel
theorem d_L_law_831 : decode b_L_law 831 = .ok (.aload_n 0, 1) := by decide +kernel
theorem d_L_law_832 : decode b_L_law 832 = .ok (.iload 4, 2) := by decide +kernel
theorem d_L_law_834 : decode b_L_law 834 = .ok (.iconst 1, 1) := by decide +kernel
theorem d_L_law_835 : decode b_L_law 835 = .ok (.iadd, 1) := by decide +kernel
theorem d_L_law_836 : decode b_L_law 836 = .ok (.iaload, 1) := by decide +kernel
theorem d_L_law_837 : decode b_L_law 837 = .ok (.invokevirtual 109, 3) := by decide +kernel
theorem d_L_law_840 : decode b_L_law 840 = .ok (.if_icmp .eq 5, 3) := by decide +kernel
theorem d_L_law_843 : decode b_L_law 843 = .ok (.iconst 0, 1) := by decide +kernel
theorem d_L_law_844 : decode b_L_law 844 = .ok (.ireturn, 1) := by decide +kernel
theorem d_L_law_845 : decode b_L_law 845 = .ok (.iinc 4 5, 3) := by decide +kernel
theorem d_L_law_848 : decode b_L_law 848 = .ok (.goto (-825), 3) := by decide +kernel
theorem d_L_law_851 : decode b_L_law 851 = .ok (.iconst 1, 1) := by decide +kernel
theorem d_L_law_852 : decode b_L_law 852 = .ok (.ireturn, 1) := by decide +kernel
end
section
theorem tin_0 {w : Cond} (h : w ∈ tables_1) (k : tw_k w = true) : w ∈ tw_tbl := List.mem_filter.mpr ⟨List.mem_append_right _ h, k⟩
theorem tin_s {w : Cond} (h : w ∈ k2_sels lw_privs) (k : tw_k w = true) : w ∈ tw_tbl := List.mem_filter.mpr ⟨List.mem_append_left _ h, k⟩
theorem tin_1 {w : Cond} (h : w ∈ tables_1_1) (k : tw_k w = true) : w ∈ tw_tbl := tin_0 (List.mem_append_left _ h) k
theorem tin_2 {w : Cond} (h : w ∈ tables_1_2) (k : tw_k w = true) : w ∈ tw_tbl := tin_0 (List.mem_append_right _ (List.mem_append_left _ h)) k
theorem tin_3 {w : Cond} (h : w ∈ tables_1_3) (k : tw_k w = true) : w ∈ tw_tbl := tin_0 (List.mem_append_right _ (List.mem_append_right _ (List.mem_append_left _ h))) k
theorem tin_4 {w : Cond} (h : w ∈ tables_1_4) (k : tw_k w = true) : w ∈ tw_tbl := tin_0 (List.mem_append_right _ (List.mem_append_right _ (List.mem_append_right _ (h)))) k
/-! what the heap holds behind the constructors: K the class, M the reference, o the law's own cell -/
abbrev KC : Type := (Nat → Int32) × (Nat → Nat → Int32) × (Nat → Nat → Int64)
abbrev MC : Type := (Nat → Int32) × (Nat → Nat → Int32)
def ki (K : KC) (k : Nat) (v : Int32) : KC := (upd K.1 k v, K.2)
def ka (K : KC) (a i : Nat) (v : Int32) : KC := (K.1, va_up K.2.1 a (upd (K.2.1 a) i v), K.2.2)
def kl (K : KC) (a i : Nat) (v : Int64) : KC := (K.1, K.2.1, va_up K.2.2 a (vp_updL (K.2.2 a) i v))
def mi (M : MC) (k : Nat) (v : Int32) : MC := (upd M.1 k v, M.2)
def ma (M : MC) (a i : Nat) (v : Int32) : MC := (M.1, va_up M.2 a (upd (M.2 a) i v))
def hp (K : KC) (M : MC) (o : Nat → Int64) : List mj_C := [.inr (3, [.ref 1, .ref 7, .ref 14, .ref 29]),
  .inr (2, [.int (K.1 0), .int (K.1 1), .int (K.1 2), .int (K.1 3), .ref 2, .ref 3, .ref 4, .ref 5, .ref 6]),
  .inl (0, 12, .inl (K.2.1 2)),
  .inl (0, 30, .inl (K.2.1 3)),
  .inl (0, 30, .inl (K.2.1 4)),
  .inl (0, 30, .inl (K.2.1 5)),
  .inl (0, 30, .inl (K.2.1 6)),
  .inr (0, [.int (K.1 4), .ref 8, .ref 9, .ref 10, .ref 11, .ref 12, .ref 13]),
  .inl (0, 200, .inl (K.2.1 8)),
  .inl (0, 200, .inl (K.2.1 9)),
  .inl (0, 200, .inl (K.2.1 10)),
  .inl (0, 200, .inl (K.2.1 11)),
  .inl (0, 200, .inl (K.2.1 12)),
  .inl (0, 200, .inl (K.2.1 13)),
  .inr (1, [.ref 1, .ref 7, .int (K.1 10), .int (K.1 11), .int (K.1 12), .int (K.1 13), .ref 15, .ref 16, .ref 25, .ref 26, .ref 27, .ref 28]),
  .inl (1, 8, .inr (.inl (K.2.2 15))),
  .inl (3, 8, .inr (.inr (.inr (.inr (fun i => if i < 8 then some (17 + i) else none))))),
  .inl (0, 40, .inl (K.2.1 17)),
  .inl (0, 40, .inl (K.2.1 18)),
  .inl (0, 40, .inl (K.2.1 19)),
  .inl (0, 40, .inl (K.2.1 20)),
  .inl (0, 40, .inl (K.2.1 21)),
  .inl (0, 40, .inl (K.2.1 22)),
  .inl (0, 40, .inl (K.2.1 23)),
  .inl (0, 40, .inl (K.2.1 24)),
  .inl (0, 40, .inl (K.2.1 25)),
  .inl (0, 40, .inl (K.2.1 26)),
  .inl (0, 40, .inl (K.2.1 27)),
  .inl (0, 40, .inl (K.2.1 28)),
  .inr (1, [.ref 1, .ref 7, .int (K.1 20), .int (K.1 21), .int (K.1 22), .int (K.1 23), .ref 30, .ref 31, .ref 34, .ref 35, .ref 36, .ref 37]),
  .inl (1, 2, .inr (.inl (K.2.2 30))),
  .inl (3, 2, .inr (.inr (.inr (.inr (fun i => if i < 2 then some (32 + i) else none))))),
  .inl (0, 24, .inl (K.2.1 32)),
  .inl (0, 24, .inl (K.2.1 33)),
  .inl (0, 24, .inl (K.2.1 34)),
  .inl (0, 24, .inl (K.2.1 35)),
  .inl (0, 24, .inl (K.2.1 36)),
  .inl (0, 24, .inl (K.2.1 37)),
  .inr (4, [.int (M.1 0), .int (M.1 1), .int (M.1 2), .int (M.1 3), .int (M.1 4), .int (M.1 5), .ref 39, .ref 40, .ref 41, .ref 42, .ref 43, .ref 44, .ref 45, .ref 46, .ref 47, .ref 48, .ref 49, .ref 50, .ref 51, .ref 52, .ref 53, .ref 54, .ref 55, .int (M.1 6), .ref 56, .ref 57, .ref 58, .int (M.1 7), .int (M.1 8), .ref 59, .ref 60, .ref 61, .ref 62, .int (M.1 9), .int (M.1 10), .int (M.1 11)]),
  .inl (0, 30, .inl (M.2 39)),
  .inl (0, 30, .inl (M.2 40)),
  .inl (0, 30, .inl (M.2 41)),
  .inl (0, 30, .inl (M.2 42)),
  .inl (0, 200, .inl (M.2 43)),
  .inl (0, 200, .inl (M.2 44)),
  .inl (0, 200, .inl (M.2 45)),
  .inl (0, 200, .inl (M.2 46)),
  .inl (0, 200, .inl (M.2 47)),
  .inl (0, 200, .inl (M.2 48)),
  .inl (0, 8, .inl (M.2 49)),
  .inl (2, 12, .inl (M.2 50)),
  .inl (0, 270, .inl (M.2 51)),
  .inl (0, 270, .inl (M.2 52)),
  .inl (0, 270, .inl (M.2 53)),
  .inl (0, 270, .inl (M.2 54)),
  .inl (0, 270, .inl (M.2 55)),
  .inl (0, 130, .inl (M.2 56)),
  .inl (0, 130, .inl (M.2 57)),
  .inl (0, 130, .inl (M.2 58)),
  .inl (2, 30, .inl (M.2 59)),
  .inl (0, 2, .inl (M.2 60)),
  .inl (0, 8, .inl (M.2 61)),
  .inl (0, 130, .inl (M.2 62)),
  .inl (1, 1, .inr (.inl (o)))]
def mj_rd (A : List mj_C) (a ci k : Nat) (v : Value) : Prop := ∃ fs, A[a]? = some (.inr (ci, fs)) ∧ fs[k]? = some v
def mj_wr (A : List mj_C) (a ci k : Nat) (v : Value) (A1 : List mj_C) : Prop := ∃ fs, A[a]? = some (.inr (ci, fs)) ∧ k < fs.length ∧ A.set a (.inr (ci, fs.set k v)) = A1
theorem hp_len (K : KC) (M : MC) (o : Nat → Int64) : (hp K M o).length = 64 := rfl
theorem rd_C_sorts (K : KC) (M : MC) (o : Nat → Int64) : mj_rd (hp K M o) 0 3 0 (.ref 1) := ⟨_, rfl, rfl⟩
theorem rd_C_patterns (K : KC) (M : MC) (o : Nat → Int64) : mj_rd (hp K M o) 0 3 1 (.ref 7) := ⟨_, rfl, rfl⟩
theorem rd_C_clauses (K : KC) (M : MC) (o : Nat → Int64) : mj_rd (hp K M o) 0 3 2 (.ref 14) := ⟨_, rfl, rfl⟩
theorem rd_C_pair (K : KC) (M : MC) (o : Nat → Int64) : mj_rd (hp K M o) 0 3 3 (.ref 29) := ⟨_, rfl, rfl⟩
theorem rd_S_sortCount (K : KC) (M : MC) (o : Nat → Int64) : mj_rd (hp K M o) 1 2 0 (.int (K.1 0)) := ⟨_, rfl, rfl⟩
theorem wr_S_sortCount (K : KC) (M : MC) (o : Nat → Int64) (v : Int32) : mj_wr (hp K M o) 1 2 0 (.int v) (hp (ki K 0 v) M o) := ⟨_, rfl, Nat.le_of_ble_eq_true rfl, rfl⟩
theorem rd_S_conCount (K : KC) (M : MC) (o : Nat → Int64) : mj_rd (hp K M o) 1 2 1 (.int (K.1 1)) := ⟨_, rfl, rfl⟩
theorem wr_S_conCount (K : KC) (M : MC) (o : Nat → Int64) (v : Int32) : mj_wr (hp K M o) 1 2 1 (.int v) (hp (ki K 1 v) M o) := ⟨_, rfl, Nat.le_of_ble_eq_true rfl, rfl⟩
theorem rd_S_livingSorts (K : KC) (M : MC) (o : Nat → Int64) : mj_rd (hp K M o) 1 2 2 (.int (K.1 2)) := ⟨_, rfl, rfl⟩
theorem wr_S_livingSorts (K : KC) (M : MC) (o : Nat → Int64) (v : Int32) : mj_wr (hp K M o) 1 2 2 (.int v) (hp (ki K 2 v) M o) := ⟨_, rfl, Nat.le_of_ble_eq_true rfl, rfl⟩
theorem rd_S_livingCons (K : KC) (M : MC) (o : Nat → Int64) : mj_rd (hp K M o) 1 2 3 (.int (K.1 3)) := ⟨_, rfl, rfl⟩
theorem wr_S_livingCons (K : KC) (M : MC) (o : Nat → Int64) (v : Int32) : mj_wr (hp K M o) 1 2 3 (.int v) (hp (ki K 3 v) M o) := ⟨_, rfl, Nat.le_of_ble_eq_true rfl, rfl⟩
theorem rd_S_consOf (K : KC) (M : MC) (o : Nat → Int64) : mj_rd (hp K M o) 1 2 4 (.ref 2) := ⟨_, rfl, rfl⟩
theorem rd_S_conSort (K : KC) (M : MC) (o : Nat → Int64) : mj_rd (hp K M o) 1 2 5 (.ref 3) := ⟨_, rfl, rfl⟩
theorem rd_S_partCount (K : KC) (M : MC) (o : Nat → Int64) : mj_rd (hp K M o) 1 2 6 (.ref 4) := ⟨_, rfl, rfl⟩
theorem rd_S_firstSort (K : KC) (M : MC) (o : Nat → Int64) : mj_rd (hp K M o) 1 2 7 (.ref 5) := ⟨_, rfl, rfl⟩
theorem rd_S_secondSort (K : KC) (M : MC) (o : Nat → Int64) : mj_rd (hp K M o) 1 2 8 (.ref 6) := ⟨_, rfl, rfl⟩
theorem rd_P_patternCount (K : KC) (M : MC) (o : Nat → Int64) : mj_rd (hp K M o) 7 0 0 (.int (K.1 4)) := ⟨_, rfl, rfl⟩
theorem wr_P_patternCount (K : KC) (M : MC) (o : Nat → Int64) (v : Int32) : mj_wr (hp K M o) 7 0 0 (.int v) (hp (ki K 4 v) M o) := ⟨_, rfl, Nat.le_of_ble_eq_true rfl, rfl⟩
theorem rd_P_kind (K : KC) (M : MC) (o : Nat → Int64) : mj_rd (hp K M o) 7 0 1 (.ref 8) := ⟨_, rfl, rfl⟩
theorem rd_P_sort (K : KC) (M : MC) (o : Nat → Int64) : mj_rd (hp K M o) 7 0 2 (.ref 9) := ⟨_, rfl, rfl⟩
theorem rd_P_top (K : KC) (M : MC) (o : Nat → Int64) : mj_rd (hp K M o) 7 0 3 (.ref 10) := ⟨_, rfl, rfl⟩
theorem rd_P_first (K : KC) (M : MC) (o : Nat → Int64) : mj_rd (hp K M o) 7 0 4 (.ref 11) := ⟨_, rfl, rfl⟩
theorem rd_P_second (K : KC) (M : MC) (o : Nat → Int64) : mj_rd (hp K M o) 7 0 5 (.ref 12) := ⟨_, rfl, rfl⟩
theorem rd_P_size (K : KC) (M : MC) (o : Nat → Int64) : mj_rd (hp K M o) 7 0 6 (.ref 13) := ⟨_, rfl, rfl⟩
theorem rd_H0_sorts (K : KC) (M : MC) (o : Nat → Int64) : mj_rd (hp K M o) 14 1 0 (.ref 1) := ⟨_, rfl, rfl⟩
theorem rd_H0_patterns (K : KC) (M : MC) (o : Nat → Int64) : mj_rd (hp K M o) 14 1 1 (.ref 7) := ⟨_, rfl, rfl⟩
theorem rd_H0_sort (K : KC) (M : MC) (o : Nat → Int64) : mj_rd (hp K M o) 14 1 2 (.int (K.1 10)) := ⟨_, rfl, rfl⟩
theorem wr_H0_sort (K : KC) (M : MC) (o : Nat → Int64) (v : Int32) : mj_wr (hp K M o) 14 1 2 (.int v) (hp (ki K 10 v) M o) := ⟨_, rfl, Nat.le_of_ble_eq_true rfl, rfl⟩
theorem rd_H0_rowCount (K : KC) (M : MC) (o : Nat → Int64) : mj_rd (hp K M o) 14 1 3 (.int (K.1 11)) := ⟨_, rfl, rfl⟩
theorem wr_H0_rowCount (K : KC) (M : MC) (o : Nat → Int64) (v : Int32) : mj_wr (hp K M o) 14 1 3 (.int v) (hp (ki K 11 v) M o) := ⟨_, rfl, Nat.le_of_ble_eq_true rfl, rfl⟩
theorem rd_H0_placeCount (K : KC) (M : MC) (o : Nat → Int64) : mj_rd (hp K M o) 14 1 4 (.int (K.1 12)) := ⟨_, rfl, rfl⟩
theorem wr_H0_placeCount (K : KC) (M : MC) (o : Nat → Int64) (v : Int32) : mj_wr (hp K M o) 14 1 4 (.int v) (hp (ki K 12 v) M o) := ⟨_, rfl, Nat.le_of_ble_eq_true rfl, rfl⟩
theorem rd_H0_size (K : KC) (M : MC) (o : Nat → Int64) : mj_rd (hp K M o) 14 1 5 (.int (K.1 13)) := ⟨_, rfl, rfl⟩
theorem wr_H0_size (K : KC) (M : MC) (o : Nat → Int64) (v : Int32) : mj_wr (hp K M o) 14 1 5 (.int v) (hp (ki K 13 v) M o) := ⟨_, rfl, Nat.le_of_ble_eq_true rfl, rfl⟩
theorem rd_H0_asked (K : KC) (M : MC) (o : Nat → Int64) : mj_rd (hp K M o) 14 1 6 (.ref 15) := ⟨_, rfl, rfl⟩
theorem rd_H0_asks (K : KC) (M : MC) (o : Nat → Int64) : mj_rd (hp K M o) 14 1 7 (.ref 16) := ⟨_, rfl, rfl⟩
theorem rd_H0_placeSort (K : KC) (M : MC) (o : Nat → Int64) : mj_rd (hp K M o) 14 1 8 (.ref 25) := ⟨_, rfl, rfl⟩
theorem rd_H0_placeAbove (K : KC) (M : MC) (o : Nat → Int64) : mj_rd (hp K M o) 14 1 9 (.ref 26) := ⟨_, rfl, rfl⟩
theorem rd_H0_conAbove (K : KC) (M : MC) (o : Nat → Int64) : mj_rd (hp K M o) 14 1 10 (.ref 27) := ⟨_, rfl, rfl⟩
theorem rd_H0_partAbove (K : KC) (M : MC) (o : Nat → Int64) : mj_rd (hp K M o) 14 1 11 (.ref 28) := ⟨_, rfl, rfl⟩
theorem rd_H1_sorts (K : KC) (M : MC) (o : Nat → Int64) : mj_rd (hp K M o) 29 1 0 (.ref 1) := ⟨_, rfl, rfl⟩
theorem rd_H1_patterns (K : KC) (M : MC) (o : Nat → Int64) : mj_rd (hp K M o) 29 1 1 (.ref 7) := ⟨_, rfl, rfl⟩
theorem rd_H1_sort (K : KC) (M : MC) (o : Nat → Int64) : mj_rd (hp K M o) 29 1 2 (.int (K.1 20)) := ⟨_, rfl, rfl⟩
theorem wr_H1_sort (K : KC) (M : MC) (o : Nat → Int64) (v : Int32) : mj_wr (hp K M o) 29 1 2 (.int v) (hp (ki K 20 v) M o) := ⟨_, rfl, Nat.le_of_ble_eq_true rfl, rfl⟩
theorem rd_H1_rowCount (K : KC) (M : MC) (o : Nat → Int64) : mj_rd (hp K M o) 29 1 3 (.int (K.1 21)) := ⟨_, rfl, rfl⟩
theorem wr_H1_rowCount (K : KC) (M : MC) (o : Nat → Int64) (v : Int32) : mj_wr (hp K M o) 29 1 3 (.int v) (hp (ki K 21 v) M o) := ⟨_, rfl, Nat.le_of_ble_eq_true rfl, rfl⟩
theorem rd_H1_placeCount (K : KC) (M : MC) (o : Nat → Int64) : mj_rd (hp K M o) 29 1 4 (.int (K.1 22)) := ⟨_, rfl, rfl⟩
theorem wr_H1_placeCount (K : KC) (M : MC) (o : Nat → Int64) (v : Int32) : mj_wr (hp K M o) 29 1 4 (.int v) (hp (ki K 22 v) M o) := ⟨_, rfl, Nat.le_of_ble_eq_true rfl, rfl⟩
theorem rd_H1_size (K : KC) (M : MC) (o : Nat → Int64) : mj_rd (hp K M o) 29 1 5 (.int (K.1 23)) := ⟨_, rfl, rfl⟩
theorem wr_H1_size (K : KC) (M : MC) (o : Nat → Int64) (v : Int32) : mj_wr (hp K M o) 29 1 5 (.int v) (hp (ki K 23 v) M o) := ⟨_, rfl, Nat.le_of_ble_eq_true rfl, rfl⟩
theorem rd_H1_asked (K : KC) (M : MC) (o : Nat → Int64) : mj_rd (hp K M o) 29 1 6 (.ref 30) := ⟨_, rfl, rfl⟩
theorem rd_H1_asks (K : KC) (M : MC) (o : Nat → Int64) : mj_rd (hp K M o) 29 1 7 (.ref 31) := ⟨_, rfl, rfl⟩
theorem rd_H1_placeSort (K : KC) (M : MC) (o : Nat → Int64) : mj_rd (hp K M o) 29 1 8 (.ref 34) := ⟨_, rfl, rfl⟩
theorem rd_H1_placeAbove (K : KC) (M : MC) (o : Nat → Int64) : mj_rd (hp K M o) 29 1 9 (.ref 35) := ⟨_, rfl, rfl⟩
theorem rd_H1_conAbove (K : KC) (M : MC) (o : Nat → Int64) : mj_rd (hp K M o) 29 1 10 (.ref 36) := ⟨_, rfl, rfl⟩
theorem rd_H1_partAbove (K : KC) (M : MC) (o : Nat → Int64) : mj_rd (hp K M o) 29 1 11 (.ref 37) := ⟨_, rfl, rfl⟩
theorem rd_M_thrown (K : KC) (M : MC) (o : Nat → Int64) : mj_rd (hp K M o) 38 4 0 (.int (M.1 0)) := ⟨_, rfl, rfl⟩
theorem wr_M_thrown (K : KC) (M : MC) (o : Nat → Int64) (v : Int32) : mj_wr (hp K M o) 38 4 0 (.int v) (hp K (mi M 0 v) o) := ⟨_, rfl, Nat.le_of_ble_eq_true rfl, rfl⟩
theorem rd_M_sorts (K : KC) (M : MC) (o : Nat → Int64) : mj_rd (hp K M o) 38 4 1 (.int (M.1 1)) := ⟨_, rfl, rfl⟩
theorem wr_M_sorts (K : KC) (M : MC) (o : Nat → Int64) (v : Int32) : mj_wr (hp K M o) 38 4 1 (.int v) (hp K (mi M 1 v) o) := ⟨_, rfl, Nat.le_of_ble_eq_true rfl, rfl⟩
theorem rd_M_cons (K : KC) (M : MC) (o : Nat → Int64) : mj_rd (hp K M o) 38 4 2 (.int (M.1 2)) := ⟨_, rfl, rfl⟩
theorem wr_M_cons (K : KC) (M : MC) (o : Nat → Int64) (v : Int32) : mj_wr (hp K M o) 38 4 2 (.int v) (hp K (mi M 2 v) o) := ⟨_, rfl, Nat.le_of_ble_eq_true rfl, rfl⟩
theorem rd_M_patterns (K : KC) (M : MC) (o : Nat → Int64) : mj_rd (hp K M o) 38 4 3 (.int (M.1 3)) := ⟨_, rfl, rfl⟩
theorem wr_M_patterns (K : KC) (M : MC) (o : Nat → Int64) (v : Int32) : mj_wr (hp K M o) 38 4 3 (.int v) (hp K (mi M 3 v) o) := ⟨_, rfl, Nat.le_of_ble_eq_true rfl, rfl⟩
theorem rd_M_clauses (K : KC) (M : MC) (o : Nat → Int64) : mj_rd (hp K M o) 38 4 4 (.int (M.1 4)) := ⟨_, rfl, rfl⟩
theorem wr_M_clauses (K : KC) (M : MC) (o : Nat → Int64) (v : Int32) : mj_wr (hp K M o) 38 4 4 (.int v) (hp K (mi M 4 v) o) := ⟨_, rfl, Nat.le_of_ble_eq_true rfl, rfl⟩
theorem rd_M_clauseSort (K : KC) (M : MC) (o : Nat → Int64) : mj_rd (hp K M o) 38 4 5 (.int (M.1 5)) := ⟨_, rfl, rfl⟩
theorem wr_M_clauseSort (K : KC) (M : MC) (o : Nat → Int64) (v : Int32) : mj_wr (hp K M o) 38 4 5 (.int v) (hp K (mi M 5 v) o) := ⟨_, rfl, Nat.le_of_ble_eq_true rfl, rfl⟩
theorem rd_M_conSort (K : KC) (M : MC) (o : Nat → Int64) : mj_rd (hp K M o) 38 4 6 (.ref 39) := ⟨_, rfl, rfl⟩
theorem rd_M_conParts (K : KC) (M : MC) (o : Nat → Int64) : mj_rd (hp K M o) 38 4 7 (.ref 40) := ⟨_, rfl, rfl⟩
theorem rd_M_conFirst (K : KC) (M : MC) (o : Nat → Int64) : mj_rd (hp K M o) 38 4 8 (.ref 41) := ⟨_, rfl, rfl⟩
theorem rd_M_conSecond (K : KC) (M : MC) (o : Nat → Int64) : mj_rd (hp K M o) 38 4 9 (.ref 42) := ⟨_, rfl, rfl⟩
theorem rd_M_kind (K : KC) (M : MC) (o : Nat → Int64) : mj_rd (hp K M o) 38 4 10 (.ref 43) := ⟨_, rfl, rfl⟩
theorem rd_M_sortOf (K : KC) (M : MC) (o : Nat → Int64) : mj_rd (hp K M o) 38 4 11 (.ref 44) := ⟨_, rfl, rfl⟩
theorem rd_M_what (K : KC) (M : MC) (o : Nat → Int64) : mj_rd (hp K M o) 38 4 12 (.ref 45) := ⟨_, rfl, rfl⟩
theorem rd_M_first (K : KC) (M : MC) (o : Nat → Int64) : mj_rd (hp K M o) 38 4 13 (.ref 46) := ⟨_, rfl, rfl⟩
theorem rd_M_second (K : KC) (M : MC) (o : Nat → Int64) : mj_rd (hp K M o) 38 4 14 (.ref 47) := ⟨_, rfl, rfl⟩
theorem rd_M_width (K : KC) (M : MC) (o : Nat → Int64) : mj_rd (hp K M o) 38 4 15 (.ref 48) := ⟨_, rfl, rfl⟩
theorem rd_M_clause (K : KC) (M : MC) (o : Nat → Int64) : mj_rd (hp K M o) 38 4 16 (.ref 49) := ⟨_, rfl, rfl⟩
theorem rd_M_lives (K : KC) (M : MC) (o : Nat → Int64) : mj_rd (hp K M o) 38 4 17 (.ref 50) := ⟨_, rfl, rfl⟩
theorem rd_M_nodeKind (K : KC) (M : MC) (o : Nat → Int64) : mj_rd (hp K M o) 38 4 18 (.ref 51) := ⟨_, rfl, rfl⟩
theorem rd_M_nodeSort (K : KC) (M : MC) (o : Nat → Int64) : mj_rd (hp K M o) 38 4 19 (.ref 52) := ⟨_, rfl, rfl⟩
theorem rd_M_nodeWhat (K : KC) (M : MC) (o : Nat → Int64) : mj_rd (hp K M o) 38 4 20 (.ref 53) := ⟨_, rfl, rfl⟩
theorem rd_M_nodeFirst (K : KC) (M : MC) (o : Nat → Int64) : mj_rd (hp K M o) 38 4 21 (.ref 54) := ⟨_, rfl, rfl⟩
theorem rd_M_nodeSecond (K : KC) (M : MC) (o : Nat → Int64) : mj_rd (hp K M o) 38 4 22 (.ref 55) := ⟨_, rfl, rfl⟩
theorem rd_M_nodes (K : KC) (M : MC) (o : Nat → Int64) : mj_rd (hp K M o) 38 4 23 (.int (M.1 6)) := ⟨_, rfl, rfl⟩
theorem wr_M_nodes (K : KC) (M : MC) (o : Nat → Int64) (v : Int32) : mj_wr (hp K M o) 38 4 23 (.int v) (hp K (mi M 6 v) o) := ⟨_, rfl, Nat.le_of_ble_eq_true rfl, rfl⟩
theorem rd_M_holes (K : KC) (M : MC) (o : Nat → Int64) : mj_rd (hp K M o) 38 4 24 (.ref 56) := ⟨_, rfl, rfl⟩
theorem rd_M_choice (K : KC) (M : MC) (o : Nat → Int64) : mj_rd (hp K M o) 38 4 25 (.ref 57) := ⟨_, rfl, rfl⟩
theorem rd_M_choices (K : KC) (M : MC) (o : Nat → Int64) : mj_rd (hp K M o) 38 4 26 (.ref 58) := ⟨_, rfl, rfl⟩
theorem rd_M_splits (K : KC) (M : MC) (o : Nat → Int64) : mj_rd (hp K M o) 38 4 27 (.int (M.1 7)) := ⟨_, rfl, rfl⟩
theorem wr_M_splits (K : KC) (M : MC) (o : Nat → Int64) (v : Int32) : mj_wr (hp K M o) 38 4 27 (.int v) (hp K (mi M 7 v) o) := ⟨_, rfl, Nat.le_of_ble_eq_true rfl, rfl⟩
theorem rd_M_hole (K : KC) (M : MC) (o : Nat → Int64) : mj_rd (hp K M o) 38 4 28 (.int (M.1 8)) := ⟨_, rfl, rfl⟩
theorem wr_M_hole (K : KC) (M : MC) (o : Nat → Int64) (v : Int32) : mj_wr (hp K M o) 38 4 28 (.int v) (hp K (mi M 8 v) o) := ⟨_, rfl, Nat.le_of_ble_eq_true rfl, rfl⟩
theorem rd_M_stands (K : KC) (M : MC) (o : Nat → Int64) : mj_rd (hp K M o) 38 4 29 (.ref 59) := ⟨_, rfl, rfl⟩
theorem rd_M_must (K : KC) (M : MC) (o : Nat → Int64) : mj_rd (hp K M o) 38 4 30 (.ref 60) := ⟨_, rfl, rfl⟩
theorem rd_M_never (K : KC) (M : MC) (o : Nat → Int64) : mj_rd (hp K M o) 38 4 31 (.ref 61) := ⟨_, rfl, rfl⟩
theorem rd_M_ints (K : KC) (M : MC) (o : Nat → Int64) : mj_rd (hp K M o) 38 4 32 (.ref 62) := ⟨_, rfl, rfl⟩
theorem rd_M_musts (K : KC) (M : MC) (o : Nat → Int64) : mj_rd (hp K M o) 38 4 33 (.int (M.1 9)) := ⟨_, rfl, rfl⟩
theorem wr_M_musts (K : KC) (M : MC) (o : Nat → Int64) (v : Int32) : mj_wr (hp K M o) 38 4 33 (.int v) (hp K (mi M 9 v) o) := ⟨_, rfl, Nat.le_of_ble_eq_true rfl, rfl⟩
theorem rd_M_nevers (K : KC) (M : MC) (o : Nat → Int64) : mj_rd (hp K M o) 38 4 34 (.int (M.1 10)) := ⟨_, rfl, rfl⟩
theorem wr_M_nevers (K : KC) (M : MC) (o : Nat → Int64) (v : Int32) : mj_wr (hp K M o) 38 4 34 (.int v) (hp K (mi M 10 v) o) := ⟨_, rfl, Nat.le_of_ble_eq_true rfl, rfl⟩
theorem rd_M_intMany (K : KC) (M : MC) (o : Nat → Int64) : mj_rd (hp K M o) 38 4 35 (.int (M.1 11)) := ⟨_, rfl, rfl⟩
theorem wr_M_intMany (K : KC) (M : MC) (o : Nat → Int64) (v : Int32) : mj_wr (hp K M o) 38 4 35 (.int v) (hp K (mi M 11 v) o) := ⟨_, rfl, Nat.le_of_ble_eq_true rfl, rfl⟩
theorem ar_2 (K : KC) (M : MC) (o : Nat → Int64) : (hp K M o)[2]? = some (.inl (0, 12, .inl (K.2.1 2))) := rfl
theorem aw_2 (K : KC) (M : MC) (o : Nat → Int64) (i : Nat) (v : Int32) : (hp K M o).set 2 (.inl (0, 12, .inl (upd (K.2.1 2) i v))) = hp (ka K 2 i v) M o := rfl
theorem ar_3 (K : KC) (M : MC) (o : Nat → Int64) : (hp K M o)[3]? = some (.inl (0, 30, .inl (K.2.1 3))) := rfl
theorem aw_3 (K : KC) (M : MC) (o : Nat → Int64) (i : Nat) (v : Int32) : (hp K M o).set 3 (.inl (0, 30, .inl (upd (K.2.1 3) i v))) = hp (ka K 3 i v) M o := rfl
theorem ar_4 (K : KC) (M : MC) (o : Nat → Int64) : (hp K M o)[4]? = some (.inl (0, 30, .inl (K.2.1 4))) := rfl
theorem aw_4 (K : KC) (M : MC) (o : Nat → Int64) (i : Nat) (v : Int32) : (hp K M o).set 4 (.inl (0, 30, .inl (upd (K.2.1 4) i v))) = hp (ka K 4 i v) M o := rfl
theorem ar_5 (K : KC) (M : MC) (o : Nat → Int64) : (hp K M o)[5]? = some (.inl (0, 30, .inl (K.2.1 5))) := rfl
theorem aw_5 (K : KC) (M : MC) (o : Nat → Int64) (i : Nat) (v : Int32) : (hp K M o).set 5 (.inl (0, 30, .inl (upd (K.2.1 5) i v))) = hp (ka K 5 i v) M o := rfl
theorem ar_6 (K : KC) (M : MC) (o : Nat → Int64) : (hp K M o)[6]? = some (.inl (0, 30, .inl (K.2.1 6))) := rfl
theorem aw_6 (K : KC) (M : MC) (o : Nat → Int64) (i : Nat) (v : Int32) : (hp K M o).set 6 (.inl (0, 30, .inl (upd (K.2.1 6) i v))) = hp (ka K 6 i v) M o := rfl
theorem ar_8 (K : KC) (M : MC) (o : Nat → Int64) : (hp K M o)[8]? = some (.inl (0, 200, .inl (K.2.1 8))) := rfl
theorem aw_8 (K : KC) (M : MC) (o : Nat → Int64) (i : Nat) (v : Int32) : (hp K M o).set 8 (.inl (0, 200, .inl (upd (K.2.1 8) i v))) = hp (ka K 8 i v) M o := rfl
theorem ar_9 (K : KC) (M : MC) (o : Nat → Int64) : (hp K M o)[9]? = some (.inl (0, 200, .inl (K.2.1 9))) := rfl
theorem aw_9 (K : KC) (M : MC) (o : Nat → Int64) (i : Nat) (v : Int32) : (hp K M o).set 9 (.inl (0, 200, .inl (upd (K.2.1 9) i v))) = hp (ka K 9 i v) M o := rfl
theorem ar_10 (K : KC) (M : MC) (o : Nat → Int64) : (hp K M o)[10]? = some (.inl (0, 200, .inl (K.2.1 10))) := rfl
theorem aw_10 (K : KC) (M : MC) (o : Nat → Int64) (i : Nat) (v : Int32) : (hp K M o).set 10 (.inl (0, 200, .inl (upd (K.2.1 10) i v))) = hp (ka K 10 i v) M o := rfl
theorem ar_11 (K : KC) (M : MC) (o : Nat → Int64) : (hp K M o)[11]? = some (.inl (0, 200, .inl (K.2.1 11))) := rfl
theorem aw_11 (K : KC) (M : MC) (o : Nat → Int64) (i : Nat) (v : Int32) : (hp K M o).set 11 (.inl (0, 200, .inl (upd (K.2.1 11) i v))) = hp (ka K 11 i v) M o := rfl
theorem ar_12 (K : KC) (M : MC) (o : Nat → Int64) : (hp K M o)[12]? = some (.inl (0, 200, .inl (K.2.1 12))) := rfl
theorem aw_12 (K : KC) (M : MC) (o : Nat → Int64) (i : Nat) (v : Int32) : (hp K M o).set 12 (.inl (0, 200, .inl (upd (K.2.1 12) i v))) = hp (ka K 12 i v) M o := rfl
theorem ar_13 (K : KC) (M : MC) (o : Nat → Int64) : (hp K M o)[13]? = some (.inl (0, 200, .inl (K.2.1 13))) := rfl
theorem aw_13 (K : KC) (M : MC) (o : Nat → Int64) (i : Nat) (v : Int32) : (hp K M o).set 13 (.inl (0, 200, .inl (upd (K.2.1 13) i v))) = hp (ka K 13 i v) M o := rfl
theorem ar_15 (K : KC) (M : MC) (o : Nat → Int64) : (hp K M o)[15]? = some (.inl (1, 8, .inr (.inl (K.2.2 15)))) := rfl
theorem aw_15 (K : KC) (M : MC) (o : Nat → Int64) (i : Nat) (v : Int64) : (hp K M o).set 15 (.inl (1, 8, .inr (.inl (vp_updL (K.2.2 15) i v)))) = hp (kl K 15 i v) M o := rfl
theorem ar_16 (K : KC) (M : MC) (o : Nat → Int64) : (hp K M o)[16]? = some (.inl (3, 8, .inr (.inr (.inr (.inr (fun i => if i < 8 then some (17 + i) else none)))))) := rfl
theorem ar_17 (K : KC) (M : MC) (o : Nat → Int64) : (hp K M o)[17]? = some (.inl (0, 40, .inl (K.2.1 17))) := rfl
theorem aw_17 (K : KC) (M : MC) (o : Nat → Int64) (i : Nat) (v : Int32) : (hp K M o).set 17 (.inl (0, 40, .inl (upd (K.2.1 17) i v))) = hp (ka K 17 i v) M o := rfl
theorem ar_18 (K : KC) (M : MC) (o : Nat → Int64) : (hp K M o)[18]? = some (.inl (0, 40, .inl (K.2.1 18))) := rfl
theorem aw_18 (K : KC) (M : MC) (o : Nat → Int64) (i : Nat) (v : Int32) : (hp K M o).set 18 (.inl (0, 40, .inl (upd (K.2.1 18) i v))) = hp (ka K 18 i v) M o := rfl
theorem ar_19 (K : KC) (M : MC) (o : Nat → Int64) : (hp K M o)[19]? = some (.inl (0, 40, .inl (K.2.1 19))) := rfl
theorem aw_19 (K : KC) (M : MC) (o : Nat → Int64) (i : Nat) (v : Int32) : (hp K M o).set 19 (.inl (0, 40, .inl (upd (K.2.1 19) i v))) = hp (ka K 19 i v) M o := rfl
theorem ar_20 (K : KC) (M : MC) (o : Nat → Int64) : (hp K M o)[20]? = some (.inl (0, 40, .inl (K.2.1 20))) := rfl
theorem aw_20 (K : KC) (M : MC) (o : Nat → Int64) (i : Nat) (v : Int32) : (hp K M o).set 20 (.inl (0, 40, .inl (upd (K.2.1 20) i v))) = hp (ka K 20 i v) M o := rfl
theorem ar_21 (K : KC) (M : MC) (o : Nat → Int64) : (hp K M o)[21]? = some (.inl (0, 40, .inl (K.2.1 21))) := rfl
theorem aw_21 (K : KC) (M : MC) (o : Nat → Int64) (i : Nat) (v : Int32) : (hp K M o).set 21 (.inl (0, 40, .inl (upd (K.2.1 21) i v))) = hp (ka K 21 i v) M o := rfl
theorem ar_22 (K : KC) (M : MC) (o : Nat → Int64) : (hp K M o)[22]? = some (.inl (0, 40, .inl (K.2.1 22))) := rfl
theorem aw_22 (K : KC) (M : MC) (o : Nat → Int64) (i : Nat) (v : Int32) : (hp K M o).set 22 (.inl (0, 40, .inl (upd (K.2.1 22) i v))) = hp (ka K 22 i v) M o := rfl
theorem ar_23 (K : KC) (M : MC) (o : Nat → Int64) : (hp K M o)[23]? = some (.inl (0, 40, .inl (K.2.1 23))) := rfl
theorem aw_23 (K : KC) (M : MC) (o : Nat → Int64) (i : Nat) (v : Int32) : (hp K M o).set 23 (.inl (0, 40, .inl (upd (K.2.1 23) i v))) = hp (ka K 23 i v) M o := rfl
theorem ar_24 (K : KC) (M : MC) (o : Nat → Int64) : (hp K M o)[24]? = some (.inl (0, 40, .inl (K.2.1 24))) := rfl
theorem aw_24 (K : KC) (M : MC) (o : Nat → Int64) (i : Nat) (v : Int32) : (hp K M o).set 24 (.inl (0, 40, .inl (upd (K.2.1 24) i v))) = hp (ka K 24 i v) M o := rfl
theorem ar_25 (K : KC) (M : MC) (o : Nat → Int64) : (hp K M o)[25]? = some (.inl (0, 40, .inl (K.2.1 25))) := rfl
theorem aw_25 (K : KC) (M : MC) (o : Nat → Int64) (i : Nat) (v : Int32) : (hp K M o).set 25 (.inl (0, 40, .inl (upd (K.2.1 25) i v))) = hp (ka K 25 i v) M o := rfl
theorem ar_26 (K : KC) (M : MC) (o : Nat → Int64) : (hp K M o)[26]? = some (.inl (0, 40, .inl (K.2.1 26))) := rfl
theorem aw_26 (K : KC) (M : MC) (o : Nat → Int64) (i : Nat) (v : Int32) : (hp K M o).set 26 (.inl (0, 40, .inl (upd (K.2.1 26) i v))) = hp (ka K 26 i v) M o := rfl
theorem ar_27 (K : KC) (M : MC) (o : Nat → Int64) : (hp K M o)[27]? = some (.inl (0, 40, .inl (K.2.1 27))) := rfl
theorem aw_27 (K : KC) (M : MC) (o : Nat → Int64) (i : Nat) (v : Int32) : (hp K M o).set 27 (.inl (0, 40, .inl (upd (K.2.1 27) i v))) = hp (ka K 27 i v) M o := rfl
theorem ar_28 (K : KC) (M : MC) (o : Nat → Int64) : (hp K M o)[28]? = some (.inl (0, 40, .inl (K.2.1 28))) := rfl
theorem aw_28 (K : KC) (M : MC) (o : Nat → Int64) (i : Nat) (v : Int32) : (hp K M o).set 28 (.inl (0, 40, .inl (upd (K.2.1 28) i v))) = hp (ka K 28 i v) M o := rfl
theorem ar_30 (K : KC) (M : MC) (o : Nat → Int64) : (hp K M o)[30]? = some (.inl (1, 2, .inr (.inl (K.2.2 30)))) := rfl
theorem aw_30 (K : KC) (M : MC) (o : Nat → Int64) (i : Nat) (v : Int64) : (hp K M o).set 30 (.inl (1, 2, .inr (.inl (vp_updL (K.2.2 30) i v)))) = hp (kl K 30 i v) M o := rfl
theorem ar_31 (K : KC) (M : MC) (o : Nat → Int64) : (hp K M o)[31]? = some (.inl (3, 2, .inr (.inr (.inr (.inr (fun i => if i < 2 then some (32 + i) else none)))))) := rfl
theorem ar_32 (K : KC) (M : MC) (o : Nat → Int64) : (hp K M o)[32]? = some (.inl (0, 24, .inl (K.2.1 32))) := rfl
theorem aw_32 (K : KC) (M : MC) (o : Nat → Int64) (i : Nat) (v : Int32) : (hp K M o).set 32 (.inl (0, 24, .inl (upd (K.2.1 32) i v))) = hp (ka K 32 i v) M o := rfl
theorem ar_33 (K : KC) (M : MC) (o : Nat → Int64) : (hp K M o)[33]? = some (.inl (0, 24, .inl (K.2.1 33))) := rfl
theorem aw_33 (K : KC) (M : MC) (o : Nat → Int64) (i : Nat) (v : Int32) : (hp K M o).set 33 (.inl (0, 24, .inl (upd (K.2.1 33) i v))) = hp (ka K 33 i v) M o := rfl
theorem ar_34 (K : KC) (M : MC) (o : Nat → Int64) : (hp K M o)[34]? = some (.inl (0, 24, .inl (K.2.1 34))) := rfl
theorem aw_34 (K : KC) (M : MC) (o : Nat → Int64) (i : Nat) (v : Int32) : (hp K M o).set 34 (.inl (0, 24, .inl (upd (K.2.1 34) i v))) = hp (ka K 34 i v) M o := rfl
theorem ar_35 (K : KC) (M : MC) (o : Nat → Int64) : (hp K M o)[35]? = some (.inl (0, 24, .inl (K.2.1 35))) := rfl
theorem aw_35 (K : KC) (M : MC) (o : Nat → Int64) (i : Nat) (v : Int32) : (hp K M o).set 35 (.inl (0, 24, .inl (upd (K.2.1 35) i v))) = hp (ka K 35 i v) M o := rfl
theorem ar_36 (K : KC) (M : MC) (o : Nat → Int64) : (hp K M o)[36]? = some (.inl (0, 24, .inl (K.2.1 36))) := rfl
theorem aw_36 (K : KC) (M : MC) (o : Nat → Int64) (i : Nat) (v : Int32) : (hp K M o).set 36 (.inl (0, 24, .inl (upd (K.2.1 36) i v))) = hp (ka K 36 i v) M o := rfl
theorem ar_37 (K : KC) (M : MC) (o : Nat → Int64) : (hp K M o)[37]? = some (.inl (0, 24, .inl (K.2.1 37))) := rfl
theorem aw_37 (K : KC) (M : MC) (o : Nat → Int64) (i : Nat) (v : Int32) : (hp K M o).set 37 (.inl (0, 24, .inl (upd (K.2.1 37) i v))) = hp (ka K 37 i v) M o := rfl
theorem ar_39 (K : KC) (M : MC) (o : Nat → Int64) : (hp K M o)[39]? = some (.inl (0, 30, .inl (M.2 39))) := rfl
theorem aw_39 (K : KC) (M : MC) (o : Nat → Int64) (i : Nat) (v : Int32) : (hp K M o).set 39 (.inl (0, 30, .inl (upd (M.2 39) i v))) = hp K (ma M 39 i v) o := rfl
theorem ar_40 (K : KC) (M : MC) (o : Nat → Int64) : (hp K M o)[40]? = some (.inl (0, 30, .inl (M.2 40))) := rfl
theorem aw_40 (K : KC) (M : MC) (o : Nat → Int64) (i : Nat) (v : Int32) : (hp K M o).set 40 (.inl (0, 30, .inl (upd (M.2 40) i v))) = hp K (ma M 40 i v) o := rfl
theorem ar_41 (K : KC) (M : MC) (o : Nat → Int64) : (hp K M o)[41]? = some (.inl (0, 30, .inl (M.2 41))) := rfl
theorem aw_41 (K : KC) (M : MC) (o : Nat → Int64) (i : Nat) (v : Int32) : (hp K M o).set 41 (.inl (0, 30, .inl (upd (M.2 41) i v))) = hp K (ma M 41 i v) o := rfl
theorem ar_42 (K : KC) (M : MC) (o : Nat → Int64) : (hp K M o)[42]? = some (.inl (0, 30, .inl (M.2 42))) := rfl
theorem aw_42 (K : KC) (M : MC) (o : Nat → Int64) (i : Nat) (v : Int32) : (hp K M o).set 42 (.inl (0, 30, .inl (upd (M.2 42) i v))) = hp K (ma M 42 i v) o := rfl
theorem ar_43 (K : KC) (M : MC) (o : Nat → Int64) : (hp K M o)[43]? = some (.inl (0, 200, .inl (M.2 43))) := rfl
theorem aw_43 (K : KC) (M : MC) (o : Nat → Int64) (i : Nat) (v : Int32) : (hp K M o).set 43 (.inl (0, 200, .inl (upd (M.2 43) i v))) = hp K (ma M 43 i v) o := rfl
theorem ar_44 (K : KC) (M : MC) (o : Nat → Int64) : (hp K M o)[44]? = some (.inl (0, 200, .inl (M.2 44))) := rfl
theorem aw_44 (K : KC) (M : MC) (o : Nat → Int64) (i : Nat) (v : Int32) : (hp K M o).set 44 (.inl (0, 200, .inl (upd (M.2 44) i v))) = hp K (ma M 44 i v) o := rfl
theorem ar_45 (K : KC) (M : MC) (o : Nat → Int64) : (hp K M o)[45]? = some (.inl (0, 200, .inl (M.2 45))) := rfl
theorem aw_45 (K : KC) (M : MC) (o : Nat → Int64) (i : Nat) (v : Int32) : (hp K M o).set 45 (.inl (0, 200, .inl (upd (M.2 45) i v))) = hp K (ma M 45 i v) o := rfl
theorem ar_46 (K : KC) (M : MC) (o : Nat → Int64) : (hp K M o)[46]? = some (.inl (0, 200, .inl (M.2 46))) := rfl
theorem aw_46 (K : KC) (M : MC) (o : Nat → Int64) (i : Nat) (v : Int32) : (hp K M o).set 46 (.inl (0, 200, .inl (upd (M.2 46) i v))) = hp K (ma M 46 i v) o := rfl
theorem ar_47 (K : KC) (M : MC) (o : Nat → Int64) : (hp K M o)[47]? = some (.inl (0, 200, .inl (M.2 47))) := rfl
theorem aw_47 (K : KC) (M : MC) (o : Nat → Int64) (i : Nat) (v : Int32) : (hp K M o).set 47 (.inl (0, 200, .inl (upd (M.2 47) i v))) = hp K (ma M 47 i v) o := rfl
theorem ar_48 (K : KC) (M : MC) (o : Nat → Int64) : (hp K M o)[48]? = some (.inl (0, 200, .inl (M.2 48))) := rfl
theorem aw_48 (K : KC) (M : MC) (o : Nat → Int64) (i : Nat) (v : Int32) : (hp K M o).set 48 (.inl (0, 200, .inl (upd (M.2 48) i v))) = hp K (ma M 48 i v) o := rfl
theorem ar_49 (K : KC) (M : MC) (o : Nat → Int64) : (hp K M o)[49]? = some (.inl (0, 8, .inl (M.2 49))) := rfl
theorem aw_49 (K : KC) (M : MC) (o : Nat → Int64) (i : Nat) (v : Int32) : (hp K M o).set 49 (.inl (0, 8, .inl (upd (M.2 49) i v))) = hp K (ma M 49 i v) o := rfl
theorem ar_50 (K : KC) (M : MC) (o : Nat → Int64) : (hp K M o)[50]? = some (.inl (2, 12, .inl (M.2 50))) := rfl
theorem aw_50 (K : KC) (M : MC) (o : Nat → Int64) (i : Nat) (v : Int32) : (hp K M o).set 50 (.inl (2, 12, .inl (upd (M.2 50) i v))) = hp K (ma M 50 i v) o := rfl
theorem ar_51 (K : KC) (M : MC) (o : Nat → Int64) : (hp K M o)[51]? = some (.inl (0, 270, .inl (M.2 51))) := rfl
theorem aw_51 (K : KC) (M : MC) (o : Nat → Int64) (i : Nat) (v : Int32) : (hp K M o).set 51 (.inl (0, 270, .inl (upd (M.2 51) i v))) = hp K (ma M 51 i v) o := rfl
theorem ar_52 (K : KC) (M : MC) (o : Nat → Int64) : (hp K M o)[52]? = some (.inl (0, 270, .inl (M.2 52))) := rfl
theorem aw_52 (K : KC) (M : MC) (o : Nat → Int64) (i : Nat) (v : Int32) : (hp K M o).set 52 (.inl (0, 270, .inl (upd (M.2 52) i v))) = hp K (ma M 52 i v) o := rfl
theorem ar_53 (K : KC) (M : MC) (o : Nat → Int64) : (hp K M o)[53]? = some (.inl (0, 270, .inl (M.2 53))) := rfl
theorem aw_53 (K : KC) (M : MC) (o : Nat → Int64) (i : Nat) (v : Int32) : (hp K M o).set 53 (.inl (0, 270, .inl (upd (M.2 53) i v))) = hp K (ma M 53 i v) o := rfl
theorem ar_54 (K : KC) (M : MC) (o : Nat → Int64) : (hp K M o)[54]? = some (.inl (0, 270, .inl (M.2 54))) := rfl
theorem aw_54 (K : KC) (M : MC) (o : Nat → Int64) (i : Nat) (v : Int32) : (hp K M o).set 54 (.inl (0, 270, .inl (upd (M.2 54) i v))) = hp K (ma M 54 i v) o := rfl
theorem ar_55 (K : KC) (M : MC) (o : Nat → Int64) : (hp K M o)[55]? = some (.inl (0, 270, .inl (M.2 55))) := rfl
theorem aw_55 (K : KC) (M : MC) (o : Nat → Int64) (i : Nat) (v : Int32) : (hp K M o).set 55 (.inl (0, 270, .inl (upd (M.2 55) i v))) = hp K (ma M 55 i v) o := rfl
theorem ar_56 (K : KC) (M : MC) (o : Nat → Int64) : (hp K M o)[56]? = some (.inl (0, 130, .inl (M.2 56))) := rfl
theorem aw_56 (K : KC) (M : MC) (o : Nat → Int64) (i : Nat) (v : Int32) : (hp K M o).set 56 (.inl (0, 130, .inl (upd (M.2 56) i v))) = hp K (ma M 56 i v) o := rfl
theorem ar_57 (K : KC) (M : MC) (o : Nat → Int64) : (hp K M o)[57]? = some (.inl (0, 130, .inl (M.2 57))) := rfl
theorem aw_57 (K : KC) (M : MC) (o : Nat → Int64) (i : Nat) (v : Int32) : (hp K M o).set 57 (.inl (0, 130, .inl (upd (M.2 57) i v))) = hp K (ma M 57 i v) o := rfl
theorem ar_58 (K : KC) (M : MC) (o : Nat → Int64) : (hp K M o)[58]? = some (.inl (0, 130, .inl (M.2 58))) := rfl
theorem aw_58 (K : KC) (M : MC) (o : Nat → Int64) (i : Nat) (v : Int32) : (hp K M o).set 58 (.inl (0, 130, .inl (upd (M.2 58) i v))) = hp K (ma M 58 i v) o := rfl
theorem ar_59 (K : KC) (M : MC) (o : Nat → Int64) : (hp K M o)[59]? = some (.inl (2, 30, .inl (M.2 59))) := rfl
theorem aw_59 (K : KC) (M : MC) (o : Nat → Int64) (i : Nat) (v : Int32) : (hp K M o).set 59 (.inl (2, 30, .inl (upd (M.2 59) i v))) = hp K (ma M 59 i v) o := rfl
theorem ar_60 (K : KC) (M : MC) (o : Nat → Int64) : (hp K M o)[60]? = some (.inl (0, 2, .inl (M.2 60))) := rfl
theorem aw_60 (K : KC) (M : MC) (o : Nat → Int64) (i : Nat) (v : Int32) : (hp K M o).set 60 (.inl (0, 2, .inl (upd (M.2 60) i v))) = hp K (ma M 60 i v) o := rfl
theorem ar_61 (K : KC) (M : MC) (o : Nat → Int64) : (hp K M o)[61]? = some (.inl (0, 8, .inl (M.2 61))) := rfl
theorem aw_61 (K : KC) (M : MC) (o : Nat → Int64) (i : Nat) (v : Int32) : (hp K M o).set 61 (.inl (0, 8, .inl (upd (M.2 61) i v))) = hp K (ma M 61 i v) o := rfl
theorem ar_62 (K : KC) (M : MC) (o : Nat → Int64) : (hp K M o)[62]? = some (.inl (0, 130, .inl (M.2 62))) := rfl
theorem aw_62 (K : KC) (M : MC) (o : Nat → Int64) (i : Nat) (v : Int32) : (hp K M o).set 62 (.inl (0, 130, .inl (upd (M.2 62) i v))) = hp K (ma M 62 i v) o := rfl
theorem ar_63 (K : KC) (M : MC) (o : Nat → Int64) : (hp K M o)[63]? = some (.inl (1, 1, .inr (.inl (o)))) := rfl
theorem aw_63 (K : KC) (M : MC) (o : Nat → Int64) (i : Nat) (v : Int64) : (hp K M o).set 63 (.inl (1, 1, .inr (.inl (vp_updL o i v)))) = hp K M (vp_updL o i v) := rfl
theorem arr_17 (K : KC) (M : MC) (o : Nat → Int64) {i : Nat} (h : i < 8) : (hp K M o)[17 + i]? = some (.inl (0, 40, .inl (K.2.1 (17 + i)))) := by
  rcases (show i = 0 ∨ i = 1 ∨ i = 2 ∨ i = 3 ∨ i = 4 ∨ i = 5 ∨ i = 6 ∨ i = 7 by omega) with rfl | rfl | rfl | rfl | rfl | rfl | rfl | rfl <;> rfl
theorem awr_17 (K : KC) (M : MC) (o : Nat → Int64) {i : Nat} (h : i < 8) (j : Nat) (v : Int32) : (hp K M o).set (17 + i) (.inl (0, 40, .inl (upd (K.2.1 (17 + i)) j v))) = hp (ka K (17 + i) j v) M o := by
  rcases (show i = 0 ∨ i = 1 ∨ i = 2 ∨ i = 3 ∨ i = 4 ∨ i = 5 ∨ i = 6 ∨ i = 7 by omega) with rfl | rfl | rfl | rfl | rfl | rfl | rfl | rfl <;> rfl
theorem arr_32 (K : KC) (M : MC) (o : Nat → Int64) {i : Nat} (h : i < 2) : (hp K M o)[32 + i]? = some (.inl (0, 24, .inl (K.2.1 (32 + i)))) := by
  rcases (show i = 0 ∨ i = 1 by omega) with rfl | rfl <;> rfl
theorem awr_32 (K : KC) (M : MC) (o : Nat → Int64) {i : Nat} (h : i < 2) (j : Nat) (v : Int32) : (hp K M o).set (32 + i) (.inl (0, 24, .inl (upd (K.2.1 (32 + i)) j v))) = hp (ka K (32 + i) j v) M o := by
  rcases (show i = 0 ∨ i = 1 by omega) with rfl | rfl <;> rfl
theorem fr_S_9 : mj_fr "ClauseGlass$Sorts" 9 2 0 := ⟨R_S, F_S, 9, rfl, rfl, by decide, i_S, Or.inl (tin_1 (List.mem_of_getElem? (i := 27) rfl) rfl)⟩
theorem fp_S_9 : mj_fp "ClauseGlass$Sorts" 9 2 0 .int false := ⟨R_S, F_S, 9, t_S, rfl, rfl, by decide, i_S, tin_1 (List.mem_of_getElem? (i := 27) rfl) rfl, tk_S, n_S, by decide +kernel, rfl⟩
theorem fr_S_15 : mj_fr "ClauseGlass$Sorts" 15 2 1 := ⟨R_S, F_S, 9, rfl, rfl, by decide, i_S, Or.inl (tin_1 (List.mem_of_getElem? (i := 29) rfl) rfl)⟩
theorem fp_S_15 : mj_fp "ClauseGlass$Sorts" 15 2 1 .int false := ⟨R_S, F_S, 9, t_S, rfl, rfl, by decide, i_S, tin_1 (List.mem_of_getElem? (i := 29) rfl) rfl, tk_S, n_S, by decide +kernel, rfl⟩
theorem fr_S_18 : mj_fr "ClauseGlass$Sorts" 18 2 2 := ⟨R_S, F_S, 9, rfl, rfl, by decide, i_S, Or.inl (tin_1 (List.mem_of_getElem? (i := 31) rfl) rfl)⟩
theorem fp_S_18 : mj_fp "ClauseGlass$Sorts" 18 2 2 .int false := ⟨R_S, F_S, 9, t_S, rfl, rfl, by decide, i_S, tin_1 (List.mem_of_getElem? (i := 31) rfl) rfl, tk_S, n_S, by decide +kernel, rfl⟩
theorem fr_S_21 : mj_fr "ClauseGlass$Sorts" 21 2 3 := ⟨R_S, F_S, 9, rfl, rfl, by decide, i_S, Or.inl (tin_1 (List.mem_of_getElem? (i := 33) rfl) rfl)⟩
theorem fp_S_21 : mj_fp "ClauseGlass$Sorts" 21 2 3 .int false := ⟨R_S, F_S, 9, t_S, rfl, rfl, by decide, i_S, tin_1 (List.mem_of_getElem? (i := 33) rfl) rfl, tk_S, n_S, by decide +kernel, rfl⟩
theorem fr_S_24 : mj_fr "ClauseGlass$Sorts" 24 2 4 := ⟨R_S, F_S, 9, rfl, rfl, by decide, i_S, Or.inl (tin_1 (List.mem_of_getElem? (i := 34) rfl) rfl)⟩
theorem fp_S_24 : mj_fp "ClauseGlass$Sorts" 24 2 4 (.array .int) true := ⟨R_S, F_S, 9, t_S, rfl, rfl, by decide, i_S, tin_1 (List.mem_of_getElem? (i := 34) rfl) rfl, tk_S, n_S, by decide +kernel, rfl⟩
theorem fr_S_28 : mj_fr "ClauseGlass$Sorts" 28 2 5 := ⟨R_S, F_S, 9, rfl, rfl, by decide, i_S, Or.inl (tin_1 (List.mem_of_getElem? (i := 35) rfl) rfl)⟩
theorem fp_S_28 : mj_fp "ClauseGlass$Sorts" 28 2 5 (.array .int) true := ⟨R_S, F_S, 9, t_S, rfl, rfl, by decide, i_S, tin_1 (List.mem_of_getElem? (i := 35) rfl) rfl, tk_S, n_S, by decide +kernel, rfl⟩
theorem fr_S_31 : mj_fr "ClauseGlass$Sorts" 31 2 6 := ⟨R_S, F_S, 9, rfl, rfl, by decide, i_S, Or.inl (tin_1 (List.mem_of_getElem? (i := 37) rfl) rfl)⟩
theorem fp_S_31 : mj_fp "ClauseGlass$Sorts" 31 2 6 (.array .int) true := ⟨R_S, F_S, 9, t_S, rfl, rfl, by decide, i_S, tin_1 (List.mem_of_getElem? (i := 37) rfl) rfl, tk_S, n_S, by decide +kernel, rfl⟩
theorem fr_S_34 : mj_fr "ClauseGlass$Sorts" 34 2 7 := ⟨R_S, F_S, 9, rfl, rfl, by decide, i_S, Or.inl (tin_1 (List.mem_of_getElem? (i := 40) rfl) rfl)⟩
theorem fp_S_34 : mj_fp "ClauseGlass$Sorts" 34 2 7 (.array .int) true := ⟨R_S, F_S, 9, t_S, rfl, rfl, by decide, i_S, tin_1 (List.mem_of_getElem? (i := 40) rfl) rfl, tk_S, n_S, by decide +kernel, rfl⟩
theorem fr_S_37 : mj_fr "ClauseGlass$Sorts" 37 2 8 := ⟨R_S, F_S, 9, rfl, rfl, by decide, i_S, Or.inl (tin_1 (List.mem_of_getElem? (i := 41) rfl) rfl)⟩
theorem fp_S_37 : mj_fp "ClauseGlass$Sorts" 37 2 8 (.array .int) true := ⟨R_S, F_S, 9, t_S, rfl, rfl, by decide, i_S, tin_1 (List.mem_of_getElem? (i := 41) rfl) rfl, tk_S, n_S, by decide +kernel, rfl⟩
theorem fr_P_9 : mj_fr "ClauseGlass$Patterns" 9 0 0 := ⟨R_P, F_P, 7, rfl, rfl, by decide, i_P, Or.inl (tin_1 (List.mem_of_getElem? (i := 68) rfl) rfl)⟩
theorem fp_P_9 : mj_fp "ClauseGlass$Patterns" 9 0 0 .int false := ⟨R_P, F_P, 7, t_P, rfl, rfl, by decide, i_P, tin_1 (List.mem_of_getElem? (i := 68) rfl) rfl, tk_P, n_P, by decide +kernel, rfl⟩
theorem fr_P_15 : mj_fr "ClauseGlass$Patterns" 15 0 1 := ⟨R_P, F_P, 7, rfl, rfl, by decide, i_P, Or.inl (tin_1 (List.mem_of_getElem? (i := 70) rfl) rfl)⟩
theorem fp_P_15 : mj_fp "ClauseGlass$Patterns" 15 0 1 (.array .int) true := ⟨R_P, F_P, 7, t_P, rfl, rfl, by decide, i_P, tin_1 (List.mem_of_getElem? (i := 70) rfl) rfl, tk_P, n_P, by decide +kernel, rfl⟩
theorem fr_P_19 : mj_fr "ClauseGlass$Patterns" 19 0 2 := ⟨R_P, F_P, 7, rfl, rfl, by decide, i_P, Or.inl (tin_1 (List.mem_of_getElem? (i := 72) rfl) rfl)⟩
theorem fp_P_19 : mj_fp "ClauseGlass$Patterns" 19 0 2 (.array .int) true := ⟨R_P, F_P, 7, t_P, rfl, rfl, by decide, i_P, tin_1 (List.mem_of_getElem? (i := 72) rfl) rfl, tk_P, n_P, by decide +kernel, rfl⟩
theorem fr_P_22 : mj_fr "ClauseGlass$Patterns" 22 0 3 := ⟨R_P, F_P, 7, rfl, rfl, by decide, i_P, Or.inl (tin_1 (List.mem_of_getElem? (i := 74) rfl) rfl)⟩
theorem fp_P_22 : mj_fp "ClauseGlass$Patterns" 22 0 3 (.array .int) true := ⟨R_P, F_P, 7, t_P, rfl, rfl, by decide, i_P, tin_1 (List.mem_of_getElem? (i := 74) rfl) rfl, tk_P, n_P, by decide +kernel, rfl⟩
theorem fr_P_25 : mj_fr "ClauseGlass$Patterns" 25 0 4 := ⟨R_P, F_P, 7, rfl, rfl, by decide, i_P, Or.inl (tin_1 (List.mem_of_getElem? (i := 76) rfl) rfl)⟩
theorem fp_P_25 : mj_fp "ClauseGlass$Patterns" 25 0 4 (.array .int) true := ⟨R_P, F_P, 7, t_P, rfl, rfl, by decide, i_P, tin_1 (List.mem_of_getElem? (i := 76) rfl) rfl, tk_P, n_P, by decide +kernel, rfl⟩
theorem fr_P_28 : mj_fr "ClauseGlass$Patterns" 28 0 5 := ⟨R_P, F_P, 7, rfl, rfl, by decide, i_P, Or.inl (tin_1 (List.mem_of_getElem? (i := 77) rfl) rfl)⟩
theorem fp_P_28 : mj_fp "ClauseGlass$Patterns" 28 0 5 (.array .int) true := ⟨R_P, F_P, 7, t_P, rfl, rfl, by decide, i_P, tin_1 (List.mem_of_getElem? (i := 77) rfl) rfl, tk_P, n_P, by decide +kernel, rfl⟩
theorem fr_P_31 : mj_fr "ClauseGlass$Patterns" 31 0 6 := ⟨R_P, F_P, 7, rfl, rfl, by decide, i_P, Or.inl (tin_1 (List.mem_of_getElem? (i := 78) rfl) rfl)⟩
theorem fp_P_31 : mj_fp "ClauseGlass$Patterns" 31 0 6 (.array .int) true := ⟨R_P, F_P, 7, t_P, rfl, rfl, by decide, i_P, tin_1 (List.mem_of_getElem? (i := 78) rfl) rfl, tk_P, n_P, by decide +kernel, rfl⟩
theorem fr_H_9 : mj_fr "ClauseGlass$Sheet" 9 1 0 := ⟨R_H, F_H, 12, rfl, rfl, by decide, i_H, Or.inl (tin_1 (List.mem_of_getElem? (i := 108) rfl) rfl)⟩
theorem fp_H_9 : mj_fp "ClauseGlass$Sheet" 9 1 0 (.object "ClauseGlass$Sorts") true := ⟨R_H, F_H, 12, t_H, rfl, rfl, by decide, i_H, tin_1 (List.mem_of_getElem? (i := 108) rfl) rfl, tk_H, n_H, by decide +kernel, rfl⟩
theorem fr_H_15 : mj_fr "ClauseGlass$Sheet" 15 1 1 := ⟨R_H, F_H, 12, rfl, rfl, by decide, i_H, Or.inl (tin_1 (List.mem_of_getElem? (i := 109) rfl) rfl)⟩
theorem fp_H_15 : mj_fp "ClauseGlass$Sheet" 15 1 1 (.object "ClauseGlass$Patterns") true := ⟨R_H, F_H, 12, t_H, rfl, rfl, by decide, i_H, tin_1 (List.mem_of_getElem? (i := 109) rfl) rfl, tk_H, n_H, by decide +kernel, rfl⟩
theorem fr_H_45 : mj_fr "ClauseGlass$Sheet" 45 1 2 := ⟨R_H, F_H, 12, rfl, rfl, by decide, i_H, Or.inl (tin_1 (List.mem_of_getElem? (i := 110) rfl) rfl)⟩
theorem fp_H_45 : mj_fp "ClauseGlass$Sheet" 45 1 2 .int false := ⟨R_H, F_H, 12, t_H, rfl, rfl, by decide, i_H, tin_1 (List.mem_of_getElem? (i := 110) rfl) rfl, tk_H, n_H, by decide +kernel, rfl⟩
theorem fr_H_49 : mj_fr "ClauseGlass$Sheet" 49 1 3 := ⟨R_H, F_H, 12, rfl, rfl, by decide, i_H, Or.inl (tin_1 (List.mem_of_getElem? (i := 112) rfl) rfl)⟩
theorem fp_H_49 : mj_fp "ClauseGlass$Sheet" 49 1 3 .int false := ⟨R_H, F_H, 12, t_H, rfl, rfl, by decide, i_H, tin_1 (List.mem_of_getElem? (i := 112) rfl) rfl, tk_H, n_H, by decide +kernel, rfl⟩
theorem fr_H_52 : mj_fr "ClauseGlass$Sheet" 52 1 4 := ⟨R_H, F_H, 12, rfl, rfl, by decide, i_H, Or.inl (tin_1 (List.mem_of_getElem? (i := 114) rfl) rfl)⟩
theorem fp_H_52 : mj_fp "ClauseGlass$Sheet" 52 1 4 .int false := ⟨R_H, F_H, 12, t_H, rfl, rfl, by decide, i_H, tin_1 (List.mem_of_getElem? (i := 114) rfl) rfl, tk_H, n_H, by decide +kernel, rfl⟩
theorem fr_H_55 : mj_fr "ClauseGlass$Sheet" 55 1 5 := ⟨R_H, F_H, 12, rfl, rfl, by decide, i_H, Or.inl (tin_1 (List.mem_of_getElem? (i := 115) rfl) rfl)⟩
theorem fp_H_55 : mj_fp "ClauseGlass$Sheet" 55 1 5 .int false := ⟨R_H, F_H, 12, t_H, rfl, rfl, by decide, i_H, tin_1 (List.mem_of_getElem? (i := 115) rfl) rfl, tk_H, n_H, by decide +kernel, rfl⟩
theorem fr_H_19 : mj_fr "ClauseGlass$Sheet" 19 1 6 := ⟨R_H, F_H, 12, rfl, rfl, by decide, i_H, Or.inl (tin_1 (List.mem_of_getElem? (i := 117) rfl) rfl)⟩
theorem fp_H_19 : mj_fp "ClauseGlass$Sheet" 19 1 6 (.array .long) true := ⟨R_H, F_H, 12, t_H, rfl, rfl, by decide, i_H, tin_1 (List.mem_of_getElem? (i := 117) rfl) rfl, tk_H, n_H, by decide +kernel, rfl⟩
theorem fr_H_25 : mj_fr "ClauseGlass$Sheet" 25 1 7 := ⟨R_H, F_H, 12, rfl, rfl, by decide, i_H, Or.inl (tin_1 (List.mem_of_getElem? (i := 118) rfl) rfl)⟩
theorem fp_H_25 : mj_fp "ClauseGlass$Sheet" 25 1 7 (.array (.array .int)) true := ⟨R_H, F_H, 12, t_H, rfl, rfl, by decide, i_H, tin_1 (List.mem_of_getElem? (i := 118) rfl) rfl, tk_H, n_H, by decide +kernel, rfl⟩
theorem fr_H_28 : mj_fr "ClauseGlass$Sheet" 28 1 8 := ⟨R_H, F_H, 12, rfl, rfl, by decide, i_H, Or.inl (tin_1 (List.mem_of_getElem? (i := 119) rfl) rfl)⟩
theorem fp_H_28 : mj_fp "ClauseGlass$Sheet" 28 1 8 (.array .int) true := ⟨R_H, F_H, 12, t_H, rfl, rfl, by decide, i_H, tin_1 (List.mem_of_getElem? (i := 119) rfl) rfl, tk_H, n_H, by decide +kernel, rfl⟩
theorem fr_H_32 : mj_fr "ClauseGlass$Sheet" 32 1 9 := ⟨R_H, F_H, 12, rfl, rfl, by decide, i_H, Or.inl (tin_1 (List.mem_of_getElem? (i := 120) rfl) rfl)⟩
theorem fp_H_32 : mj_fp "ClauseGlass$Sheet" 32 1 9 (.array .int) true := ⟨R_H, F_H, 12, t_H, rfl, rfl, by decide, i_H, tin_1 (List.mem_of_getElem? (i := 120) rfl) rfl, tk_H, n_H, by decide +kernel, rfl⟩
theorem fr_H_35 : mj_fr "ClauseGlass$Sheet" 35 1 10 := ⟨R_H, F_H, 12, rfl, rfl, by decide, i_H, Or.inl (tin_1 (List.mem_of_getElem? (i := 121) rfl) rfl)⟩
theorem fp_H_35 : mj_fp "ClauseGlass$Sheet" 35 1 10 (.array .int) true := ⟨R_H, F_H, 12, t_H, rfl, rfl, by decide, i_H, tin_1 (List.mem_of_getElem? (i := 121) rfl) rfl, tk_H, n_H, by decide +kernel, rfl⟩
theorem fr_H_38 : mj_fr "ClauseGlass$Sheet" 38 1 11 := ⟨R_H, F_H, 12, rfl, rfl, by decide, i_H, Or.inl (tin_1 (List.mem_of_getElem? (i := 122) rfl) rfl)⟩
theorem fp_H_38 : mj_fp "ClauseGlass$Sheet" 38 1 11 (.array .int) true := ⟨R_H, F_H, 12, t_H, rfl, rfl, by decide, i_H, tin_1 (List.mem_of_getElem? (i := 122) rfl) rfl, tk_H, n_H, by decide +kernel, rfl⟩
theorem fr_C_10 : mj_fr "ClauseGlass" 10 3 0 := ⟨R_C, F_C, 4, rfl, rfl, by decide, i_C, Or.inl (tin_1 (List.mem_of_getElem? (i := 149) rfl) rfl)⟩
theorem fp_C_10 : mj_fp "ClauseGlass" 10 3 0 (.object "ClauseGlass$Sorts") true := ⟨R_C, F_C, 4, t_C, rfl, rfl, by decide, i_C, tin_1 (List.mem_of_getElem? (i := 149) rfl) rfl, tk_C, n_C, by decide +kernel, rfl⟩
theorem fr_C_19 : mj_fr "ClauseGlass" 19 3 1 := ⟨R_C, F_C, 4, rfl, rfl, by decide, i_C, Or.inl (tin_1 (List.mem_of_getElem? (i := 150) rfl) rfl)⟩
theorem fp_C_19 : mj_fp "ClauseGlass" 19 3 1 (.object "ClauseGlass$Patterns") true := ⟨R_C, F_C, 4, t_C, rfl, rfl, by decide, i_C, tin_1 (List.mem_of_getElem? (i := 150) rfl) rfl, tk_C, n_C, by decide +kernel, rfl⟩
theorem fr_C_28 : mj_fr "ClauseGlass" 28 3 2 := ⟨R_C, F_C, 4, rfl, rfl, by decide, i_C, Or.inl (tin_1 (List.mem_of_getElem? (i := 151) rfl) rfl)⟩
theorem fp_C_28 : mj_fp "ClauseGlass" 28 3 2 (.object "ClauseGlass$Sheet") true := ⟨R_C, F_C, 4, t_C, rfl, rfl, by decide, i_C, tin_1 (List.mem_of_getElem? (i := 151) rfl) rfl, tk_C, n_C, by decide +kernel, rfl⟩
theorem fr_C_32 : mj_fr "ClauseGlass" 32 3 3 := ⟨R_C, F_C, 4, rfl, rfl, by decide, i_C, Or.inl (tin_1 (List.mem_of_getElem? (i := 152) rfl) rfl)⟩
theorem fp_C_32 : mj_fp "ClauseGlass" 32 3 3 (.object "ClauseGlass$Sheet") true := ⟨R_C, F_C, 4, t_C, rfl, rfl, by decide, i_C, tin_1 (List.mem_of_getElem? (i := 152) rfl) rfl, tk_C, n_C, by decide +kernel, rfl⟩
theorem fr_M_87 : mj_fr "ClauseGlassModel" 87 4 0 := ⟨R_M, F_M, 36, rfl, rfl, by decide, i_M, Or.inl (tin_3 (List.mem_of_getElem? (i := 46) rfl) rfl)⟩
theorem fp_M_87 : mj_fp "ClauseGlassModel" 87 4 0 .int false := ⟨R_M, F_M, 36, t_M, rfl, rfl, by decide, i_M, tin_3 (List.mem_of_getElem? (i := 46) rfl) rfl, tk_M, n_M, by decide +kernel, rfl⟩
theorem fr_M_7 : mj_fr "ClauseGlassModel" 7 4 1 := ⟨R_M, F_M, 36, rfl, rfl, by decide, i_M, Or.inl (tin_3 (List.mem_of_getElem? (i := 47) rfl) rfl)⟩
theorem fp_M_7 : mj_fp "ClauseGlassModel" 7 4 1 .int false := ⟨R_M, F_M, 36, t_M, rfl, rfl, by decide, i_M, tin_3 (List.mem_of_getElem? (i := 47) rfl) rfl, tk_M, n_M, by decide +kernel, rfl⟩
theorem fr_M_97 : mj_fr "ClauseGlassModel" 97 4 2 := ⟨R_M, F_M, 36, rfl, rfl, by decide, i_M, Or.inl (tin_3 (List.mem_of_getElem? (i := 48) rfl) rfl)⟩
theorem fp_M_97 : mj_fp "ClauseGlassModel" 97 4 2 .int false := ⟨R_M, F_M, 36, t_M, rfl, rfl, by decide, i_M, tin_3 (List.mem_of_getElem? (i := 48) rfl) rfl, tk_M, n_M, by decide +kernel, rfl⟩
theorem fr_M_90 : mj_fr "ClauseGlassModel" 90 4 3 := ⟨R_M, F_M, 36, rfl, rfl, by decide, i_M, Or.inl (tin_3 (List.mem_of_getElem? (i := 49) rfl) rfl)⟩
theorem fp_M_90 : mj_fp "ClauseGlassModel" 90 4 3 .int false := ⟨R_M, F_M, 36, t_M, rfl, rfl, by decide, i_M, tin_3 (List.mem_of_getElem? (i := 49) rfl) rfl, tk_M, n_M, by decide +kernel, rfl⟩
theorem fr_M_107 : mj_fr "ClauseGlassModel" 107 4 4 := ⟨R_M, F_M, 36, rfl, rfl, by decide, i_M, Or.inl (tin_3 (List.mem_of_getElem? (i := 50) rfl) rfl)⟩
theorem fp_M_107 : mj_fp "ClauseGlassModel" 107 4 4 .int false := ⟨R_M, F_M, 36, t_M, rfl, rfl, by decide, i_M, tin_3 (List.mem_of_getElem? (i := 50) rfl) rfl, tk_M, n_M, by decide +kernel, rfl⟩
theorem fr_M_110 : mj_fr "ClauseGlassModel" 110 4 5 := ⟨R_M, F_M, 36, rfl, rfl, by decide, i_M, Or.inl (tin_3 (List.mem_of_getElem? (i := 51) rfl) rfl)⟩
theorem fp_M_110 : mj_fp "ClauseGlassModel" 110 4 5 .int false := ⟨R_M, F_M, 36, t_M, rfl, rfl, by decide, i_M, tin_3 (List.mem_of_getElem? (i := 51) rfl) rfl, tk_M, n_M, by decide +kernel, rfl⟩
theorem fr_M_13 : mj_fr "ClauseGlassModel" 13 4 6 := ⟨R_M, F_M, 36, rfl, rfl, by decide, i_M, Or.inl (tin_3 (List.mem_of_getElem? (i := 52) rfl) rfl)⟩
theorem fp_M_13 : mj_fp "ClauseGlassModel" 13 4 6 (.array .int) true := ⟨R_M, F_M, 36, t_M, rfl, rfl, by decide, i_M, tin_3 (List.mem_of_getElem? (i := 52) rfl) rfl, tk_M, n_M, by decide +kernel, rfl⟩
theorem fr_M_17 : mj_fr "ClauseGlassModel" 17 4 7 := ⟨R_M, F_M, 36, rfl, rfl, by decide, i_M, Or.inl (tin_3 (List.mem_of_getElem? (i := 53) rfl) rfl)⟩
theorem fp_M_17 : mj_fp "ClauseGlassModel" 17 4 7 (.array .int) true := ⟨R_M, F_M, 36, t_M, rfl, rfl, by decide, i_M, tin_3 (List.mem_of_getElem? (i := 53) rfl) rfl, tk_M, n_M, by decide +kernel, rfl⟩
theorem fr_M_20 : mj_fr "ClauseGlassModel" 20 4 8 := ⟨R_M, F_M, 36, rfl, rfl, by decide, i_M, Or.inl (tin_3 (List.mem_of_getElem? (i := 54) rfl) rfl)⟩
theorem fp_M_20 : mj_fp "ClauseGlassModel" 20 4 8 (.array .int) true := ⟨R_M, F_M, 36, t_M, rfl, rfl, by decide, i_M, tin_3 (List.mem_of_getElem? (i := 54) rfl) rfl, tk_M, n_M, by decide +kernel, rfl⟩
theorem fr_M_23 : mj_fr "ClauseGlassModel" 23 4 9 := ⟨R_M, F_M, 36, rfl, rfl, by decide, i_M, Or.inl (tin_3 (List.mem_of_getElem? (i := 55) rfl) rfl)⟩
theorem fp_M_23 : mj_fp "ClauseGlassModel" 23 4 9 (.array .int) true := ⟨R_M, F_M, 36, t_M, rfl, rfl, by decide, i_M, tin_3 (List.mem_of_getElem? (i := 55) rfl) rfl, tk_M, n_M, by decide +kernel, rfl⟩
theorem fr_M_26 : mj_fr "ClauseGlassModel" 26 4 10 := ⟨R_M, F_M, 36, rfl, rfl, by decide, i_M, Or.inl (tin_3 (List.mem_of_getElem? (i := 56) rfl) rfl)⟩
theorem fp_M_26 : mj_fp "ClauseGlassModel" 26 4 10 (.array .int) true := ⟨R_M, F_M, 36, t_M, rfl, rfl, by decide, i_M, tin_3 (List.mem_of_getElem? (i := 56) rfl) rfl, tk_M, n_M, by decide +kernel, rfl⟩
theorem fr_M_29 : mj_fr "ClauseGlassModel" 29 4 11 := ⟨R_M, F_M, 36, rfl, rfl, by decide, i_M, Or.inl (tin_3 (List.mem_of_getElem? (i := 57) rfl) rfl)⟩
theorem fp_M_29 : mj_fp "ClauseGlassModel" 29 4 11 (.array .int) true := ⟨R_M, F_M, 36, t_M, rfl, rfl, by decide, i_M, tin_3 (List.mem_of_getElem? (i := 57) rfl) rfl, tk_M, n_M, by decide +kernel, rfl⟩
theorem fr_M_32 : mj_fr "ClauseGlassModel" 32 4 12 := ⟨R_M, F_M, 36, rfl, rfl, by decide, i_M, Or.inl (tin_3 (List.mem_of_getElem? (i := 58) rfl) rfl)⟩
theorem fp_M_32 : mj_fp "ClauseGlassModel" 32 4 12 (.array .int) true := ⟨R_M, F_M, 36, t_M, rfl, rfl, by decide, i_M, tin_3 (List.mem_of_getElem? (i := 58) rfl) rfl, tk_M, n_M, by decide +kernel, rfl⟩
theorem fr_M_35 : mj_fr "ClauseGlassModel" 35 4 13 := ⟨R_M, F_M, 36, rfl, rfl, by decide, i_M, Or.inl (tin_3 (List.mem_of_getElem? (i := 59) rfl) rfl)⟩
theorem fp_M_35 : mj_fp "ClauseGlassModel" 35 4 13 (.array .int) true := ⟨R_M, F_M, 36, t_M, rfl, rfl, by decide, i_M, tin_3 (List.mem_of_getElem? (i := 59) rfl) rfl, tk_M, n_M, by decide +kernel, rfl⟩
theorem fr_M_38 : mj_fr "ClauseGlassModel" 38 4 14 := ⟨R_M, F_M, 36, rfl, rfl, by decide, i_M, Or.inl (tin_3 (List.mem_of_getElem? (i := 60) rfl) rfl)⟩
theorem fp_M_38 : mj_fp "ClauseGlassModel" 38 4 14 (.array .int) true := ⟨R_M, F_M, 36, t_M, rfl, rfl, by decide, i_M, tin_3 (List.mem_of_getElem? (i := 60) rfl) rfl, tk_M, n_M, by decide +kernel, rfl⟩
theorem fr_M_41 : mj_fr "ClauseGlassModel" 41 4 15 := ⟨R_M, F_M, 36, rfl, rfl, by decide, i_M, Or.inl (tin_3 (List.mem_of_getElem? (i := 61) rfl) rfl)⟩
theorem fp_M_41 : mj_fp "ClauseGlassModel" 41 4 15 (.array .int) true := ⟨R_M, F_M, 36, t_M, rfl, rfl, by decide, i_M, tin_3 (List.mem_of_getElem? (i := 61) rfl) rfl, tk_M, n_M, by decide +kernel, rfl⟩
theorem fr_M_44 : mj_fr "ClauseGlassModel" 44 4 16 := ⟨R_M, F_M, 36, rfl, rfl, by decide, i_M, Or.inl (tin_3 (List.mem_of_getElem? (i := 62) rfl) rfl)⟩
theorem fp_M_44 : mj_fp "ClauseGlassModel" 44 4 16 (.array .int) true := ⟨R_M, F_M, 36, t_M, rfl, rfl, by decide, i_M, tin_3 (List.mem_of_getElem? (i := 62) rfl) rfl, tk_M, n_M, by decide +kernel, rfl⟩
theorem fr_M_47 : mj_fr "ClauseGlassModel" 47 4 17 := ⟨R_M, F_M, 36, rfl, rfl, by decide, i_M, Or.inl (tin_3 (List.mem_of_getElem? (i := 63) rfl) rfl)⟩
theorem fp_M_47 : mj_fp "ClauseGlassModel" 47 4 17 (.array .boolean) true := ⟨R_M, F_M, 36, t_M, rfl, rfl, by decide, i_M, tin_3 (List.mem_of_getElem? (i := 63) rfl) rfl, tk_M, n_M, by decide +kernel, rfl⟩
theorem fr_M_51 : mj_fr "ClauseGlassModel" 51 4 18 := ⟨R_M, F_M, 36, rfl, rfl, by decide, i_M, Or.inl (tin_3 (List.mem_of_getElem? (i := 64) rfl) rfl)⟩
theorem fp_M_51 : mj_fp "ClauseGlassModel" 51 4 18 (.array .int) true := ⟨R_M, F_M, 36, t_M, rfl, rfl, by decide, i_M, tin_3 (List.mem_of_getElem? (i := 64) rfl) rfl, tk_M, n_M, by decide +kernel, rfl⟩
theorem fr_M_54 : mj_fr "ClauseGlassModel" 54 4 19 := ⟨R_M, F_M, 36, rfl, rfl, by decide, i_M, Or.inl (tin_3 (List.mem_of_getElem? (i := 65) rfl) rfl)⟩
theorem fp_M_54 : mj_fp "ClauseGlassModel" 54 4 19 (.array .int) true := ⟨R_M, F_M, 36, t_M, rfl, rfl, by decide, i_M, tin_3 (List.mem_of_getElem? (i := 65) rfl) rfl, tk_M, n_M, by decide +kernel, rfl⟩
theorem fr_M_57 : mj_fr "ClauseGlassModel" 57 4 20 := ⟨R_M, F_M, 36, rfl, rfl, by decide, i_M, Or.inl (tin_3 (List.mem_of_getElem? (i := 66) rfl) rfl)⟩
theorem fp_M_57 : mj_fp "ClauseGlassModel" 57 4 20 (.array .int) true := ⟨R_M, F_M, 36, t_M, rfl, rfl, by decide, i_M, tin_3 (List.mem_of_getElem? (i := 66) rfl) rfl, tk_M, n_M, by decide +kernel, rfl⟩
theorem fr_M_60 : mj_fr "ClauseGlassModel" 60 4 21 := ⟨R_M, F_M, 36, rfl, rfl, by decide, i_M, Or.inl (tin_3 (List.mem_of_getElem? (i := 67) rfl) rfl)⟩
theorem fp_M_60 : mj_fp "ClauseGlassModel" 60 4 21 (.array .int) true := ⟨R_M, F_M, 36, t_M, rfl, rfl, by decide, i_M, tin_3 (List.mem_of_getElem? (i := 67) rfl) rfl, tk_M, n_M, by decide +kernel, rfl⟩
theorem fr_M_63 : mj_fr "ClauseGlassModel" 63 4 22 := ⟨R_M, F_M, 36, rfl, rfl, by decide, i_M, Or.inl (tin_3 (List.mem_of_getElem? (i := 68) rfl) rfl)⟩
theorem fp_M_63 : mj_fp "ClauseGlassModel" 63 4 22 (.array .int) true := ⟨R_M, F_M, 36, t_M, rfl, rfl, by decide, i_M, tin_3 (List.mem_of_getElem? (i := 68) rfl) rfl, tk_M, n_M, by decide +kernel, rfl⟩
theorem fr_M_116 : mj_fr "ClauseGlassModel" 116 4 23 := ⟨R_M, F_M, 36, rfl, rfl, by decide, i_M, Or.inl (tin_3 (List.mem_of_getElem? (i := 69) rfl) rfl)⟩
theorem fp_M_116 : mj_fp "ClauseGlassModel" 116 4 23 .int false := ⟨R_M, F_M, 36, t_M, rfl, rfl, by decide, i_M, tin_3 (List.mem_of_getElem? (i := 69) rfl) rfl, tk_M, n_M, by decide +kernel, rfl⟩
theorem fr_M_66 : mj_fr "ClauseGlassModel" 66 4 24 := ⟨R_M, F_M, 36, rfl, rfl, by decide, i_M, Or.inl (tin_3 (List.mem_of_getElem? (i := 70) rfl) rfl)⟩
theorem fp_M_66 : mj_fp "ClauseGlassModel" 66 4 24 (.array .int) true := ⟨R_M, F_M, 36, t_M, rfl, rfl, by decide, i_M, tin_3 (List.mem_of_getElem? (i := 70) rfl) rfl, tk_M, n_M, by decide +kernel, rfl⟩
theorem fr_M_69 : mj_fr "ClauseGlassModel" 69 4 25 := ⟨R_M, F_M, 36, rfl, rfl, by decide, i_M, Or.inl (tin_3 (List.mem_of_getElem? (i := 71) rfl) rfl)⟩
theorem fp_M_69 : mj_fp "ClauseGlassModel" 69 4 25 (.array .int) true := ⟨R_M, F_M, 36, t_M, rfl, rfl, by decide, i_M, tin_3 (List.mem_of_getElem? (i := 71) rfl) rfl, tk_M, n_M, by decide +kernel, rfl⟩
theorem fr_M_72 : mj_fr "ClauseGlassModel" 72 4 26 := ⟨R_M, F_M, 36, rfl, rfl, by decide, i_M, Or.inl (tin_3 (List.mem_of_getElem? (i := 72) rfl) rfl)⟩
theorem fp_M_72 : mj_fp "ClauseGlassModel" 72 4 26 (.array .int) true := ⟨R_M, F_M, 36, t_M, rfl, rfl, by decide, i_M, tin_3 (List.mem_of_getElem? (i := 72) rfl) rfl, tk_M, n_M, by decide +kernel, rfl⟩
theorem fr_M_136 : mj_fr "ClauseGlassModel" 136 4 27 := ⟨R_M, F_M, 36, rfl, rfl, by decide, i_M, Or.inl (tin_3 (List.mem_of_getElem? (i := 73) rfl) rfl)⟩
theorem fp_M_136 : mj_fp "ClauseGlassModel" 136 4 27 .int false := ⟨R_M, F_M, 36, t_M, rfl, rfl, by decide, i_M, tin_3 (List.mem_of_getElem? (i := 73) rfl) rfl, tk_M, n_M, by decide +kernel, rfl⟩
theorem fr_M_129 : mj_fr "ClauseGlassModel" 129 4 28 := ⟨R_M, F_M, 36, rfl, rfl, by decide, i_M, Or.inl (tin_3 (List.mem_of_getElem? (i := 74) rfl) rfl)⟩
theorem fp_M_129 : mj_fp "ClauseGlassModel" 129 4 28 .int false := ⟨R_M, F_M, 36, t_M, rfl, rfl, by decide, i_M, tin_3 (List.mem_of_getElem? (i := 74) rfl) rfl, tk_M, n_M, by decide +kernel, rfl⟩
theorem fr_M_75 : mj_fr "ClauseGlassModel" 75 4 29 := ⟨R_M, F_M, 36, rfl, rfl, by decide, i_M, Or.inl (tin_3 (List.mem_of_getElem? (i := 75) rfl) rfl)⟩
theorem fp_M_75 : mj_fp "ClauseGlassModel" 75 4 29 (.array .boolean) true := ⟨R_M, F_M, 36, t_M, rfl, rfl, by decide, i_M, tin_3 (List.mem_of_getElem? (i := 75) rfl) rfl, tk_M, n_M, by decide +kernel, rfl⟩
theorem fr_M_78 : mj_fr "ClauseGlassModel" 78 4 30 := ⟨R_M, F_M, 36, rfl, rfl, by decide, i_M, Or.inl (tin_3 (List.mem_of_getElem? (i := 76) rfl) rfl)⟩
theorem fp_M_78 : mj_fp "ClauseGlassModel" 78 4 30 (.array .int) true := ⟨R_M, F_M, 36, t_M, rfl, rfl, by decide, i_M, tin_3 (List.mem_of_getElem? (i := 76) rfl) rfl, tk_M, n_M, by decide +kernel, rfl⟩
theorem fr_M_81 : mj_fr "ClauseGlassModel" 81 4 31 := ⟨R_M, F_M, 36, rfl, rfl, by decide, i_M, Or.inl (tin_3 (List.mem_of_getElem? (i := 77) rfl) rfl)⟩
theorem fp_M_81 : mj_fp "ClauseGlassModel" 81 4 31 (.array .int) true := ⟨R_M, F_M, 36, t_M, rfl, rfl, by decide, i_M, tin_3 (List.mem_of_getElem? (i := 77) rfl) rfl, tk_M, n_M, by decide +kernel, rfl⟩
theorem fr_M_84 : mj_fr "ClauseGlassModel" 84 4 32 := ⟨R_M, F_M, 36, rfl, rfl, by decide, i_M, Or.inl (tin_3 (List.mem_of_getElem? (i := 78) rfl) rfl)⟩
theorem fp_M_84 : mj_fp "ClauseGlassModel" 84 4 32 (.array .int) true := ⟨R_M, F_M, 36, t_M, rfl, rfl, by decide, i_M, tin_3 (List.mem_of_getElem? (i := 78) rfl) rfl, tk_M, n_M, by decide +kernel, rfl⟩
theorem fr_M_143 : mj_fr "ClauseGlassModel" 143 4 33 := ⟨R_M, F_M, 36, rfl, rfl, by decide, i_M, Or.inl (tin_3 (List.mem_of_getElem? (i := 79) rfl) rfl)⟩
theorem fp_M_143 : mj_fp "ClauseGlassModel" 143 4 33 .int false := ⟨R_M, F_M, 36, t_M, rfl, rfl, by decide, i_M, tin_3 (List.mem_of_getElem? (i := 79) rfl) rfl, tk_M, n_M, by decide +kernel, rfl⟩
theorem fr_M_146 : mj_fr "ClauseGlassModel" 146 4 34 := ⟨R_M, F_M, 36, rfl, rfl, by decide, i_M, Or.inl (tin_3 (List.mem_of_getElem? (i := 80) rfl) rfl)⟩
theorem fp_M_146 : mj_fp "ClauseGlassModel" 146 4 34 .int false := ⟨R_M, F_M, 36, t_M, rfl, rfl, by decide, i_M, tin_3 (List.mem_of_getElem? (i := 80) rfl) rfl, tk_M, n_M, by decide +kernel, rfl⟩
theorem fr_M_119 : mj_fr "ClauseGlassModel" 119 4 35 := ⟨R_M, F_M, 36, rfl, rfl, by decide, i_M, Or.inl (tin_3 (List.mem_of_getElem? (i := 81) rfl) rfl)⟩
theorem fp_M_119 : mj_fp "ClauseGlassModel" 119 4 35 .int false := ⟨R_M, F_M, 36, t_M, rfl, rfl, by decide, i_M, tin_3 (List.mem_of_getElem? (i := 81) rfl) rfl, tk_M, n_M, by decide +kernel, rfl⟩
theorem fr_C_35 : mj_fr "ClauseGlass" 35 2 0 := ⟨R_S, F_S, 9, rfl, rfl, by decide, i_S, Or.inr ⟨"ClauseGlass", tin_1 (List.mem_of_getElem? (i := 28) rfl) rfl⟩⟩
theorem fr_C_61 : mj_fr "ClauseGlass" 61 2 1 := ⟨R_S, F_S, 9, rfl, rfl, by decide, i_S, Or.inr ⟨"ClauseGlass", tin_1 (List.mem_of_getElem? (i := 30) rfl) rfl⟩⟩
theorem fr_C_154 : mj_fr "ClauseGlass" 154 2 2 := ⟨R_S, F_S, 9, rfl, rfl, by decide, i_S, Or.inr ⟨"ClauseGlass", tin_1 (List.mem_of_getElem? (i := 32) rfl) rfl⟩⟩
theorem fr_C_101 : mj_fr "ClauseGlass" 101 2 5 := ⟨R_S, F_S, 9, rfl, rfl, by decide, i_S, Or.inr ⟨"ClauseGlass", tin_1 (List.mem_of_getElem? (i := 36) rfl) rfl⟩⟩
theorem fr_H_72 : mj_fr "ClauseGlass$Sheet" 72 2 6 := ⟨R_S, F_S, 9, rfl, rfl, by decide, i_S, Or.inr ⟨"ClauseGlass", tin_1 (List.mem_of_getElem? (i := 38) rfl) rfl⟩⟩
theorem fr_C_86 : mj_fr "ClauseGlass" 86 2 6 := ⟨R_S, F_S, 9, rfl, rfl, by decide, i_S, Or.inr ⟨"ClauseGlass", tin_1 (List.mem_of_getElem? (i := 39) rfl) rfl⟩⟩
theorem fr_C_148 : mj_fr "ClauseGlass" 148 0 0 := ⟨R_P, F_P, 7, rfl, rfl, by decide, i_P, Or.inr ⟨"ClauseGlass", tin_1 (List.mem_of_getElem? (i := 69) rfl) rfl⟩⟩
theorem fr_H_66 : mj_fr "ClauseGlass$Sheet" 66 0 1 := ⟨R_P, F_P, 7, rfl, rfl, by decide, i_P, Or.inr ⟨"ClauseGlass", tin_1 (List.mem_of_getElem? (i := 71) rfl) rfl⟩⟩
theorem fr_C_175 : mj_fr "ClauseGlass" 175 0 2 := ⟨R_P, F_P, 7, rfl, rfl, by decide, i_P, Or.inr ⟨"ClauseGlass", tin_1 (List.mem_of_getElem? (i := 73) rfl) rfl⟩⟩
theorem fr_H_69 : mj_fr "ClauseGlass$Sheet" 69 0 3 := ⟨R_P, F_P, 7, rfl, rfl, by decide, i_P, Or.inr ⟨"ClauseGlass", tin_1 (List.mem_of_getElem? (i := 75) rfl) rfl⟩⟩
theorem fr_H_62 : mj_fr "ClauseGlass$Sheet" 62 0 6 := ⟨R_P, F_P, 7, rfl, rfl, by decide, i_P, Or.inr ⟨"ClauseGlass", tin_1 (List.mem_of_getElem? (i := 79) rfl) rfl⟩⟩
theorem fr_C_98 : mj_fr "ClauseGlass" 98 0 6 := ⟨R_P, F_P, 7, rfl, rfl, by decide, i_P, Or.inr ⟨"ClauseGlass", tin_1 (List.mem_of_getElem? (i := 80) rfl) rfl⟩⟩
theorem fr_C_111 : mj_fr "ClauseGlass" 111 1 2 := ⟨R_H, F_H, 12, rfl, rfl, by decide, i_H, Or.inr ⟨"ClauseGlass", tin_1 (List.mem_of_getElem? (i := 111) rfl) rfl⟩⟩
theorem fr_C_114 : mj_fr "ClauseGlass" 114 1 3 := ⟨R_H, F_H, 12, rfl, rfl, by decide, i_H, Or.inr ⟨"ClauseGlass", tin_1 (List.mem_of_getElem? (i := 113) rfl) rfl⟩⟩
theorem fr_C_119 : mj_fr "ClauseGlass" 119 1 5 := ⟨R_H, F_H, 12, rfl, rfl, by decide, i_H, Or.inr ⟨"ClauseGlass", tin_1 (List.mem_of_getElem? (i := 116) rfl) rfl⟩⟩
theorem ci_L_53 : mj_ci "ClauseGlassLaw" 53 y_C_init := ⟨Or.inl (tin_1 (List.mem_of_getElem? (i := 15) rfl) rfl), tin_1 (List.mem_of_getElem? (i := 16) rfl) rfl, tin_1 (List.mem_of_getElem? (i := 1) rfl) rfl, by decide +kernel, by decide +kernel, rfl⟩
theorem cv_H_41 : mj_cv "ClauseGlass$Sheet" 41 y_H_clear 1 := ⟨Or.inl (tin_1 (List.mem_of_getElem? (i := 104) rfl) rfl), tin_1 (List.mem_of_getElem? (i := 106) rfl) rfl, tin_s (List.mem_of_getElem? (i := 0) rfl) rfl, tin_1 (List.mem_of_getElem? (i := 4) rfl) rfl, ⟨F_H, 12, rfl⟩, by decide +kernel, by decide +kernel⟩
theorem cv_L_91 : mj_cv "ClauseGlassLaw" 91 y_C_open 3 := ⟨Or.inl (tin_1 (List.mem_of_getElem? (i := 162) rfl) rfl), tin_1 (List.mem_of_getElem? (i := 163) rfl) rfl, tin_1 (List.mem_of_getElem? (i := 164) rfl) rfl, tin_1 (List.mem_of_getElem? (i := 1) rfl) rfl, ⟨F_C, 4, rfl⟩, by decide +kernel, by decide +kernel⟩
theorem cv_H_96 : mj_cv "ClauseGlass$Sheet" 96 y_H_escapes 1 := ⟨Or.inl (tin_1 (List.mem_of_getElem? (i := 174) rfl) rfl), tin_1 (List.mem_of_getElem? (i := 176) rfl) rfl, tin_s (List.mem_of_getElem? (i := 3) rfl) rfl, tin_1 (List.mem_of_getElem? (i := 4) rfl) rfl, ⟨F_H, 12, rfl⟩, by decide +kernel, by decide +kernel⟩
theorem cv_H_116 : mj_cv "ClauseGlass$Sheet" 116 y_H_rowWithLeastLeft 1 := ⟨Or.inl (tin_1 (List.mem_of_getElem? (i := 178) rfl) rfl), tin_1 (List.mem_of_getElem? (i := 180) rfl) rfl, tin_s (List.mem_of_getElem? (i := 4) rfl) rfl, tin_1 (List.mem_of_getElem? (i := 4) rfl) rfl, ⟨F_H, 12, rfl⟩, by decide +kernel, by decide +kernel⟩
theorem cs_H_140 : mj_cs "ClauseGlass$Sheet" 140 y_JL_bitCount := ⟨tin_1 (List.mem_of_getElem? (i := 183) rfl) rfl, tin_1 (List.mem_of_getElem? (i := 184) rfl) rfl, tin_1 (List.mem_of_getElem? (i := 11) rfl) rfl, by decide +kernel, by decide +kernel⟩
theorem cs_H_122 : mj_cs "ClauseGlass$Sheet" 122 y_JL_numberOfTrailingZeros := ⟨tin_1 (List.mem_of_getElem? (i := 189) rfl) rfl, tin_1 (List.mem_of_getElem? (i := 190) rfl) rfl, tin_1 (List.mem_of_getElem? (i := 11) rfl) rfl, by decide +kernel, by decide +kernel⟩
theorem cs_JL_311 : mj_cs "java/lang/Long" 311 y_JI_numberOfTrailingZeros := ⟨tin_1 (List.mem_of_getElem? (i := 192) rfl) rfl, tin_1 (List.mem_of_getElem? (i := 193) rfl) rfl, tin_1 (List.mem_of_getElem? (i := 12) rfl) rfl, by decide +kernel, by decide +kernel⟩
theorem cv_H_128 : mj_cv "ClauseGlass$Sheet" 128 y_H_rowsSilentAt 1 := ⟨Or.inl (tin_1 (List.mem_of_getElem? (i := 196) rfl) rfl), tin_1 (List.mem_of_getElem? (i := 198) rfl) rfl, tin_s (List.mem_of_getElem? (i := 5) rfl) rfl, tin_1 (List.mem_of_getElem? (i := 4) rfl) rfl, ⟨F_H, 12, rfl⟩, by decide +kernel, by decide +kernel⟩
theorem cv_H_106 : mj_cv "ClauseGlass$Sheet" 106 y_H_isAsked 1 := ⟨Or.inl (tin_1 (List.mem_of_getElem? (i := 200) rfl) rfl), tin_1 (List.mem_of_getElem? (i := 202) rfl) rfl, tin_s (List.mem_of_getElem? (i := 6) rfl) rfl, tin_1 (List.mem_of_getElem? (i := 4) rfl) rfl, ⟨F_H, 12, rfl⟩, by decide +kernel, by decide +kernel⟩
theorem cv_H_134 : mj_cv "ClauseGlass$Sheet" 134 y_H_consAskedAt 1 := ⟨Or.inl (tin_1 (List.mem_of_getElem? (i := 208) rfl) rfl), tin_1 (List.mem_of_getElem? (i := 210) rfl) rfl, tin_s (List.mem_of_getElem? (i := 8) rfl) rfl, tin_1 (List.mem_of_getElem? (i := 4) rfl) rfl, ⟨F_H, 12, rfl⟩, by decide +kernel, by decide +kernel⟩
theorem cv_H_137 : mj_cv "ClauseGlass$Sheet" 137 y_H_rowsAsking 1 := ⟨Or.inl (tin_1 (List.mem_of_getElem? (i := 212) rfl) rfl), tin_1 (List.mem_of_getElem? (i := 214) rfl) rfl, tin_s (List.mem_of_getElem? (i := 9) rfl) rfl, tin_1 (List.mem_of_getElem? (i := 4) rfl) rfl, ⟨F_H, 12, rfl⟩, by decide +kernel, by decide +kernel⟩
theorem cv_L_106 : mj_cv "ClauseGlassLaw" 106 y_C_count 3 := ⟨Or.inl (tin_1 (List.mem_of_getElem? (i := 216) rfl) rfl), tin_1 (List.mem_of_getElem? (i := 217) rfl) rfl, tin_1 (List.mem_of_getElem? (i := 218) rfl) rfl, tin_1 (List.mem_of_getElem? (i := 1) rfl) rfl, ⟨F_C, 4, rfl⟩, by decide +kernel, by decide +kernel⟩
theorem cv_H_103 : mj_cv "ClauseGlass$Sheet" 103 y_H_reaches 1 := ⟨Or.inl (tin_1 (List.mem_of_getElem? (i := 224) rfl) rfl), tin_1 (List.mem_of_getElem? (i := 226) rfl) rfl, tin_s (List.mem_of_getElem? (i := 11) rfl) rfl, tin_1 (List.mem_of_getElem? (i := 4) rfl) rfl, ⟨F_H, 12, rfl⟩, by decide +kernel, by decide +kernel⟩
theorem cv_H_88 : mj_cv "ClauseGlass$Sheet" 88 y_H_hasValue 1 := ⟨Or.inl (tin_1 (List.mem_of_getElem? (i := 228) rfl) rfl), tin_1 (List.mem_of_getElem? (i := 230) rfl) rfl, tin_s (List.mem_of_getElem? (i := 12) rfl) rfl, tin_1 (List.mem_of_getElem? (i := 4) rfl) rfl, ⟨F_H, 12, rfl⟩, by decide +kernel, by decide +kernel⟩
theorem cv_H_92 : mj_cv "ClauseGlass$Sheet" 92 y_H_rowsBeforeThatAgree 1 := ⟨Or.inl (tin_1 (List.mem_of_getElem? (i := 236) rfl) rfl), tin_1 (List.mem_of_getElem? (i := 238) rfl) rfl, tin_s (List.mem_of_getElem? (i := 14) rfl) rfl, tin_1 (List.mem_of_getElem? (i := 4) rfl) rfl, ⟨F_H, 12, rfl⟩, by decide +kernel, by decide +kernel⟩
theorem cv_H_113 : mj_cv "ClauseGlass$Sheet" 113 y_H_agree 1 := ⟨Or.inl (tin_2 (List.mem_of_getElem? (i := 0) rfl) rfl), tin_2 (List.mem_of_getElem? (i := 2) rfl) rfl, tin_s (List.mem_of_getElem? (i := 15) rfl) rfl, tin_1 (List.mem_of_getElem? (i := 4) rfl) rfl, ⟨F_H, 12, rfl⟩, by decide +kernel, by decide +kernel⟩
theorem cs_C_157 : mj_cs "ClauseGlass" 157 y_JI_bitCount := ⟨tin_2 (List.mem_of_getElem? (i := 4) rfl) rfl, tin_2 (List.mem_of_getElem? (i := 5) rfl) rfl, tin_1 (List.mem_of_getElem? (i := 12) rfl) rfl, by decide +kernel, by decide +kernel⟩
theorem cs_L_57 : mj_cs "ClauseGlassLaw" 57 y_L_sort := ⟨tin_2 (List.mem_of_getElem? (i := 10) rfl) rfl, tin_2 (List.mem_of_getElem? (i := 11) rfl) rfl, tin_1 (List.mem_of_getElem? (i := 0) rfl) rfl, by decide +kernel, by decide +kernel⟩
theorem cv_L_7 : mj_cv "ClauseGlassLaw" 7 y_C_sort 3 := ⟨Or.inl (tin_2 (List.mem_of_getElem? (i := 14) rfl) rfl), tin_2 (List.mem_of_getElem? (i := 15) rfl) rfl, tin_2 (List.mem_of_getElem? (i := 16) rfl) rfl, tin_1 (List.mem_of_getElem? (i := 1) rfl) rfl, ⟨F_C, 4, rfl⟩, by decide +kernel, by decide +kernel⟩
theorem cv_S_40 : mj_cv "ClauseGlass$Sorts" 40 y_S_findLiving 2 := ⟨Or.inl (tin_2 (List.mem_of_getElem? (i := 89) rfl) rfl), tin_2 (List.mem_of_getElem? (i := 91) rfl) rfl, tin_s (List.mem_of_getElem? (i := 18) rfl) rfl, tin_1 (List.mem_of_getElem? (i := 2) rfl) rfl, ⟨F_S, 9, rfl⟩, by decide +kernel, by decide +kernel⟩
theorem cv_S_43 : mj_cv "ClauseGlass$Sorts" 43 y_S_consWithLivingParts 2 := ⟨Or.inl (tin_2 (List.mem_of_getElem? (i := 93) rfl) rfl), tin_2 (List.mem_of_getElem? (i := 95) rfl) rfl, tin_s (List.mem_of_getElem? (i := 19) rfl) rfl, tin_1 (List.mem_of_getElem? (i := 2) rfl) rfl, ⟨F_S, 9, rfl⟩, by decide +kernel, by decide +kernel⟩
theorem cv_S_50 : mj_cv "ClauseGlass$Sorts" 50 y_S_partSort 2 := ⟨Or.inl (tin_2 (List.mem_of_getElem? (i := 97) rfl) rfl), tin_2 (List.mem_of_getElem? (i := 99) rfl) rfl, tin_s (List.mem_of_getElem? (i := 20) rfl) rfl, tin_1 (List.mem_of_getElem? (i := 2) rfl) rfl, ⟨F_S, 9, rfl⟩, by decide +kernel, by decide +kernel⟩
theorem cv_S_54 : mj_cv "ClauseGlass$Sorts" 54 y_S_isSortLiving 2 := ⟨Or.inl (tin_2 (List.mem_of_getElem? (i := 101) rfl) rfl), tin_1 (List.mem_of_getElem? (i := 172) rfl) rfl, tin_s (List.mem_of_getElem? (i := 2) rfl) rfl, tin_1 (List.mem_of_getElem? (i := 2) rfl) rfl, ⟨F_S, 9, rfl⟩, by decide +kernel, by decide +kernel⟩
theorem cv_S_47 : mj_cv "ClauseGlass$Sorts" 47 y_S_sortsWithLivingCons 2 := ⟨Or.inl (tin_2 (List.mem_of_getElem? (i := 102) rfl) rfl), tin_2 (List.mem_of_getElem? (i := 104) rfl) rfl, tin_s (List.mem_of_getElem? (i := 21) rfl) rfl, tin_1 (List.mem_of_getElem? (i := 2) rfl) rfl, ⟨F_S, 9, rfl⟩, by decide +kernel, by decide +kernel⟩
theorem cv_S_58 : mj_cv "ClauseGlass$Sorts" 58 y_S_livingConsOf 2 := ⟨Or.inl (tin_2 (List.mem_of_getElem? (i := 106) rfl) rfl), tin_1 (List.mem_of_getElem? (i := 206) rfl) rfl, tin_s (List.mem_of_getElem? (i := 7) rfl) rfl, tin_1 (List.mem_of_getElem? (i := 2) rfl) rfl, ⟨F_S, 9, rfl⟩, by decide +kernel, by decide +kernel⟩
theorem cs_L_66 : mj_cs "ClauseGlassLaw" 66 y_L_con := ⟨tin_2 (List.mem_of_getElem? (i := 107) rfl) rfl, tin_2 (List.mem_of_getElem? (i := 108) rfl) rfl, tin_1 (List.mem_of_getElem? (i := 0) rfl) rfl, by decide +kernel, by decide +kernel⟩
theorem cv_L_15 : mj_cv "ClauseGlassLaw" 15 y_C_con 3 := ⟨Or.inl (tin_2 (List.mem_of_getElem? (i := 111) rfl) rfl), tin_2 (List.mem_of_getElem? (i := 112) rfl) rfl, tin_2 (List.mem_of_getElem? (i := 113) rfl) rfl, tin_1 (List.mem_of_getElem? (i := 1) rfl) rfl, ⟨F_C, 4, rfl⟩, by decide +kernel, by decide +kernel⟩
theorem cv_C_50 : mj_cv "ClauseGlass" 50 y_C_needSort 3 := ⟨Or.inl (tin_2 (List.mem_of_getElem? (i := 115) rfl) rfl), tin_2 (List.mem_of_getElem? (i := 117) rfl) rfl, tin_s (List.mem_of_getElem? (i := 22) rfl) rfl, tin_1 (List.mem_of_getElem? (i := 1) rfl) rfl, ⟨F_C, 4, rfl⟩, by decide +kernel, by decide +kernel⟩
theorem cs_L_70 : mj_cs "ClauseGlassLaw" 70 y_L_any := ⟨tin_2 (List.mem_of_getElem? (i := 146) rfl) rfl, tin_2 (List.mem_of_getElem? (i := 147) rfl) rfl, tin_1 (List.mem_of_getElem? (i := 0) rfl) rfl, by decide +kernel, by decide +kernel⟩
theorem cv_L_21 : mj_cv "ClauseGlassLaw" 21 y_C_any 3 := ⟨Or.inl (tin_2 (List.mem_of_getElem? (i := 149) rfl) rfl), tin_2 (List.mem_of_getElem? (i := 150) rfl) rfl, tin_2 (List.mem_of_getElem? (i := 151) rfl) rfl, tin_1 (List.mem_of_getElem? (i := 1) rfl) rfl, ⟨F_C, 4, rfl⟩, by decide +kernel, by decide +kernel⟩
theorem cv_C_70 : mj_cv "ClauseGlass" 70 y_C_needRoomForPattern 3 := ⟨Or.inl (tin_2 (List.mem_of_getElem? (i := 153) rfl) rfl), tin_2 (List.mem_of_getElem? (i := 155) rfl) rfl, tin_s (List.mem_of_getElem? (i := 25) rfl) rfl, tin_1 (List.mem_of_getElem? (i := 1) rfl) rfl, ⟨F_C, 4, rfl⟩, by decide +kernel, by decide +kernel⟩
theorem cv_P_34 : mj_cv "ClauseGlass$Patterns" 34 y_P_addPattern 0 := ⟨Or.inl (tin_2 (List.mem_of_getElem? (i := 163) rfl) rfl), tin_2 (List.mem_of_getElem? (i := 165) rfl) rfl, tin_s (List.mem_of_getElem? (i := 27) rfl) rfl, tin_1 (List.mem_of_getElem? (i := 3) rfl) rfl, ⟨F_P, 7, rfl⟩, by decide +kernel, by decide +kernel⟩
theorem cs_L_74 : mj_cs "ClauseGlassLaw" 74 y_L_number := ⟨tin_2 (List.mem_of_getElem? (i := 167) rfl) rfl, tin_2 (List.mem_of_getElem? (i := 168) rfl) rfl, tin_1 (List.mem_of_getElem? (i := 0) rfl) rfl, by decide +kernel, by decide +kernel⟩
theorem cv_L_25 : mj_cv "ClauseGlassLaw" 25 y_C_number 3 := ⟨Or.inl (tin_2 (List.mem_of_getElem? (i := 170) rfl) rfl), tin_2 (List.mem_of_getElem? (i := 171) rfl) rfl, tin_2 (List.mem_of_getElem? (i := 172) rfl) rfl, tin_1 (List.mem_of_getElem? (i := 1) rfl) rfl, ⟨F_C, 4, rfl⟩, by decide +kernel, by decide +kernel⟩
theorem cs_L_77 : mj_cs "ClauseGlassLaw" 77 y_L_made := ⟨tin_2 (List.mem_of_getElem? (i := 178) rfl) rfl, tin_2 (List.mem_of_getElem? (i := 179) rfl) rfl, tin_1 (List.mem_of_getElem? (i := 0) rfl) rfl, by decide +kernel, by decide +kernel⟩
theorem cv_L_28 : mj_cv "ClauseGlassLaw" 28 y_C_made 3 := ⟨Or.inl (tin_2 (List.mem_of_getElem? (i := 181) rfl) rfl), tin_2 (List.mem_of_getElem? (i := 182) rfl) rfl, tin_2 (List.mem_of_getElem? (i := 183) rfl) rfl, tin_1 (List.mem_of_getElem? (i := 1) rfl) rfl, ⟨F_C, 4, rfl⟩, by decide +kernel, by decide +kernel⟩
theorem cv_C_94 : mj_cv "ClauseGlass" 94 y_C_needPatternOf 3 := ⟨Or.inl (tin_2 (List.mem_of_getElem? (i := 191) rfl) rfl), tin_2 (List.mem_of_getElem? (i := 193) rfl) rfl, tin_s (List.mem_of_getElem? (i := 30) rfl) rfl, tin_1 (List.mem_of_getElem? (i := 1) rfl) rfl, ⟨F_C, 4, rfl⟩, by decide +kernel, by decide +kernel⟩
theorem cv_C_172 : mj_cv "ClauseGlass" 172 y_C_needPattern 3 := ⟨Or.inl (tin_2 (List.mem_of_getElem? (i := 195) rfl) rfl), tin_2 (List.mem_of_getElem? (i := 197) rfl) rfl, tin_s (List.mem_of_getElem? (i := 31) rfl) rfl, tin_1 (List.mem_of_getElem? (i := 1) rfl) rfl, ⟨F_C, 4, rfl⟩, by decide +kernel, by decide +kernel⟩
theorem cs_L_81 : mj_cs "ClauseGlassLaw" 81 y_L_begin := ⟨tin_2 (List.mem_of_getElem? (i := 209) rfl) rfl, tin_2 (List.mem_of_getElem? (i := 210) rfl) rfl, tin_1 (List.mem_of_getElem? (i := 0) rfl) rfl, by decide +kernel, by decide +kernel⟩
theorem cv_L_32 : mj_cv "ClauseGlassLaw" 32 y_C_begin 3 := ⟨Or.inl (tin_2 (List.mem_of_getElem? (i := 212) rfl) rfl), tin_2 (List.mem_of_getElem? (i := 213) rfl) rfl, tin_2 (List.mem_of_getElem? (i := 214) rfl) rfl, tin_1 (List.mem_of_getElem? (i := 1) rfl) rfl, ⟨F_C, 4, rfl⟩, by decide +kernel, by decide +kernel⟩
theorem cs_L_85 : mj_cs "ClauseGlassLaw" 85 y_L_clause := ⟨tin_2 (List.mem_of_getElem? (i := 217) rfl) rfl, tin_2 (List.mem_of_getElem? (i := 218) rfl) rfl, tin_1 (List.mem_of_getElem? (i := 0) rfl) rfl, by decide +kernel, by decide +kernel⟩
theorem cv_L_36 : mj_cv "ClauseGlassLaw" 36 y_C_clause 3 := ⟨Or.inl (tin_2 (List.mem_of_getElem? (i := 220) rfl) rfl), tin_2 (List.mem_of_getElem? (i := 221) rfl) rfl, tin_2 (List.mem_of_getElem? (i := 222) rfl) rfl, tin_1 (List.mem_of_getElem? (i := 1) rfl) rfl, ⟨F_C, 4, rfl⟩, by decide +kernel, by decide +kernel⟩
theorem cv_H_58 : mj_cv "ClauseGlass$Sheet" 58 y_H_layPart 1 := ⟨Or.inl (tin_2 (List.mem_of_getElem? (i := 230) rfl) rfl), tin_2 (List.mem_of_getElem? (i := 232) rfl) rfl, tin_s (List.mem_of_getElem? (i := 35) rfl) rfl, tin_1 (List.mem_of_getElem? (i := 4) rfl) rfl, ⟨F_H, 12, rfl⟩, by decide +kernel, by decide +kernel⟩
theorem cv_H_81 : mj_cv "ClauseGlass$Sheet" 81 y_H_placeBelow 1 := ⟨Or.inl (tin_2 (List.mem_of_getElem? (i := 238) rfl) rfl), tin_3 (List.mem_of_getElem? (i := 0) rfl) rfl, tin_s (List.mem_of_getElem? (i := 37) rfl) rfl, tin_1 (List.mem_of_getElem? (i := 4) rfl) rfl, ⟨F_H, 12, rfl⟩, by decide +kernel, by decide +kernel⟩
theorem cs_L_88 : mj_cs "ClauseGlassLaw" 88 y_L_takes := ⟨tin_3 (List.mem_of_getElem? (i := 4) rfl) rfl, tin_3 (List.mem_of_getElem? (i := 5) rfl) rfl, tin_1 (List.mem_of_getElem? (i := 0) rfl) rfl, by decide +kernel, by decide +kernel⟩
theorem cv_L_40 : mj_cv "ClauseGlassLaw" 40 y_C_takes 3 := ⟨Or.inl (tin_3 (List.mem_of_getElem? (i := 7) rfl) rfl), tin_3 (List.mem_of_getElem? (i := 8) rfl) rfl, tin_3 (List.mem_of_getElem? (i := 9) rfl) rfl, tin_1 (List.mem_of_getElem? (i := 1) rfl) rfl, ⟨F_C, 4, rfl⟩, by decide +kernel, by decide +kernel⟩
theorem cs_L_96 : mj_cs "ClauseGlassLaw" 96 y_L_covers := ⟨tin_3 (List.mem_of_getElem? (i := 12) rfl) rfl, tin_3 (List.mem_of_getElem? (i := 13) rfl) rfl, tin_1 (List.mem_of_getElem? (i := 0) rfl) rfl, by decide +kernel, by decide +kernel⟩
theorem cv_L_43 : mj_cv "ClauseGlassLaw" 43 y_C_covers 3 := ⟨Or.inl (tin_3 (List.mem_of_getElem? (i := 15) rfl) rfl), tin_3 (List.mem_of_getElem? (i := 16) rfl) rfl, tin_3 (List.mem_of_getElem? (i := 17) rfl) rfl, tin_1 (List.mem_of_getElem? (i := 1) rfl) rfl, ⟨F_C, 4, rfl⟩, by decide +kernel, by decide +kernel⟩
theorem cv_C_135 : mj_cv "ClauseGlass" 135 y_C_layPair 3 := ⟨Or.inl (tin_3 (List.mem_of_getElem? (i := 19) rfl) rfl), tin_3 (List.mem_of_getElem? (i := 21) rfl) rfl, tin_s (List.mem_of_getElem? (i := 38) rfl) rfl, tin_1 (List.mem_of_getElem? (i := 1) rfl) rfl, ⟨F_C, 4, rfl⟩, by decide +kernel, by decide +kernel⟩
theorem cs_L_100 : mj_cs "ClauseGlassLaw" 100 y_L_meets := ⟨tin_3 (List.mem_of_getElem? (i := 23) rfl) rfl, tin_3 (List.mem_of_getElem? (i := 24) rfl) rfl, tin_1 (List.mem_of_getElem? (i := 0) rfl) rfl, by decide +kernel, by decide +kernel⟩
theorem cv_L_47 : mj_cv "ClauseGlassLaw" 47 y_C_meets 3 := ⟨Or.inl (tin_3 (List.mem_of_getElem? (i := 26) rfl) rfl), tin_3 (List.mem_of_getElem? (i := 27) rfl) rfl, tin_3 (List.mem_of_getElem? (i := 28) rfl) rfl, tin_1 (List.mem_of_getElem? (i := 1) rfl) rfl, ⟨F_C, 4, rfl⟩, by decide +kernel, by decide +kernel⟩
theorem cs_L_103 : mj_cs "ClauseGlassLaw" 103 y_L_lives := ⟨tin_3 (List.mem_of_getElem? (i := 32) rfl) rfl, tin_3 (List.mem_of_getElem? (i := 33) rfl) rfl, tin_1 (List.mem_of_getElem? (i := 0) rfl) rfl, by decide +kernel, by decide +kernel⟩
theorem cv_L_50 : mj_cv "ClauseGlassLaw" 50 y_C_lives 3 := ⟨Or.inl (tin_3 (List.mem_of_getElem? (i := 35) rfl) rfl), tin_3 (List.mem_of_getElem? (i := 36) rfl) rfl, tin_3 (List.mem_of_getElem? (i := 37) rfl) rfl, tin_1 (List.mem_of_getElem? (i := 1) rfl) rfl, ⟨F_C, 4, rfl⟩, by decide +kernel, by decide +kernel⟩
theorem ci_L_56 : mj_ci "ClauseGlassLaw" 56 y_M_init := ⟨Or.inl (tin_3 (List.mem_of_getElem? (i := 42) rfl) rfl), tin_3 (List.mem_of_getElem? (i := 43) rfl) rfl, tin_1 (List.mem_of_getElem? (i := 5) rfl) rfl, by decide +kernel, by decide +kernel, rfl⟩
theorem cv_L_63 : mj_cv "ClauseGlassLaw" 63 y_M_thrown 4 := ⟨Or.inl (tin_3 (List.mem_of_getElem? (i := 156) rfl) rfl), tin_3 (List.mem_of_getElem? (i := 157) rfl) rfl, tin_3 (List.mem_of_getElem? (i := 158) rfl) rfl, tin_1 (List.mem_of_getElem? (i := 5) rfl) rfl, ⟨F_M, 36, rfl⟩, by decide +kernel, by decide +kernel⟩
theorem cv_L_62 : mj_cv "ClauseGlassLaw" 62 y_M_sort 4 := ⟨Or.inl (tin_3 (List.mem_of_getElem? (i := 160) rfl) rfl), tin_3 (List.mem_of_getElem? (i := 161) rfl) rfl, tin_3 (List.mem_of_getElem? (i := 162) rfl) rfl, tin_1 (List.mem_of_getElem? (i := 5) rfl) rfl, ⟨F_M, 36, rfl⟩, by decide +kernel, by decide +kernel⟩
theorem cv_L_69 : mj_cv "ClauseGlassLaw" 69 y_M_con 4 := ⟨Or.inl (tin_3 (List.mem_of_getElem? (i := 164) rfl) rfl), tin_3 (List.mem_of_getElem? (i := 165) rfl) rfl, tin_3 (List.mem_of_getElem? (i := 166) rfl) rfl, tin_1 (List.mem_of_getElem? (i := 5) rfl) rfl, ⟨F_M, 36, rfl⟩, by decide +kernel, by decide +kernel⟩
theorem cv_M_93 : mj_cv "ClauseGlassModel" 93 y_M_isSort 4 := ⟨Or.inl (tin_3 (List.mem_of_getElem? (i := 168) rfl) rfl), tin_3 (List.mem_of_getElem? (i := 170) rfl) rfl, tin_s (List.mem_of_getElem? (i := 39) rfl) rfl, tin_1 (List.mem_of_getElem? (i := 5) rfl) rfl, ⟨F_M, 36, rfl⟩, by decide +kernel, by decide +kernel⟩
theorem cv_L_73 : mj_cv "ClauseGlassLaw" 73 y_M_any 4 := ⟨Or.inl (tin_3 (List.mem_of_getElem? (i := 172) rfl) rfl), tin_3 (List.mem_of_getElem? (i := 173) rfl) rfl, tin_3 (List.mem_of_getElem? (i := 174) rfl) rfl, tin_1 (List.mem_of_getElem? (i := 5) rfl) rfl, ⟨F_M, 36, rfl⟩, by decide +kernel, by decide +kernel⟩
theorem cv_M_100 : mj_cv "ClauseGlassModel" 100 y_M_pattern 4 := ⟨Or.inl (tin_3 (List.mem_of_getElem? (i := 176) rfl) rfl), tin_3 (List.mem_of_getElem? (i := 178) rfl) rfl, tin_s (List.mem_of_getElem? (i := 40) rfl) rfl, tin_1 (List.mem_of_getElem? (i := 5) rfl) rfl, ⟨F_M, 36, rfl⟩, by decide +kernel, by decide +kernel⟩
theorem cv_L_76 : mj_cv "ClauseGlassLaw" 76 y_M_number 4 := ⟨Or.inl (tin_3 (List.mem_of_getElem? (i := 180) rfl) rfl), tin_3 (List.mem_of_getElem? (i := 181) rfl) rfl, tin_3 (List.mem_of_getElem? (i := 182) rfl) rfl, tin_1 (List.mem_of_getElem? (i := 5) rfl) rfl, ⟨F_M, 36, rfl⟩, by decide +kernel, by decide +kernel⟩
theorem cv_L_80 : mj_cv "ClauseGlassLaw" 80 y_M_made 4 := ⟨Or.inl (tin_3 (List.mem_of_getElem? (i := 184) rfl) rfl), tin_3 (List.mem_of_getElem? (i := 185) rfl) rfl, tin_3 (List.mem_of_getElem? (i := 186) rfl) rfl, tin_1 (List.mem_of_getElem? (i := 5) rfl) rfl, ⟨F_M, 36, rfl⟩, by decide +kernel, by decide +kernel⟩
theorem cv_M_104 : mj_cv "ClauseGlassModel" 104 y_M_isPattern 4 := ⟨Or.inl (tin_3 (List.mem_of_getElem? (i := 188) rfl) rfl), tin_3 (List.mem_of_getElem? (i := 190) rfl) rfl, tin_s (List.mem_of_getElem? (i := 41) rfl) rfl, tin_1 (List.mem_of_getElem? (i := 5) rfl) rfl, ⟨F_M, 36, rfl⟩, by decide +kernel, by decide +kernel⟩
theorem cv_L_84 : mj_cv "ClauseGlassLaw" 84 y_M_begin 4 := ⟨Or.inl (tin_3 (List.mem_of_getElem? (i := 192) rfl) rfl), tin_3 (List.mem_of_getElem? (i := 193) rfl) rfl, tin_3 (List.mem_of_getElem? (i := 194) rfl) rfl, tin_1 (List.mem_of_getElem? (i := 5) rfl) rfl, ⟨F_M, 36, rfl⟩, by decide +kernel, by decide +kernel⟩
theorem cv_L_87 : mj_cv "ClauseGlassLaw" 87 y_M_clause 4 := ⟨Or.inl (tin_3 (List.mem_of_getElem? (i := 196) rfl) rfl), tin_3 (List.mem_of_getElem? (i := 197) rfl) rfl, tin_3 (List.mem_of_getElem? (i := 198) rfl) rfl, tin_1 (List.mem_of_getElem? (i := 5) rfl) rfl, ⟨F_M, 36, rfl⟩, by decide +kernel, by decide +kernel⟩
theorem cv_M_165 : mj_cv "ClauseGlassModel" 165 y_M_reaches 4 := ⟨Or.inl (tin_3 (List.mem_of_getElem? (i := 200) rfl) rfl), tin_3 (List.mem_of_getElem? (i := 202) rfl) rfl, tin_s (List.mem_of_getElem? (i := 42) rfl) rfl, tin_1 (List.mem_of_getElem? (i := 5) rfl) rfl, ⟨F_M, 36, rfl⟩, by decide +kernel, by decide +kernel⟩
theorem cv_M_162 : mj_cv "ClauseGlassModel" 162 y_M_has 4 := ⟨Or.inl (tin_3 (List.mem_of_getElem? (i := 204) rfl) rfl), tin_3 (List.mem_of_getElem? (i := 206) rfl) rfl, tin_s (List.mem_of_getElem? (i := 43) rfl) rfl, tin_1 (List.mem_of_getElem? (i := 5) rfl) rfl, ⟨F_M, 36, rfl⟩, by decide +kernel, by decide +kernel⟩
theorem cv_M_153 : mj_cv "ClauseGlassModel" 153 y_M_live 4 := ⟨Or.inl (tin_3 (List.mem_of_getElem? (i := 208) rfl) rfl), tin_3 (List.mem_of_getElem? (i := 210) rfl) rfl, tin_s (List.mem_of_getElem? (i := 44) rfl) rfl, tin_1 (List.mem_of_getElem? (i := 5) rfl) rfl, ⟨F_M, 36, rfl⟩, by decide +kernel, by decide +kernel⟩
theorem cv_M_113 : mj_cv "ClauseGlassModel" 113 y_M_isUsed 4 := ⟨Or.inl (tin_3 (List.mem_of_getElem? (i := 212) rfl) rfl), tin_3 (List.mem_of_getElem? (i := 214) rfl) rfl, tin_s (List.mem_of_getElem? (i := 45) rfl) rfl, tin_1 (List.mem_of_getElem? (i := 5) rfl) rfl, ⟨F_M, 36, rfl⟩, by decide +kernel, by decide +kernel⟩
theorem cv_M_149 : mj_cv "ClauseGlassModel" 149 y_M_gather 4 := ⟨Or.inl (tin_3 (List.mem_of_getElem? (i := 216) rfl) rfl), tin_3 (List.mem_of_getElem? (i := 218) rfl) rfl, tin_s (List.mem_of_getElem? (i := 46) rfl) rfl, tin_1 (List.mem_of_getElem? (i := 5) rfl) rfl, ⟨F_M, 36, rfl⟩, by decide +kernel, by decide +kernel⟩
theorem cv_M_156 : mj_cv "ClauseGlassModel" 156 y_M_look 4 := ⟨Or.inl (tin_3 (List.mem_of_getElem? (i := 220) rfl) rfl), tin_3 (List.mem_of_getElem? (i := 222) rfl) rfl, tin_s (List.mem_of_getElem? (i := 47) rfl) rfl, tin_1 (List.mem_of_getElem? (i := 5) rfl) rfl, ⟨F_M, 36, rfl⟩, by decide +kernel, by decide +kernel⟩
theorem cv_M_125 : mj_cv "ClauseGlassModel" 125 y_M_node 4 := ⟨Or.inl (tin_3 (List.mem_of_getElem? (i := 224) rfl) rfl), tin_3 (List.mem_of_getElem? (i := 226) rfl) rfl, tin_s (List.mem_of_getElem? (i := 48) rfl) rfl, tin_1 (List.mem_of_getElem? (i := 5) rfl) rfl, ⟨F_M, 36, rfl⟩, by decide +kernel, by decide +kernel⟩
theorem cv_M_139 : mj_cv "ClauseGlassModel" 139 y_M_fill 4 := ⟨Or.inl (tin_3 (List.mem_of_getElem? (i := 228) rfl) rfl), tin_3 (List.mem_of_getElem? (i := 230) rfl) rfl, tin_s (List.mem_of_getElem? (i := 49) rfl) rfl, tin_1 (List.mem_of_getElem? (i := 5) rfl) rfl, ⟨F_M, 36, rfl⟩, by decide +kernel, by decide +kernel⟩
theorem cv_M_122 : mj_cv "ClauseGlassModel" 122 y_M_isTried 4 := ⟨Or.inl (tin_3 (List.mem_of_getElem? (i := 232) rfl) rfl), tin_3 (List.mem_of_getElem? (i := 234) rfl) rfl, tin_s (List.mem_of_getElem? (i := 50) rfl) rfl, tin_1 (List.mem_of_getElem? (i := 5) rfl) rfl, ⟨F_M, 36, rfl⟩, by decide +kernel, by decide +kernel⟩
theorem cv_M_132 : mj_cv "ClauseGlassModel" 132 y_M_fit 4 := ⟨Or.inl (tin_3 (List.mem_of_getElem? (i := 236) rfl) rfl), tin_3 (List.mem_of_getElem? (i := 238) rfl) rfl, tin_s (List.mem_of_getElem? (i := 51) rfl) rfl, tin_1 (List.mem_of_getElem? (i := 5) rfl) rfl, ⟨F_M, 36, rfl⟩, by decide +kernel, by decide +kernel⟩
theorem cv_M_159 : mj_cv "ClauseGlassModel" 159 y_M_options 4 := ⟨Or.inl (tin_4 (List.mem_of_getElem? (i := 0) rfl) rfl), tin_4 (List.mem_of_getElem? (i := 2) rfl) rfl, tin_s (List.mem_of_getElem? (i := 52) rfl) rfl, tin_1 (List.mem_of_getElem? (i := 5) rfl) rfl, ⟨F_M, 36, rfl⟩, by decide +kernel, by decide +kernel⟩
theorem cv_L_90 : mj_cv "ClauseGlassLaw" 90 y_M_takes 4 := ⟨Or.inl (tin_4 (List.mem_of_getElem? (i := 4) rfl) rfl), tin_4 (List.mem_of_getElem? (i := 5) rfl) rfl, tin_4 (List.mem_of_getElem? (i := 6) rfl) rfl, tin_1 (List.mem_of_getElem? (i := 5) rfl) rfl, ⟨F_M, 36, rfl⟩, by decide +kernel, by decide +kernel⟩
theorem cv_L_95 : mj_cv "ClauseGlassLaw" 95 y_M_open 4 := ⟨Or.inl (tin_4 (List.mem_of_getElem? (i := 8) rfl) rfl), tin_4 (List.mem_of_getElem? (i := 9) rfl) rfl, tin_4 (List.mem_of_getElem? (i := 10) rfl) rfl, tin_1 (List.mem_of_getElem? (i := 5) rfl) rfl, ⟨F_M, 36, rfl⟩, by decide +kernel, by decide +kernel⟩
theorem cv_L_99 : mj_cv "ClauseGlassLaw" 99 y_M_covers 4 := ⟨Or.inl (tin_4 (List.mem_of_getElem? (i := 12) rfl) rfl), tin_4 (List.mem_of_getElem? (i := 13) rfl) rfl, tin_4 (List.mem_of_getElem? (i := 14) rfl) rfl, tin_1 (List.mem_of_getElem? (i := 5) rfl) rfl, ⟨F_M, 36, rfl⟩, by decide +kernel, by decide +kernel⟩
theorem cv_M_168 : mj_cv "ClauseGlassModel" 168 y_M_areLike 4 := ⟨Or.inl (tin_4 (List.mem_of_getElem? (i := 16) rfl) rfl), tin_4 (List.mem_of_getElem? (i := 18) rfl) rfl, tin_s (List.mem_of_getElem? (i := 53) rfl) rfl, tin_1 (List.mem_of_getElem? (i := 5) rfl) rfl, ⟨F_M, 36, rfl⟩, by decide +kernel, by decide +kernel⟩
theorem cv_L_102 : mj_cv "ClauseGlassLaw" 102 y_M_meets 4 := ⟨Or.inl (tin_4 (List.mem_of_getElem? (i := 20) rfl) rfl), tin_4 (List.mem_of_getElem? (i := 21) rfl) rfl, tin_4 (List.mem_of_getElem? (i := 22) rfl) rfl, tin_1 (List.mem_of_getElem? (i := 5) rfl) rfl, ⟨F_M, 36, rfl⟩, by decide +kernel, by decide +kernel⟩
theorem cv_L_105 : mj_cv "ClauseGlassLaw" 105 y_M_lives 4 := ⟨Or.inl (tin_4 (List.mem_of_getElem? (i := 24) rfl) rfl), tin_4 (List.mem_of_getElem? (i := 25) rfl) rfl, tin_4 (List.mem_of_getElem? (i := 26) rfl) rfl, tin_1 (List.mem_of_getElem? (i := 5) rfl) rfl, ⟨F_M, 36, rfl⟩, by decide +kernel, by decide +kernel⟩
theorem cv_L_109 : mj_cv "ClauseGlassLaw" 109 y_M_count 4 := ⟨Or.inl (tin_4 (List.mem_of_getElem? (i := 28) rfl) rfl), tin_4 (List.mem_of_getElem? (i := 29) rfl) rfl, tin_4 (List.mem_of_getElem? (i := 30) rfl) rfl, tin_1 (List.mem_of_getElem? (i := 5) rfl) rfl, ⟨F_M, 36, rfl⟩, by decide +kernel, by decide +kernel⟩
theorem ci_C_9 : mj_ci "ClauseGlass" 9 y_S_init := ⟨Or.inr ⟨"ClauseGlass", tin_1 (List.mem_of_getElem? (i := 23) rfl) rfl⟩, tin_1 (List.mem_of_getElem? (i := 24) rfl) rfl, tin_1 (List.mem_of_getElem? (i := 2) rfl) rfl, by decide +kernel, by decide +kernel, rfl⟩
theorem ci_C_18 : mj_ci "ClauseGlass" 18 y_P_init := ⟨Or.inr ⟨"ClauseGlass", tin_1 (List.mem_of_getElem? (i := 64) rfl) rfl⟩, tin_1 (List.mem_of_getElem? (i := 65) rfl) rfl, tin_1 (List.mem_of_getElem? (i := 3) rfl) rfl, by decide +kernel, by decide +kernel, rfl⟩
theorem ci_C_25 : mj_ci "ClauseGlass" 25 y_H_init := ⟨Or.inr ⟨"ClauseGlass", tin_1 (List.mem_of_getElem? (i := 98) rfl) rfl⟩, tin_1 (List.mem_of_getElem? (i := 99) rfl) rfl, tin_1 (List.mem_of_getElem? (i := 4) rfl) rfl, by decide +kernel, by decide +kernel, rfl⟩
theorem cv_C_131 : mj_cv "ClauseGlass" 131 y_H_leavesSome 1 := ⟨Or.inr ⟨"ClauseGlass", tin_1 (List.mem_of_getElem? (i := 166) rfl) rfl⟩, tin_1 (List.mem_of_getElem? (i := 168) rfl) rfl, tin_s (List.mem_of_getElem? (i := 1) rfl) rfl, tin_1 (List.mem_of_getElem? (i := 4) rfl) rfl, ⟨F_H, 12, rfl⟩, by decide +kernel, by decide +kernel⟩
theorem cv_H_100 : mj_cv "ClauseGlass$Sheet" 100 y_S_isSortLiving 2 := ⟨Or.inr ⟨"ClauseGlass", tin_1 (List.mem_of_getElem? (i := 170) rfl) rfl⟩, tin_1 (List.mem_of_getElem? (i := 172) rfl) rfl, tin_s (List.mem_of_getElem? (i := 2) rfl) rfl, tin_1 (List.mem_of_getElem? (i := 2) rfl) rfl, ⟨F_S, 9, rfl⟩, by decide +kernel, by decide +kernel⟩
theorem cv_H_131 : mj_cv "ClauseGlass$Sheet" 131 y_S_livingConsOf 2 := ⟨Or.inr ⟨"ClauseGlass", tin_1 (List.mem_of_getElem? (i := 204) rfl) rfl⟩, tin_1 (List.mem_of_getElem? (i := 206) rfl) rfl, tin_s (List.mem_of_getElem? (i := 7) rfl) rfl, tin_1 (List.mem_of_getElem? (i := 2) rfl) rfl, ⟨F_S, 9, rfl⟩, by decide +kernel, by decide +kernel⟩
theorem cv_C_151 : mj_cv "ClauseGlass" 151 y_H_reachedRows 1 := ⟨Or.inr ⟨"ClauseGlass", tin_1 (List.mem_of_getElem? (i := 220) rfl) rfl⟩, tin_1 (List.mem_of_getElem? (i := 222) rfl) rfl, tin_s (List.mem_of_getElem? (i := 10) rfl) rfl, tin_1 (List.mem_of_getElem? (i := 4) rfl) rfl, ⟨F_H, 12, rfl⟩, by decide +kernel, by decide +kernel⟩
theorem cv_H_110 : mj_cv "ClauseGlass$Sheet" 110 y_S_isConLiving 2 := ⟨Or.inr ⟨"ClauseGlass", tin_1 (List.mem_of_getElem? (i := 232) rfl) rfl⟩, tin_1 (List.mem_of_getElem? (i := 234) rfl) rfl, tin_s (List.mem_of_getElem? (i := 13) rfl) rfl, tin_1 (List.mem_of_getElem? (i := 2) rfl) rfl, ⟨F_S, 9, rfl⟩, by decide +kernel, by decide +kernel⟩
theorem cv_C_46 : mj_cv "ClauseGlass" 46 y_S_addSort 2 := ⟨Or.inr ⟨"ClauseGlass", tin_2 (List.mem_of_getElem? (i := 85) rfl) rfl⟩, tin_2 (List.mem_of_getElem? (i := 87) rfl) rfl, tin_s (List.mem_of_getElem? (i := 17) rfl) rfl, tin_1 (List.mem_of_getElem? (i := 2) rfl) rfl, ⟨F_S, 9, rfl⟩, by decide +kernel, by decide +kernel⟩
theorem cv_C_162 : mj_cv "ClauseGlass" 162 y_S_hasSort 2 := ⟨Or.inr ⟨"ClauseGlass", tin_2 (List.mem_of_getElem? (i := 119) rfl) rfl⟩, tin_2 (List.mem_of_getElem? (i := 121) rfl) rfl, tin_s (List.mem_of_getElem? (i := 23) rfl) rfl, tin_1 (List.mem_of_getElem? (i := 2) rfl) rfl, ⟨F_S, 9, rfl⟩, by decide +kernel, by decide +kernel⟩
theorem cv_C_66 : mj_cv "ClauseGlass" 66 y_S_addCon 2 := ⟨Or.inr ⟨"ClauseGlass", tin_2 (List.mem_of_getElem? (i := 142) rfl) rfl⟩, tin_2 (List.mem_of_getElem? (i := 144) rfl) rfl, tin_s (List.mem_of_getElem? (i := 24) rfl) rfl, tin_1 (List.mem_of_getElem? (i := 2) rfl) rfl, ⟨F_S, 9, rfl⟩, by decide +kernel, by decide +kernel⟩
theorem cv_C_73 : mj_cv "ClauseGlass" 73 y_P_addAny 0 := ⟨Or.inr ⟨"ClauseGlass", tin_2 (List.mem_of_getElem? (i := 159) rfl) rfl⟩, tin_2 (List.mem_of_getElem? (i := 161) rfl) rfl, tin_s (List.mem_of_getElem? (i := 26) rfl) rfl, tin_1 (List.mem_of_getElem? (i := 3) rfl) rfl, ⟨F_P, 7, rfl⟩, by decide +kernel, by decide +kernel⟩
theorem cv_C_77 : mj_cv "ClauseGlass" 77 y_P_addNumber 0 := ⟨Or.inr ⟨"ClauseGlass", tin_2 (List.mem_of_getElem? (i := 174) rfl) rfl⟩, tin_2 (List.mem_of_getElem? (i := 176) rfl) rfl, tin_s (List.mem_of_getElem? (i := 28) rfl) rfl, tin_1 (List.mem_of_getElem? (i := 3) rfl) rfl, ⟨F_P, 7, rfl⟩, by decide +kernel, by decide +kernel⟩
theorem cv_C_80 : mj_cv "ClauseGlass" 80 y_S_hasCon 2 := ⟨Or.inr ⟨"ClauseGlass", tin_2 (List.mem_of_getElem? (i := 185) rfl) rfl⟩, tin_2 (List.mem_of_getElem? (i := 187) rfl) rfl, tin_s (List.mem_of_getElem? (i := 29) rfl) rfl, tin_1 (List.mem_of_getElem? (i := 2) rfl) rfl, ⟨F_S, 9, rfl⟩, by decide +kernel, by decide +kernel⟩
theorem cv_C_90 : mj_cv "ClauseGlass" 90 y_S_partSort 2 := ⟨Or.inr ⟨"ClauseGlass", tin_2 (List.mem_of_getElem? (i := 190) rfl) rfl⟩, tin_2 (List.mem_of_getElem? (i := 99) rfl) rfl, tin_s (List.mem_of_getElem? (i := 20) rfl) rfl, tin_1 (List.mem_of_getElem? (i := 2) rfl) rfl, ⟨F_S, 9, rfl⟩, by decide +kernel, by decide +kernel⟩
theorem cv_C_167 : mj_cv "ClauseGlass" 167 y_P_hasPattern 0 := ⟨Or.inr ⟨"ClauseGlass", tin_2 (List.mem_of_getElem? (i := 199) rfl) rfl⟩, tin_2 (List.mem_of_getElem? (i := 201) rfl) rfl, tin_s (List.mem_of_getElem? (i := 32) rfl) rfl, tin_1 (List.mem_of_getElem? (i := 3) rfl) rfl, ⟨F_P, 7, rfl⟩, by decide +kernel, by decide +kernel⟩
theorem cv_C_104 : mj_cv "ClauseGlass" 104 y_P_addMade 0 := ⟨Or.inr ⟨"ClauseGlass", tin_2 (List.mem_of_getElem? (i := 205) rfl) rfl⟩, tin_2 (List.mem_of_getElem? (i := 207) rfl) rfl, tin_s (List.mem_of_getElem? (i := 33) rfl) rfl, tin_1 (List.mem_of_getElem? (i := 3) rfl) rfl, ⟨F_P, 7, rfl⟩, by decide +kernel, by decide +kernel⟩
theorem cv_C_108 : mj_cv "ClauseGlass" 108 y_H_clear 1 := ⟨Or.inr ⟨"ClauseGlass", tin_2 (List.mem_of_getElem? (i := 216) rfl) rfl⟩, tin_1 (List.mem_of_getElem? (i := 106) rfl) rfl, tin_s (List.mem_of_getElem? (i := 0) rfl) rfl, tin_1 (List.mem_of_getElem? (i := 4) rfl) rfl, ⟨F_H, 12, rfl⟩, by decide +kernel, by decide +kernel⟩
theorem cv_C_123 : mj_cv "ClauseGlass" 123 y_H_addRow 1 := ⟨Or.inr ⟨"ClauseGlass", tin_2 (List.mem_of_getElem? (i := 226) rfl) rfl⟩, tin_2 (List.mem_of_getElem? (i := 228) rfl) rfl, tin_s (List.mem_of_getElem? (i := 34) rfl) rfl, tin_1 (List.mem_of_getElem? (i := 4) rfl) rfl, ⟨F_H, 12, rfl⟩, by decide +kernel, by decide +kernel⟩
theorem cv_H_77 : mj_cv "ClauseGlass$Sheet" 77 y_P_partOf 0 := ⟨Or.inr ⟨"ClauseGlass", tin_2 (List.mem_of_getElem? (i := 234) rfl) rfl⟩, tin_2 (List.mem_of_getElem? (i := 236) rfl) rfl, tin_s (List.mem_of_getElem? (i := 36) rfl) rfl, tin_1 (List.mem_of_getElem? (i := 3) rfl) rfl, ⟨F_P, 7, rfl⟩, by decide +kernel, by decide +kernel⟩
theorem cv_H_85 : mj_cv "ClauseGlass$Sheet" 85 y_S_partSort 2 := ⟨Or.inr ⟨"ClauseGlass", tin_3 (List.mem_of_getElem? (i := 2) rfl) rfl⟩, tin_2 (List.mem_of_getElem? (i := 99) rfl) rfl, tin_s (List.mem_of_getElem? (i := 20) rfl) rfl, tin_1 (List.mem_of_getElem? (i := 2) rfl) rfl, ⟨F_S, 9, rfl⟩, by decide +kernel, by decide +kernel⟩
theorem cv_C_126 : mj_cv "ClauseGlass" 126 y_H_reaches 1 := ⟨Or.inr ⟨"ClauseGlass", tin_3 (List.mem_of_getElem? (i := 3) rfl) rfl⟩, tin_1 (List.mem_of_getElem? (i := 226) rfl) rfl, tin_s (List.mem_of_getElem? (i := 11) rfl) rfl, tin_1 (List.mem_of_getElem? (i := 4) rfl) rfl, ⟨F_H, 12, rfl⟩, by decide +kernel, by decide +kernel⟩
theorem cv_C_138 : mj_cv "ClauseGlass" 138 y_H_hasValue 1 := ⟨Or.inr ⟨"ClauseGlass", tin_3 (List.mem_of_getElem? (i := 30) rfl) rfl⟩, tin_1 (List.mem_of_getElem? (i := 230) rfl) rfl, tin_s (List.mem_of_getElem? (i := 12) rfl) rfl, tin_1 (List.mem_of_getElem? (i := 4) rfl) rfl, ⟨F_H, 12, rfl⟩, by decide +kernel, by decide +kernel⟩
theorem cv_C_141 : mj_cv "ClauseGlass" 141 y_H_agree 1 := ⟨Or.inr ⟨"ClauseGlass", tin_3 (List.mem_of_getElem? (i := 31) rfl) rfl⟩, tin_2 (List.mem_of_getElem? (i := 2) rfl) rfl, tin_s (List.mem_of_getElem? (i := 15) rfl) rfl, tin_1 (List.mem_of_getElem? (i := 4) rfl) rfl, ⟨F_H, 12, rfl⟩, by decide +kernel, by decide +kernel⟩
theorem cv_C_145 : mj_cv "ClauseGlass" 145 y_S_isSortLiving 2 := ⟨Or.inr ⟨"ClauseGlass", tin_3 (List.mem_of_getElem? (i := 39) rfl) rfl⟩, tin_1 (List.mem_of_getElem? (i := 172) rfl) rfl, tin_s (List.mem_of_getElem? (i := 2) rfl) rfl, tin_1 (List.mem_of_getElem? (i := 2) rfl) rfl, ⟨F_S, 9, rfl⟩, by decide +kernel, by decide +kernel⟩
theorem cw_C_init : mj_cw y_C_init b_C_init 1 none [] := Or.inl ⟨tin_1 (List.mem_of_getElem? (i := 17) rfl) rfl, rfl⟩
theorem cw_S_init : mj_cw y_S_init b_S_init 1 none [] := Or.inl ⟨tin_1 (List.mem_of_getElem? (i := 25) rfl) rfl, rfl⟩
theorem cw_P_init : mj_cw y_P_init b_P_init 1 none [] := Or.inl ⟨tin_1 (List.mem_of_getElem? (i := 66) rfl) rfl, rfl⟩
theorem cw_H_init : mj_cw y_H_init b_H_init 5 none [] := Or.inl ⟨tin_1 (List.mem_of_getElem? (i := 100) rfl) rfl, rfl⟩
theorem cw_H_clear : mj_cw y_H_clear b_H_clear 2 none [] := Or.inl ⟨tin_1 (List.mem_of_getElem? (i := 107) rfl) rfl, rfl⟩
theorem cw_C_open : mj_cw y_C_open b_C_open 1 (some .boolean) [] := Or.inl ⟨tin_1 (List.mem_of_getElem? (i := 165) rfl) rfl, rfl⟩
theorem cw_H_leavesSome : mj_cw y_H_leavesSome b_H_leavesSome 1 (some .boolean) [] := Or.inl ⟨tin_1 (List.mem_of_getElem? (i := 169) rfl) rfl, rfl⟩
theorem cw_S_isSortLiving : mj_cw y_S_isSortLiving b_S_isSortLiving 2 (some .boolean) [] := Or.inl ⟨tin_1 (List.mem_of_getElem? (i := 173) rfl) rfl, rfl⟩
theorem cw_H_escapes : mj_cw y_H_escapes b_H_escapes 14 (some .boolean) [] := Or.inl ⟨tin_1 (List.mem_of_getElem? (i := 177) rfl) rfl, rfl⟩
theorem cw_H_rowWithLeastLeft : mj_cw y_H_rowWithLeastLeft b_H_rowWithLeastLeft 8 (some .int) [] := Or.inl ⟨tin_1 (List.mem_of_getElem? (i := 181) rfl) rfl, rfl⟩
theorem cw_JL_bitCount : mj_cw y_JL_bitCount b_JL_bitCount 2 (some .int) [] := Or.inl ⟨tin_1 (List.mem_of_getElem? (i := 185) rfl) rfl, rfl⟩
theorem cw_JL_numberOfTrailingZeros : mj_cw y_JL_numberOfTrailingZeros b_JL_numberOfTrailingZeros 3 (some .int) [] := Or.inl ⟨tin_1 (List.mem_of_getElem? (i := 191) rfl) rfl, rfl⟩
theorem cw_JI_numberOfTrailingZeros : mj_cw y_JI_numberOfTrailingZeros b_JI_numberOfTrailingZeros 2 (some .int) [] := Or.inl ⟨tin_1 (List.mem_of_getElem? (i := 194) rfl) rfl, rfl⟩
theorem cw_H_rowsSilentAt : mj_cw y_H_rowsSilentAt b_H_rowsSilentAt 5 (some .int) [] := Or.inl ⟨tin_1 (List.mem_of_getElem? (i := 199) rfl) rfl, rfl⟩
theorem cw_H_isAsked : mj_cw y_H_isAsked b_H_isAsked 3 (some .boolean) [] := Or.inl ⟨tin_1 (List.mem_of_getElem? (i := 203) rfl) rfl, rfl⟩
theorem cw_S_livingConsOf : mj_cw y_S_livingConsOf b_S_livingConsOf 2 (some .int) [] := Or.inl ⟨tin_1 (List.mem_of_getElem? (i := 207) rfl) rfl, rfl⟩
theorem cw_H_consAskedAt : mj_cw y_H_consAskedAt b_H_consAskedAt 5 (some .int) [] := Or.inl ⟨tin_1 (List.mem_of_getElem? (i := 211) rfl) rfl, rfl⟩
theorem cw_H_rowsAsking : mj_cw y_H_rowsAsking b_H_rowsAsking 6 (some .int) [] := Or.inl ⟨tin_1 (List.mem_of_getElem? (i := 215) rfl) rfl, rfl⟩
theorem cw_C_count : mj_cw y_C_count b_C_count 2 (some .int) [] := Or.inl ⟨tin_1 (List.mem_of_getElem? (i := 219) rfl) rfl, rfl⟩
theorem cw_H_reachedRows : mj_cw y_H_reachedRows b_H_reachedRows 3 (some .int) [] := Or.inl ⟨tin_1 (List.mem_of_getElem? (i := 223) rfl) rfl, rfl⟩
theorem cw_H_reaches : mj_cw y_H_reaches b_H_reaches 2 (some .boolean) [] := Or.inl ⟨tin_1 (List.mem_of_getElem? (i := 227) rfl) rfl, rfl⟩
theorem cw_H_hasValue : mj_cw y_H_hasValue b_H_hasValue 4 (some .boolean) [] := Or.inl ⟨tin_1 (List.mem_of_getElem? (i := 231) rfl) rfl, rfl⟩
theorem cw_S_isConLiving : mj_cw y_S_isConLiving b_S_isConLiving 2 (some .boolean) [] := Or.inl ⟨tin_1 (List.mem_of_getElem? (i := 235) rfl) rfl, rfl⟩
theorem cw_H_rowsBeforeThatAgree : mj_cw y_H_rowsBeforeThatAgree b_H_rowsBeforeThatAgree 4 (some .int) [] := Or.inl ⟨tin_1 (List.mem_of_getElem? (i := 239) rfl) rfl, rfl⟩
theorem cw_H_agree : mj_cw y_H_agree b_H_agree 5 (some .boolean) [] := Or.inl ⟨tin_2 (List.mem_of_getElem? (i := 3) rfl) rfl, rfl⟩
theorem cw_JI_bitCount : mj_cw y_JI_bitCount b_JI_bitCount 1 (some .int) [] := Or.inl ⟨tin_2 (List.mem_of_getElem? (i := 6) rfl) rfl, rfl⟩
theorem cw_L_sort : mj_cw y_L_sort b_L_sort 3 (some .int) [(0, 8, 11, 13)] := Or.inr (tin_2 (List.mem_of_getElem? (i := 12) rfl) rfl)
theorem cw_C_sort : mj_cw y_C_sort b_C_sort 1 (some .int) [] := Or.inl ⟨tin_2 (List.mem_of_getElem? (i := 17) rfl) rfl, rfl⟩
theorem cw_S_addSort : mj_cw y_S_addSort b_S_addSort 2 (some .int) [] := Or.inl ⟨tin_2 (List.mem_of_getElem? (i := 88) rfl) rfl, rfl⟩
theorem cw_S_findLiving : mj_cw y_S_findLiving b_S_findLiving 2 none [] := Or.inl ⟨tin_2 (List.mem_of_getElem? (i := 92) rfl) rfl, rfl⟩
theorem cw_S_consWithLivingParts : mj_cw y_S_consWithLivingParts b_S_consWithLivingParts 5 (some .int) [] := Or.inl ⟨tin_2 (List.mem_of_getElem? (i := 96) rfl) rfl, rfl⟩
theorem cw_S_partSort : mj_cw y_S_partSort b_S_partSort 3 (some .int) [] := Or.inl ⟨tin_2 (List.mem_of_getElem? (i := 100) rfl) rfl, rfl⟩
theorem cw_S_sortsWithLivingCons : mj_cw y_S_sortsWithLivingCons b_S_sortsWithLivingCons 3 (some .int) [] := Or.inl ⟨tin_2 (List.mem_of_getElem? (i := 105) rfl) rfl, rfl⟩
theorem cw_L_con : mj_cw y_L_con b_L_con 7 (some .int) [(0, 14, 17, 19), (0, 14, 21, 13)] := Or.inr (tin_2 (List.mem_of_getElem? (i := 109) rfl) rfl)
theorem cw_C_con : mj_cw y_C_con b_C_con 5 (some .int) [] := Or.inl ⟨tin_2 (List.mem_of_getElem? (i := 114) rfl) rfl, rfl⟩
theorem cw_C_needSort : mj_cw y_C_needSort b_C_needSort 2 none [] := Or.inl ⟨tin_2 (List.mem_of_getElem? (i := 118) rfl) rfl, rfl⟩
theorem cw_S_hasSort : mj_cw y_S_hasSort b_S_hasSort 2 (some .boolean) [] := Or.inl ⟨tin_2 (List.mem_of_getElem? (i := 122) rfl) rfl, rfl⟩
theorem cw_S_addCon : mj_cw y_S_addCon b_S_addCon 6 (some .int) [] := Or.inl ⟨tin_2 (List.mem_of_getElem? (i := 145) rfl) rfl, rfl⟩
theorem cw_L_any : mj_cw y_L_any b_L_any 4 (some .int) [(0, 9, 12, 19), (0, 9, 15, 13)] := Or.inr (tin_2 (List.mem_of_getElem? (i := 148) rfl) rfl)
theorem cw_C_any : mj_cw y_C_any b_C_any 2 (some .int) [] := Or.inl ⟨tin_2 (List.mem_of_getElem? (i := 152) rfl) rfl, rfl⟩
theorem cw_C_needRoomForPattern : mj_cw y_C_needRoomForPattern b_C_needRoomForPattern 2 none [] := Or.inl ⟨tin_2 (List.mem_of_getElem? (i := 156) rfl) rfl, rfl⟩
theorem cw_P_addAny : mj_cw y_P_addAny b_P_addAny 2 (some .int) [] := Or.inl ⟨tin_2 (List.mem_of_getElem? (i := 162) rfl) rfl, rfl⟩
theorem cw_P_addPattern : mj_cw y_P_addPattern b_P_addPattern 6 (some .int) [] := Or.inl ⟨tin_2 (List.mem_of_getElem? (i := 166) rfl) rfl, rfl⟩
theorem cw_L_number : mj_cw y_L_number b_L_number 4 (some .int) [(0, 9, 12, 13)] := Or.inr (tin_2 (List.mem_of_getElem? (i := 169) rfl) rfl)
theorem cw_C_number : mj_cw y_C_number b_C_number 2 (some .int) [] := Or.inl ⟨tin_2 (List.mem_of_getElem? (i := 173) rfl) rfl, rfl⟩
theorem cw_P_addNumber : mj_cw y_P_addNumber b_P_addNumber 2 (some .int) [] := Or.inl ⟨tin_2 (List.mem_of_getElem? (i := 177) rfl) rfl, rfl⟩
theorem cw_L_made : mj_cw y_L_made b_L_made 6 (some .int) [(0, 12, 15, 19), (0, 12, 19, 13)] := Or.inr (tin_2 (List.mem_of_getElem? (i := 180) rfl) rfl)
theorem cw_C_made : mj_cw y_C_made b_C_made 6 (some .int) [] := Or.inl ⟨tin_2 (List.mem_of_getElem? (i := 184) rfl) rfl, rfl⟩
theorem cw_S_hasCon : mj_cw y_S_hasCon b_S_hasCon 2 (some .boolean) [] := Or.inl ⟨tin_2 (List.mem_of_getElem? (i := 188) rfl) rfl, rfl⟩
theorem cw_C_needPatternOf : mj_cw y_C_needPatternOf b_C_needPatternOf 3 none [] := Or.inl ⟨tin_2 (List.mem_of_getElem? (i := 194) rfl) rfl, rfl⟩
theorem cw_C_needPattern : mj_cw y_C_needPattern b_C_needPattern 2 none [] := Or.inl ⟨tin_2 (List.mem_of_getElem? (i := 198) rfl) rfl, rfl⟩
theorem cw_P_hasPattern : mj_cw y_P_hasPattern b_P_hasPattern 2 (some .boolean) [] := Or.inl ⟨tin_2 (List.mem_of_getElem? (i := 202) rfl) rfl, rfl⟩
theorem cw_P_addMade : mj_cw y_P_addMade b_P_addMade 7 (some .int) [] := Or.inl ⟨tin_2 (List.mem_of_getElem? (i := 208) rfl) rfl, rfl⟩
theorem cw_L_begin : mj_cw y_L_begin b_L_begin 3 (some .int) [(0, 5, 8, 19)] := Or.inr (tin_2 (List.mem_of_getElem? (i := 211) rfl) rfl)
theorem cw_C_begin : mj_cw y_C_begin b_C_begin 2 none [] := Or.inl ⟨tin_2 (List.mem_of_getElem? (i := 215) rfl) rfl, rfl⟩
theorem cw_L_clause : mj_cw y_L_clause b_L_clause 4 (some .int) [(0, 16, 19, 19), (0, 16, 22, 13)] := Or.inr (tin_2 (List.mem_of_getElem? (i := 219) rfl) rfl)
theorem cw_C_clause : mj_cw y_C_clause b_C_clause 2 (some .boolean) [] := Or.inl ⟨tin_2 (List.mem_of_getElem? (i := 223) rfl) rfl, rfl⟩
theorem cw_H_addRow : mj_cw y_H_addRow b_H_addRow 2 none [] := Or.inl ⟨tin_2 (List.mem_of_getElem? (i := 229) rfl) rfl, rfl⟩
theorem cw_H_layPart : mj_cw y_H_layPart b_H_layPart 8 none [] := Or.inl ⟨tin_2 (List.mem_of_getElem? (i := 233) rfl) rfl, rfl⟩
theorem cw_P_partOf : mj_cw y_P_partOf b_P_partOf 3 (some .int) [] := Or.inl ⟨tin_2 (List.mem_of_getElem? (i := 237) rfl) rfl, rfl⟩
theorem cw_H_placeBelow : mj_cw y_H_placeBelow b_H_placeBelow 5 (some .int) [] := Or.inl ⟨tin_3 (List.mem_of_getElem? (i := 1) rfl) rfl, rfl⟩
theorem cw_L_takes : mj_cw y_L_takes b_L_takes 4 (some .int) [(0, 16, 19, 19)] := Or.inr (tin_3 (List.mem_of_getElem? (i := 6) rfl) rfl)
theorem cw_C_takes : mj_cw y_C_takes b_C_takes 2 (some .boolean) [] := Or.inl ⟨tin_3 (List.mem_of_getElem? (i := 10) rfl) rfl, rfl⟩
theorem cw_L_covers : mj_cw y_L_covers b_L_covers 5 (some .int) [(0, 17, 20, 19)] := Or.inr (tin_3 (List.mem_of_getElem? (i := 14) rfl) rfl)
theorem cw_C_covers : mj_cw y_C_covers b_C_covers 3 (some .boolean) [] := Or.inl ⟨tin_3 (List.mem_of_getElem? (i := 18) rfl) rfl, rfl⟩
theorem cw_C_layPair : mj_cw y_C_layPair b_C_layPair 3 none [] := Or.inl ⟨tin_3 (List.mem_of_getElem? (i := 22) rfl) rfl, rfl⟩
theorem cw_L_meets : mj_cw y_L_meets b_L_meets 5 (some .int) [(0, 17, 20, 19)] := Or.inr (tin_3 (List.mem_of_getElem? (i := 25) rfl) rfl)
theorem cw_C_meets : mj_cw y_C_meets b_C_meets 3 (some .boolean) [] := Or.inl ⟨tin_3 (List.mem_of_getElem? (i := 29) rfl) rfl, rfl⟩
theorem cw_L_lives : mj_cw y_L_lives b_L_lives 4 (some .int) [(0, 16, 19, 19)] := Or.inr (tin_3 (List.mem_of_getElem? (i := 34) rfl) rfl)
theorem cw_C_lives : mj_cw y_C_lives b_C_lives 2 (some .boolean) [] := Or.inl ⟨tin_3 (List.mem_of_getElem? (i := 38) rfl) rfl, rfl⟩
theorem cw_M_init : mj_cw y_M_init b_M_init 1 none [] := Or.inl ⟨tin_3 (List.mem_of_getElem? (i := 44) rfl) rfl, rfl⟩
theorem cw_M_thrown : mj_cw y_M_thrown b_M_thrown 1 (some .int) [] := Or.inl ⟨tin_3 (List.mem_of_getElem? (i := 159) rfl) rfl, rfl⟩
theorem cw_M_sort : mj_cw y_M_sort b_M_sort 1 (some .int) [] := Or.inl ⟨tin_3 (List.mem_of_getElem? (i := 163) rfl) rfl, rfl⟩
theorem cw_M_con : mj_cw y_M_con b_M_con 6 (some .int) [] := Or.inl ⟨tin_3 (List.mem_of_getElem? (i := 167) rfl) rfl, rfl⟩
theorem cw_M_isSort : mj_cw y_M_isSort b_M_isSort 2 (some .boolean) [] := Or.inl ⟨tin_3 (List.mem_of_getElem? (i := 171) rfl) rfl, rfl⟩
theorem cw_M_any : mj_cw y_M_any b_M_any 2 (some .int) [] := Or.inl ⟨tin_3 (List.mem_of_getElem? (i := 175) rfl) rfl, rfl⟩
theorem cw_M_pattern : mj_cw y_M_pattern b_M_pattern 7 (some .int) [] := Or.inl ⟨tin_3 (List.mem_of_getElem? (i := 179) rfl) rfl, rfl⟩
theorem cw_M_number : mj_cw y_M_number b_M_number 2 (some .int) [] := Or.inl ⟨tin_3 (List.mem_of_getElem? (i := 183) rfl) rfl, rfl⟩
theorem cw_M_made : mj_cw y_M_made b_M_made 7 (some .int) [] := Or.inl ⟨tin_3 (List.mem_of_getElem? (i := 187) rfl) rfl, rfl⟩
theorem cw_M_isPattern : mj_cw y_M_isPattern b_M_isPattern 2 (some .boolean) [] := Or.inl ⟨tin_3 (List.mem_of_getElem? (i := 191) rfl) rfl, rfl⟩
theorem cw_M_begin : mj_cw y_M_begin b_M_begin 2 none [] := Or.inl ⟨tin_3 (List.mem_of_getElem? (i := 195) rfl) rfl, rfl⟩
theorem cw_M_clause : mj_cw y_M_clause b_M_clause 5 (some .boolean) [] := Or.inl ⟨tin_3 (List.mem_of_getElem? (i := 199) rfl) rfl, rfl⟩
theorem cw_M_reaches : mj_cw y_M_reaches b_M_reaches 3 (some .boolean) [] := Or.inl ⟨tin_3 (List.mem_of_getElem? (i := 203) rfl) rfl, rfl⟩
theorem cw_M_has : mj_cw y_M_has b_M_has 3 (some .boolean) [] := Or.inl ⟨tin_3 (List.mem_of_getElem? (i := 207) rfl) rfl, rfl⟩
theorem cw_M_live : mj_cw y_M_live b_M_live 5 none [] := Or.inl ⟨tin_3 (List.mem_of_getElem? (i := 211) rfl) rfl, rfl⟩
theorem cw_M_isUsed : mj_cw y_M_isUsed b_M_isUsed 2 (some .boolean) [] := Or.inl ⟨tin_3 (List.mem_of_getElem? (i := 215) rfl) rfl, rfl⟩
theorem cw_M_gather : mj_cw y_M_gather b_M_gather 3 none [] := Or.inl ⟨tin_3 (List.mem_of_getElem? (i := 219) rfl) rfl, rfl⟩
theorem cw_M_look : mj_cw y_M_look b_M_look 5 (some .int) [] := Or.inl ⟨tin_3 (List.mem_of_getElem? (i := 223) rfl) rfl, rfl⟩
theorem cw_M_node : mj_cw y_M_node b_M_node 2 (some .int) [] := Or.inl ⟨tin_3 (List.mem_of_getElem? (i := 227) rfl) rfl, rfl⟩
theorem cw_M_fill : mj_cw y_M_fill b_M_fill 5 none [] := Or.inl ⟨tin_3 (List.mem_of_getElem? (i := 231) rfl) rfl, rfl⟩
theorem cw_M_isTried : mj_cw y_M_isTried b_M_isTried 3 (some .boolean) [] := Or.inl ⟨tin_3 (List.mem_of_getElem? (i := 235) rfl) rfl, rfl⟩
theorem cw_M_fit : mj_cw y_M_fit b_M_fit 5 (some .int) [] := Or.inl ⟨tin_3 (List.mem_of_getElem? (i := 239) rfl) rfl, rfl⟩
theorem cw_M_options : mj_cw y_M_options b_M_options 4 (some .int) [] := Or.inl ⟨tin_4 (List.mem_of_getElem? (i := 3) rfl) rfl, rfl⟩
theorem cw_M_takes : mj_cw y_M_takes b_M_takes 2 (some .boolean) [] := Or.inl ⟨tin_4 (List.mem_of_getElem? (i := 7) rfl) rfl, rfl⟩
theorem cw_M_open : mj_cw y_M_open b_M_open 2 (some .boolean) [] := Or.inl ⟨tin_4 (List.mem_of_getElem? (i := 11) rfl) rfl, rfl⟩
theorem cw_M_covers : mj_cw y_M_covers b_M_covers 3 (some .boolean) [] := Or.inl ⟨tin_4 (List.mem_of_getElem? (i := 15) rfl) rfl, rfl⟩
theorem cw_M_areLike : mj_cw y_M_areLike b_M_areLike 3 (some .boolean) [] := Or.inl ⟨tin_4 (List.mem_of_getElem? (i := 19) rfl) rfl, rfl⟩
theorem cw_M_meets : mj_cw y_M_meets b_M_meets 3 (some .boolean) [] := Or.inl ⟨tin_4 (List.mem_of_getElem? (i := 23) rfl) rfl, rfl⟩
theorem cw_M_lives : mj_cw y_M_lives b_M_lives 2 (some .boolean) [] := Or.inl ⟨tin_4 (List.mem_of_getElem? (i := 27) rfl) rfl, rfl⟩
theorem cw_M_count : mj_cw y_M_count b_M_count 4 (some .int) [] := Or.inl ⟨tin_4 (List.mem_of_getElem? (i := 31) rfl) rfl, rfl⟩
end
section
/-! the rules as the printed rows use them -/
section GS
variable {y : MethodName} {cc : ByteArray} {nL : Nat} {rt : Option FieldType} {hh : List (Nat × Nat × Nat × Nat)} {d : Nat} {sc : Option (Nat × (Nat → Int32))} {pc : Nat} {ls : List (Nat × Value)} {st : List Value} {A : mj_H} {post : mj_O → mj_H → Prop}
variable {y' : MethodName} {cc' : ByteArray} {nL' : Nat} {rt' : Option FieldType} {hh' : List (Nat × Nat × Nat × Nat)} {As : List Value}
theorem G_gt {index ci k a : Nat} {v : Value} (hd : decode cc pc = .ok (.getfield index, 3)) (hf : mj_fr y.cls index ci k) (hr : mj_rd A.1 a ci k v) (kk : mj_G y cc nL rt hh d sc (pc + 3) ls (v :: st) A post) : mj_G y cc nL rt hh d sc pc ls (.ref a :: st) A post := by
  obtain ⟨fs, h1, h2⟩ := hr
  exact G_get hd hf h1 h2 kk
theorem G_pt {index ci k a : Nat} {x : Int32} {A1 : List mj_C} (hd : decode cc pc = .ok (.putfield index, 3)) (hf : mj_fp y.cls index ci k .int false) (hw : mj_wr A.1 a ci k (.int x) A1) (kk : mj_G y cc nL rt hh d sc (pc + 3) ls st (A1, A.2) post) : mj_G y cc nL rt hh d sc pc ls (.int x :: .ref a :: st) A post := by
  obtain ⟨fs, h1, h2, h3⟩ := hw
  exact G_put hd hf h1 h2 (fun _ => ⟨rfl, rfl⟩) (fun j h => by cases h) h3 kk
theorem G_ialN {a n j : Nat} {f : Nat → Int32} (hd : decode cc pc = .ok (.iaload, 1)) (ha : A.1[a]? = some (.inl (0, n, .inl f))) (hn : n < 2 ^ 31) (hj : j < n) (kk : mj_G y cc nL rt hh d sc (pc + 1) ls (.int (f j) :: st) A post) : mj_G y cc nL rt hh d sc pc ls (.int (nI j) :: .ref a :: st) A post := by
  refine G_iald hd ha (vp_in_nI hj hn) ?_
  rw [nI_clamp (by omega)]; exact kk
theorem G_zalN {a n j : Nat} {f : Nat → Int32} (hd : decode cc pc = .ok (.baload, 1)) (ha : A.1[a]? = some (.inl (2, n, .inl f))) (hn : n < 2 ^ 31) (hj : j < n) (kk : mj_G y cc nL rt hh d sc (pc + 1) ls (.int (f j) :: st) A post) : mj_G y cc nL rt hh d sc pc ls (.int (nI j) :: .ref a :: st) A post := by
  refine G_zald hd ha (vp_in_nI hj hn) ?_
  rw [nI_clamp (by omega)]; exact kk
theorem G_lalN {a n j : Nat} {f : Nat → Int64} (hd : decode cc pc = .ok (.laload, 1)) (ha : A.1[a]? = some (.inl (1, n, .inr (.inl f)))) (hn : n < 2 ^ 31) (hj : j < n) (kk : mj_G y cc nL rt hh d sc (pc + 1) ls (.long (f j) :: st) A post) : mj_G y cc nL rt hh d sc pc ls (.int (nI j) :: .ref a :: st) A post := by
  refine G_lald hd ha (vp_in_nI hj hn) ?_
  rw [nI_clamp (by omega)]; exact kk
theorem G_aalN {a n j r : Nat} {f : Nat → Option Nat} (hd : decode cc pc = .ok (.aaload, 1)) (ha : A.1[a]? = some (.inl (3, n, .inr (.inr (.inr (.inr f)))))) (hn : n < 2 ^ 31) (hj : j < n) (hr : f j = some r) (kk : mj_G y cc nL rt hh d sc (pc + 1) ls (.ref r :: st) A post) : mj_G y cc nL rt hh d sc pc ls (.int (nI j) :: .ref a :: st) A post :=
  G_aald hd ha (vp_in_nI hj hn) (by rw [nI_clamp (by omega)]; exact hr) kk
theorem G_iasN {a n j : Nat} {f : Nat → Int32} {x : Int32} {A1 : List mj_C} (hd : decode cc pc = .ok (.iastore, 1)) (ha : A.1[a]? = some (.inl (0, n, .inl f))) (hn : n < 2 ^ 31) (hj : j < n) (hA : A.1.set a (.inl (0, n, .inl (upd f j x))) = A1) (kk : mj_G y cc nL rt hh d sc (pc + 1) ls st (A1, A.2) post) : mj_G y cc nL rt hh d sc pc ls (.int x :: .int (nI j) :: .ref a :: st) A post :=
  G_iast hd ha (vp_in_nI hj hn) (by rw [nI_clamp (by omega)]; exact hA) kk
theorem G_zasN {a n j : Nat} {f : Nat → Int32} {x : Int32} {A1 : List mj_C} (hd : decode cc pc = .ok (.bastore, 1)) (ha : A.1[a]? = some (.inl (2, n, .inl f))) (hn : n < 2 ^ 31) (hj : j < n) (hx : vp_nar .boolean x = x) (hA : A.1.set a (.inl (2, n, .inl (upd f j x))) = A1) (kk : mj_G y cc nL rt hh d sc (pc + 1) ls st (A1, A.2) post) : mj_G y cc nL rt hh d sc pc ls (.int x :: .int (nI j) :: .ref a :: st) A post :=
  G_zast hd ha (vp_in_nI hj hn) (by rw [nI_clamp (by omega), hx]; exact hA) kk
theorem G_lasN {a n j : Nat} {f : Nat → Int64} {x : Int64} {A1 : List mj_C} (hd : decode cc pc = .ok (.lastore, 1)) (ha : A.1[a]? = some (.inl (1, n, .inr (.inl f)))) (hn : n < 2 ^ 31) (hj : j < n) (hA : A.1.set a (.inl (1, n, .inr (.inl (vp_updL f j x)))) = A1) (kk : mj_G y cc nL rt hh d sc (pc + 1) ls st (A1, A.2) post) : mj_G y cc nL rt hh d sc pc ls (.long x :: .int (nI j) :: .ref a :: st) A post :=
  G_last hd ha (vp_in_nI hj hn) (by rw [nI_clamp (by omega)]; exact hA) kk
def mj_ob (A : List mj_C) (b ci : Nat) : Prop := ∃ fs, A[b]? = some (.inr (ci, fs))
/-- a call whose callee returns: Ph says what it may answer, and with which heap -/
theorem G_cvp (Ph : Option Value → mj_H → Prop) {index ci b : Nat} (hd : decode cc pc = .ok (.invokevirtual index, 3)) (hcv : mj_cv y.cls index y' ci) (hcw : mj_cw y' cc' nL' rt' hh') (hb : mj_ob A.1 b ci) (hn1 : (parseMethodDescriptor y'.desc).map (fun d => d.parameters.length) = some As.length) (hsl : (lg_sl (.ref b :: As)).length ≤ nL') (hw : (st.map fun v => v.category).sum + (nL' + 11) ≤ 41)
    (hG : ∀ post' : mj_O → mj_H → Prop, (∀ v A', Ph v A' → post' (.inl v) A') → mj_G y' cc' nL' rt' hh' d none 0 (lv_args 0 (.ref b :: As)) [] A post') (hlen : ∀ v A', Ph v A' → A'.1.length = A.1.length)
    (kr : ∀ v A', Ph v A' → mj_G y cc nL rt hh (d + 1) sc (pc + 3) ls (v.toList ++ st) A' post) : mj_G y cc nL rt hh (d + 1) sc pc ls (As.reverse ++ .ref b :: st) A post := by
  obtain ⟨fs, hb⟩ := hb
  refine G_callv (post' := fun out A' => ∃ v, out = .inl v ∧ Ph v A') hd hcv hcw hb hn1 hsl hw (hG _ (fun v A' h => ⟨v, rfl, h⟩)) (fun out A' h => ?_) (fun v A' h => ?_) (fun C A' h => ?_)
  · obtain ⟨v, -, h⟩ := h; exact hlen v A' h
  · obtain ⟨v2, e, h⟩ := h; cases e; exact kr v A' h
  · obtain ⟨v, e, -⟩ := h; cases e
theorem G_cv1 (v : Option Value) (A1 : mj_H) {index ci b : Nat} (hd : decode cc pc = .ok (.invokevirtual index, 3)) (hcv : mj_cv y.cls index y' ci) (hcw : mj_cw y' cc' nL' rt' hh') (hb : mj_ob A.1 b ci) (hn1 : (parseMethodDescriptor y'.desc).map (fun d => d.parameters.length) = some As.length) (hsl : (lg_sl (.ref b :: As)).length ≤ nL') (hw : (st.map fun v => v.category).sum + (nL' + 11) ≤ 41)
    (hG : ∀ post' : mj_O → mj_H → Prop, post' (.inl v) A1 → mj_G y' cc' nL' rt' hh' d none 0 (lv_args 0 (.ref b :: As)) [] A post') (hlen : A1.1.length = A.1.length)
    (kr : mj_G y cc nL rt hh (d + 1) sc (pc + 3) ls (v.toList ++ st) A1 post) : mj_G y cc nL rt hh (d + 1) sc pc ls (As.reverse ++ .ref b :: st) A post :=
  G_cvp (fun v2 A' => v2 = v ∧ A' = A1) hd hcv hcw hb hn1 hsl hw (fun post' h => hG post' (h v A1 ⟨rfl, rfl⟩)) (fun v2 A' h => by rw [h.2]; exact hlen) (fun v2 A' h => by rw [h.1, h.2]; exact kr)
theorem G_cvB (P : Prop) {index ci b : Nat} (hd : decode cc pc = .ok (.invokevirtual index, 3)) (hcv : mj_cv y.cls index y' ci) (hcw : mj_cw y' cc' nL' rt' hh') (hb : mj_ob A.1 b ci) (hn1 : (parseMethodDescriptor y'.desc).map (fun d => d.parameters.length) = some As.length) (hsl : (lg_sl (.ref b :: As)).length ≤ nL') (hw : (st.map fun v => v.category).sum + (nL' + 11) ≤ 41)
    (hG : ∀ post' : mj_O → mj_H → Prop, (P → post' (.inl (some (.int 1))) A) → (¬ P → post' (.inl (some (.int 0))) A) → mj_G y' cc' nL' rt' hh' d none 0 (lv_args 0 (.ref b :: As)) [] A post')
    (k1 : P → mj_G y cc nL rt hh (d + 1) sc (pc + 3) ls (.int 1 :: st) A post) (k0 : ¬ P → mj_G y cc nL rt hh (d + 1) sc (pc + 3) ls (.int 0 :: st) A post) : mj_G y cc nL rt hh (d + 1) sc pc ls (As.reverse ++ .ref b :: st) A post :=
  G_cvp (fun v2 A' => ((P ∧ v2 = some (.int 1)) ∨ (¬ P ∧ v2 = some (.int 0))) ∧ A' = A) hd hcv hcw hb hn1 hsl hw (fun post' h => hG post' (fun p => h _ _ ⟨Or.inl ⟨p, rfl⟩, rfl⟩) (fun p => h _ _ ⟨Or.inr ⟨p, rfl⟩, rfl⟩)) (fun v2 A' h => by rw [h.2])
    (fun v2 A' h => by
      obtain ⟨h, rfl⟩ := h
      rcases h with ⟨p, rfl⟩ | ⟨p, rfl⟩
      · exact k1 p
      · exact k0 p)
theorem G_cs1 (v : Option Value) (A1 : mj_H) {index : Nat} (hd : decode cc pc = .ok (.invokestatic index, 3)) (hcs : mj_cs y.cls index y') (hcw : mj_cw y' cc' nL' rt' hh') (hn1 : (parseMethodDescriptor y'.desc).map (fun d => d.parameters.length) = some As.length) (hsl : (lg_sl As).length ≤ nL') (hw : (st.map fun v => v.category).sum + (nL' + 11) ≤ 41)
    (hG : ∀ post' : mj_O → mj_H → Prop, post' (.inl v) A1 → mj_G y' cc' nL' rt' hh' d none 0 (lv_args 0 As) [] A post') (hlen : A1.1.length = A.1.length)
    (kr : mj_G y cc nL rt hh (d + 1) sc (pc + 3) ls (v.toList ++ st) A1 post) : mj_G y cc nL rt hh (d + 1) sc pc ls (As.reverse ++ st) A post := by
  refine G_calls (post' := fun out A' => out = .inl v ∧ A' = A1) hd hcs hcw hn1 hsl hw (hG _ ⟨rfl, rfl⟩) (fun out A' h => by rw [h.2]; exact hlen) (fun v2 A' h => ?_) (fun C A' h => by cases h.1)
  obtain ⟨h1, rfl⟩ := h
  cases h1
  exact kr
end GS
theorem ob_C (K : KC) (M : MC) (o : Nat → Int64) : mj_ob (hp K M o) 0 3 := ⟨_, rfl⟩
theorem ob_S (K : KC) (M : MC) (o : Nat → Int64) : mj_ob (hp K M o) 1 2 := ⟨_, rfl⟩
theorem ob_P (K : KC) (M : MC) (o : Nat → Int64) : mj_ob (hp K M o) 7 0 := ⟨_, rfl⟩
theorem ob_H0 (K : KC) (M : MC) (o : Nat → Int64) : mj_ob (hp K M o) 14 1 := ⟨_, rfl⟩
theorem ob_H1 (K : KC) (M : MC) (o : Nat → Int64) : mj_ob (hp K M o) 29 1 := ⟨_, rfl⟩
theorem ob_M (K : KC) (M : MC) (o : Nat → Int64) : mj_ob (hp K M o) 38 4 := ⟨_, rfl⟩
theorem np_C_init : (parseMethodDescriptor y_C_init.desc).map (fun d => d.parameters.length) = some 0 := by decide +kernel
theorem np_S_init : (parseMethodDescriptor y_S_init.desc).map (fun d => d.parameters.length) = some 0 := by decide +kernel
theorem np_P_init : (parseMethodDescriptor y_P_init.desc).map (fun d => d.parameters.length) = some 0 := by decide +kernel
theorem np_H_init : (parseMethodDescriptor y_H_init.desc).map (fun d => d.parameters.length) = some 4 := by decide +kernel
theorem np_H_clear : (parseMethodDescriptor y_H_clear.desc).map (fun d => d.parameters.length) = some 1 := by decide +kernel
theorem np_C_open : (parseMethodDescriptor y_C_open.desc).map (fun d => d.parameters.length) = some 0 := by decide +kernel
theorem np_H_leavesSome : (parseMethodDescriptor y_H_leavesSome.desc).map (fun d => d.parameters.length) = some 0 := by decide +kernel
theorem np_S_isSortLiving : (parseMethodDescriptor y_S_isSortLiving.desc).map (fun d => d.parameters.length) = some 1 := by decide +kernel
theorem np_H_escapes : (parseMethodDescriptor y_H_escapes.desc).map (fun d => d.parameters.length) = some 3 := by decide +kernel
theorem np_H_rowWithLeastLeft : (parseMethodDescriptor y_H_rowWithLeastLeft.desc).map (fun d => d.parameters.length) = some 2 := by decide +kernel
theorem np_JL_bitCount : (parseMethodDescriptor y_JL_bitCount.desc).map (fun d => d.parameters.length) = some 1 := by decide +kernel
theorem np_JL_numberOfTrailingZeros : (parseMethodDescriptor y_JL_numberOfTrailingZeros.desc).map (fun d => d.parameters.length) = some 1 := by decide +kernel
theorem np_JI_numberOfTrailingZeros : (parseMethodDescriptor y_JI_numberOfTrailingZeros.desc).map (fun d => d.parameters.length) = some 1 := by decide +kernel
theorem np_H_rowsSilentAt : (parseMethodDescriptor y_H_rowsSilentAt.desc).map (fun d => d.parameters.length) = some 2 := by decide +kernel
theorem np_H_isAsked : (parseMethodDescriptor y_H_isAsked.desc).map (fun d => d.parameters.length) = some 2 := by decide +kernel
theorem np_S_livingConsOf : (parseMethodDescriptor y_S_livingConsOf.desc).map (fun d => d.parameters.length) = some 1 := by decide +kernel
theorem np_H_consAskedAt : (parseMethodDescriptor y_H_consAskedAt.desc).map (fun d => d.parameters.length) = some 2 := by decide +kernel
theorem np_H_rowsAsking : (parseMethodDescriptor y_H_rowsAsking.desc).map (fun d => d.parameters.length) = some 3 := by decide +kernel
theorem np_C_count : (parseMethodDescriptor y_C_count.desc).map (fun d => d.parameters.length) = some 1 := by decide +kernel
theorem np_H_reachedRows : (parseMethodDescriptor y_H_reachedRows.desc).map (fun d => d.parameters.length) = some 0 := by decide +kernel
theorem np_H_reaches : (parseMethodDescriptor y_H_reaches.desc).map (fun d => d.parameters.length) = some 1 := by decide +kernel
theorem np_H_hasValue : (parseMethodDescriptor y_H_hasValue.desc).map (fun d => d.parameters.length) = some 1 := by decide +kernel
theorem np_S_isConLiving : (parseMethodDescriptor y_S_isConLiving.desc).map (fun d => d.parameters.length) = some 1 := by decide +kernel
theorem np_H_rowsBeforeThatAgree : (parseMethodDescriptor y_H_rowsBeforeThatAgree.desc).map (fun d => d.parameters.length) = some 1 := by decide +kernel
theorem np_H_agree : (parseMethodDescriptor y_H_agree.desc).map (fun d => d.parameters.length) = some 2 := by decide +kernel
theorem np_JI_bitCount : (parseMethodDescriptor y_JI_bitCount.desc).map (fun d => d.parameters.length) = some 1 := by decide +kernel
theorem np_L_sort : (parseMethodDescriptor y_L_sort.desc).map (fun d => d.parameters.length) = some 2 := by decide +kernel
theorem np_C_sort : (parseMethodDescriptor y_C_sort.desc).map (fun d => d.parameters.length) = some 0 := by decide +kernel
theorem np_S_addSort : (parseMethodDescriptor y_S_addSort.desc).map (fun d => d.parameters.length) = some 0 := by decide +kernel
theorem np_S_findLiving : (parseMethodDescriptor y_S_findLiving.desc).map (fun d => d.parameters.length) = some 0 := by decide +kernel
theorem np_S_consWithLivingParts : (parseMethodDescriptor y_S_consWithLivingParts.desc).map (fun d => d.parameters.length) = some 0 := by decide +kernel
theorem np_S_partSort : (parseMethodDescriptor y_S_partSort.desc).map (fun d => d.parameters.length) = some 2 := by decide +kernel
theorem np_S_sortsWithLivingCons : (parseMethodDescriptor y_S_sortsWithLivingCons.desc).map (fun d => d.parameters.length) = some 0 := by decide +kernel
theorem np_L_con : (parseMethodDescriptor y_L_con.desc).map (fun d => d.parameters.length) = some 6 := by decide +kernel
theorem np_C_con : (parseMethodDescriptor y_C_con.desc).map (fun d => d.parameters.length) = some 4 := by decide +kernel
theorem np_C_needSort : (parseMethodDescriptor y_C_needSort.desc).map (fun d => d.parameters.length) = some 1 := by decide +kernel
theorem np_S_hasSort : (parseMethodDescriptor y_S_hasSort.desc).map (fun d => d.parameters.length) = some 1 := by decide +kernel
theorem np_S_addCon : (parseMethodDescriptor y_S_addCon.desc).map (fun d => d.parameters.length) = some 4 := by decide +kernel
theorem np_L_any : (parseMethodDescriptor y_L_any.desc).map (fun d => d.parameters.length) = some 3 := by decide +kernel
theorem np_C_any : (parseMethodDescriptor y_C_any.desc).map (fun d => d.parameters.length) = some 1 := by decide +kernel
theorem np_C_needRoomForPattern : (parseMethodDescriptor y_C_needRoomForPattern.desc).map (fun d => d.parameters.length) = some 1 := by decide +kernel
theorem np_P_addAny : (parseMethodDescriptor y_P_addAny.desc).map (fun d => d.parameters.length) = some 1 := by decide +kernel
theorem np_P_addPattern : (parseMethodDescriptor y_P_addPattern.desc).map (fun d => d.parameters.length) = some 4 := by decide +kernel
theorem np_L_number : (parseMethodDescriptor y_L_number.desc).map (fun d => d.parameters.length) = some 3 := by decide +kernel
theorem np_C_number : (parseMethodDescriptor y_C_number.desc).map (fun d => d.parameters.length) = some 1 := by decide +kernel
theorem np_P_addNumber : (parseMethodDescriptor y_P_addNumber.desc).map (fun d => d.parameters.length) = some 1 := by decide +kernel
theorem np_L_made : (parseMethodDescriptor y_L_made.desc).map (fun d => d.parameters.length) = some 5 := by decide +kernel
theorem np_C_made : (parseMethodDescriptor y_C_made.desc).map (fun d => d.parameters.length) = some 3 := by decide +kernel
theorem np_S_hasCon : (parseMethodDescriptor y_S_hasCon.desc).map (fun d => d.parameters.length) = some 1 := by decide +kernel
theorem np_C_needPatternOf : (parseMethodDescriptor y_C_needPatternOf.desc).map (fun d => d.parameters.length) = some 2 := by decide +kernel
theorem np_C_needPattern : (parseMethodDescriptor y_C_needPattern.desc).map (fun d => d.parameters.length) = some 1 := by decide +kernel
theorem np_P_hasPattern : (parseMethodDescriptor y_P_hasPattern.desc).map (fun d => d.parameters.length) = some 1 := by decide +kernel
theorem np_P_addMade : (parseMethodDescriptor y_P_addMade.desc).map (fun d => d.parameters.length) = some 5 := by decide +kernel
theorem np_L_begin : (parseMethodDescriptor y_L_begin.desc).map (fun d => d.parameters.length) = some 2 := by decide +kernel
theorem np_C_begin : (parseMethodDescriptor y_C_begin.desc).map (fun d => d.parameters.length) = some 1 := by decide +kernel
theorem np_L_clause : (parseMethodDescriptor y_L_clause.desc).map (fun d => d.parameters.length) = some 3 := by decide +kernel
theorem np_C_clause : (parseMethodDescriptor y_C_clause.desc).map (fun d => d.parameters.length) = some 1 := by decide +kernel
theorem np_H_addRow : (parseMethodDescriptor y_H_addRow.desc).map (fun d => d.parameters.length) = some 1 := by decide +kernel
theorem np_H_layPart : (parseMethodDescriptor y_H_layPart.desc).map (fun d => d.parameters.length) = some 4 := by decide +kernel
theorem np_P_partOf : (parseMethodDescriptor y_P_partOf.desc).map (fun d => d.parameters.length) = some 2 := by decide +kernel
theorem np_H_placeBelow : (parseMethodDescriptor y_H_placeBelow.desc).map (fun d => d.parameters.length) = some 3 := by decide +kernel
theorem np_L_takes : (parseMethodDescriptor y_L_takes.desc).map (fun d => d.parameters.length) = some 3 := by decide +kernel
theorem np_C_takes : (parseMethodDescriptor y_C_takes.desc).map (fun d => d.parameters.length) = some 1 := by decide +kernel
theorem np_L_covers : (parseMethodDescriptor y_L_covers.desc).map (fun d => d.parameters.length) = some 4 := by decide +kernel
theorem np_C_covers : (parseMethodDescriptor y_C_covers.desc).map (fun d => d.parameters.length) = some 2 := by decide +kernel
theorem np_C_layPair : (parseMethodDescriptor y_C_layPair.desc).map (fun d => d.parameters.length) = some 2 := by decide +kernel
theorem np_L_meets : (parseMethodDescriptor y_L_meets.desc).map (fun d => d.parameters.length) = some 4 := by decide +kernel
theorem np_C_meets : (parseMethodDescriptor y_C_meets.desc).map (fun d => d.parameters.length) = some 2 := by decide +kernel
theorem np_L_lives : (parseMethodDescriptor y_L_lives.desc).map (fun d => d.parameters.length) = some 3 := by decide +kernel
theorem np_C_lives : (parseMethodDescriptor y_C_lives.desc).map (fun d => d.parameters.length) = some 1 := by decide +kernel
theorem np_M_init : (parseMethodDescriptor y_M_init.desc).map (fun d => d.parameters.length) = some 0 := by decide +kernel
theorem np_M_thrown : (parseMethodDescriptor y_M_thrown.desc).map (fun d => d.parameters.length) = some 0 := by decide +kernel
theorem np_M_sort : (parseMethodDescriptor y_M_sort.desc).map (fun d => d.parameters.length) = some 0 := by decide +kernel
theorem np_M_con : (parseMethodDescriptor y_M_con.desc).map (fun d => d.parameters.length) = some 4 := by decide +kernel
theorem np_M_isSort : (parseMethodDescriptor y_M_isSort.desc).map (fun d => d.parameters.length) = some 1 := by decide +kernel
theorem np_M_any : (parseMethodDescriptor y_M_any.desc).map (fun d => d.parameters.length) = some 1 := by decide +kernel
theorem np_M_pattern : (parseMethodDescriptor y_M_pattern.desc).map (fun d => d.parameters.length) = some 6 := by decide +kernel
theorem np_M_number : (parseMethodDescriptor y_M_number.desc).map (fun d => d.parameters.length) = some 1 := by decide +kernel
theorem np_M_made : (parseMethodDescriptor y_M_made.desc).map (fun d => d.parameters.length) = some 3 := by decide +kernel
theorem np_M_isPattern : (parseMethodDescriptor y_M_isPattern.desc).map (fun d => d.parameters.length) = some 1 := by decide +kernel
theorem np_M_begin : (parseMethodDescriptor y_M_begin.desc).map (fun d => d.parameters.length) = some 1 := by decide +kernel
theorem np_M_clause : (parseMethodDescriptor y_M_clause.desc).map (fun d => d.parameters.length) = some 1 := by decide +kernel
theorem np_M_reaches : (parseMethodDescriptor y_M_reaches.desc).map (fun d => d.parameters.length) = some 1 := by decide +kernel
theorem np_M_has : (parseMethodDescriptor y_M_has.desc).map (fun d => d.parameters.length) = some 1 := by decide +kernel
theorem np_M_live : (parseMethodDescriptor y_M_live.desc).map (fun d => d.parameters.length) = some 0 := by decide +kernel
theorem np_M_isUsed : (parseMethodDescriptor y_M_isUsed.desc).map (fun d => d.parameters.length) = some 1 := by decide +kernel
theorem np_M_gather : (parseMethodDescriptor y_M_gather.desc).map (fun d => d.parameters.length) = some 1 := by decide +kernel
theorem np_M_look : (parseMethodDescriptor y_M_look.desc).map (fun d => d.parameters.length) = some 1 := by decide +kernel
theorem np_M_node : (parseMethodDescriptor y_M_node.desc).map (fun d => d.parameters.length) = some 1 := by decide +kernel
theorem np_M_fill : (parseMethodDescriptor y_M_fill.desc).map (fun d => d.parameters.length) = some 2 := by decide +kernel
theorem np_M_isTried : (parseMethodDescriptor y_M_isTried.desc).map (fun d => d.parameters.length) = some 1 := by decide +kernel
theorem np_M_fit : (parseMethodDescriptor y_M_fit.desc).map (fun d => d.parameters.length) = some 2 := by decide +kernel
theorem np_M_options : (parseMethodDescriptor y_M_options.desc).map (fun d => d.parameters.length) = some 1 := by decide +kernel
theorem np_M_takes : (parseMethodDescriptor y_M_takes.desc).map (fun d => d.parameters.length) = some 1 := by decide +kernel
theorem np_M_open : (parseMethodDescriptor y_M_open.desc).map (fun d => d.parameters.length) = some 0 := by decide +kernel
theorem np_M_covers : (parseMethodDescriptor y_M_covers.desc).map (fun d => d.parameters.length) = some 2 := by decide +kernel
theorem np_M_areLike : (parseMethodDescriptor y_M_areLike.desc).map (fun d => d.parameters.length) = some 2 := by decide +kernel
theorem np_M_meets : (parseMethodDescriptor y_M_meets.desc).map (fun d => d.parameters.length) = some 2 := by decide +kernel
theorem np_M_lives : (parseMethodDescriptor y_M_lives.desc).map (fun d => d.parameters.length) = some 1 := by decide +kernel
theorem np_M_count : (parseMethodDescriptor y_M_count.desc).map (fun d => d.parameters.length) = some 1 := by decide +kernel
theorem np_L_law : (parseMethodDescriptor y_L_law.desc).map (fun d => d.parameters.length) = some 1 := by decide +kernel
end
section
/-! the reference's tables, read as numbers -/
abbrev mS (M : MC) : Nat := (M.1 1).toNatClampNeg
abbrev mC (M : MC) : Nat := (M.1 2).toNatClampNeg
abbrev mP (M : MC) : Nat := (M.1 3).toNatClampNeg
abbrev cS (M : MC) (j : Nat) : Nat := (M.2 39 j).toNatClampNeg
abbrev cP (M : MC) (j : Nat) : Nat := (M.2 40 j).toNatClampNeg
abbrev cF (M : MC) (j : Nat) : Nat := (M.2 41 j).toNatClampNeg
abbrev cG (M : MC) (j : Nat) : Nat := (M.2 42 j).toNatClampNeg
def wfS (M : MC) : Prop := M.1 1 = nI (mS M) ∧ 1 ≤ mS M ∧ mS M ≤ 12
def wfC (M : MC) : Prop := M.1 2 = nI (mC M) ∧ mC M ≤ 30 ∧ ∀ j, j < mC M → (M.2 39 j = nI (cS M j) ∧ 1 ≤ cS M j ∧ cS M j < mS M) ∧ (M.2 40 j = nI (cP M j) ∧ cP M j ≤ 2) ∧ (1 ≤ cP M j → M.2 41 j = nI (cF M j) ∧ cF M j < mS M) ∧ (2 ≤ cP M j → M.2 42 j = nI (cG M j) ∧ cG M j < mS M)
def usd (M : MC) (j : Nat) : Prop := (1 ≤ cP M j → M.2 50 (cF M j) ≠ 0) ∧ (2 ≤ cP M j → M.2 50 (cG M j) ≠ 0)

set_option maxHeartbeats 4000000 in
set_option maxRecDepth 100000 in
theorem c_M_isSort {d : Nat} {K : KC} {M : MC} {o : Nat → Int64} {nc ns : Nat} (x : Int32) {post : mj_O → mj_H → Prop} (k1 : 0 ≤ x ∧ x < M.1 1 → post (.inl (some (.int 1))) (hp K M o, nc, ns)) (k0 : ¬ (0 ≤ x ∧ x < M.1 1) → post (.inl (some (.int 0))) (hp K M o, nc, ns)) : mj_G y_M_isSort b_M_isSort 2 (some .boolean) [] d none 0 [(0, .ref 38), (1, .int x)] [] (hp K M o, nc, ns) post := by
  refine G_iload_n 1 d_M_isSort_0 rfl ?_
  refine G_iflt 16 d_M_isSort_1 (by decide) (fun h1 => ?_) (fun h1 => ?_)
  · refine G_iconst (v := 0) d_M_isSort_16 (by decide) ?_
    exact G_zret d_M_isSort_17 rfl rfl (k0 (fun z => absurd h1 (Int32.not_lt.mpr z.1)))
  · refine G_iload_n 1 d_M_isSort_4 rfl ?_
    refine G_aload_n 0 d_M_isSort_5 rfl ?_
    refine G_gt d_M_isSort_6 fr_M_7 (rd_M_sorts K M o) ?_
    refine G_icge 16 d_M_isSort_9 (by decide) (fun h9 => ?_) (fun h9 => ?_)
    · refine G_iconst (v := 0) d_M_isSort_16 (by decide) ?_
      exact G_zret d_M_isSort_17 rfl rfl (k0 (fun z => absurd z.2 (Int32.not_lt.mpr h9)))
    · refine G_iconst (v := 1) d_M_isSort_12 (by decide) ?_
      refine G_goto 17 d_M_isSort_13 (by decide) ?_
      exact G_zret d_M_isSort_17 rfl rfl (k1 ⟨Int32.not_lt.mp h1, Int32.not_le.mp h9⟩)
set_option maxHeartbeats 4000000 in
set_option maxRecDepth 100000 in
theorem c_M_isPattern {d : Nat} {K : KC} {M : MC} {o : Nat → Int64} {nc ns : Nat} (x : Int32) {post : mj_O → mj_H → Prop} (k1 : 0 ≤ x ∧ x < M.1 3 → post (.inl (some (.int 1))) (hp K M o, nc, ns)) (k0 : ¬ (0 ≤ x ∧ x < M.1 3) → post (.inl (some (.int 0))) (hp K M o, nc, ns)) : mj_G y_M_isPattern b_M_isPattern 2 (some .boolean) [] d none 0 [(0, .ref 38), (1, .int x)] [] (hp K M o, nc, ns) post := by
  refine G_iload_n 1 d_M_isPattern_0 rfl ?_
  refine G_iflt 16 d_M_isPattern_1 (by decide) (fun h1 => ?_) (fun h1 => ?_)
  · refine G_iconst (v := 0) d_M_isPattern_16 (by decide) ?_
    exact G_zret d_M_isPattern_17 rfl rfl (k0 (fun z => absurd h1 (Int32.not_lt.mpr z.1)))
  · refine G_iload_n 1 d_M_isPattern_4 rfl ?_
    refine G_aload_n 0 d_M_isPattern_5 rfl ?_
    refine G_gt d_M_isPattern_6 fr_M_90 (rd_M_patterns K M o) ?_
    refine G_icge 16 d_M_isPattern_9 (by decide) (fun h9 => ?_) (fun h9 => ?_)
    · refine G_iconst (v := 0) d_M_isPattern_16 (by decide) ?_
      exact G_zret d_M_isPattern_17 rfl rfl (k0 (fun z => absurd z.2 (Int32.not_lt.mpr h9)))
    · refine G_iconst (v := 1) d_M_isPattern_12 (by decide) ?_
      refine G_goto 17 d_M_isPattern_13 (by decide) ?_
      exact G_zret d_M_isPattern_17 rfl rfl (k1 ⟨Int32.not_lt.mp h1, Int32.not_le.mp h9⟩)
set_option maxHeartbeats 4000000 in
set_option maxRecDepth 100000 in
theorem c_M_isUsed {d : Nat} {K : KC} {M : MC} {o : Nat → Int64} {nc ns : Nat} (j : Nat) (hS : wfS M) (hC : wfC M) (hj : j < mC M) {post : mj_O → mj_H → Prop} (k1 : usd M j → post (.inl (some (.int 1))) (hp K M o, nc, ns)) (k0 : ¬ usd M j → post (.inl (some (.int 0))) (hp K M o, nc, ns)) : mj_G y_M_isUsed b_M_isUsed 2 (some .boolean) [] d none 0 [(0, .ref 38), (1, .int (nI j))] [] (hp K M o, nc, ns) post := by
  obtain ⟨-, q1, q2⟩ := hS
  obtain ⟨-, q3, q4⟩ := hC
  obtain ⟨-, ⟨e40, b40⟩, hF, hG⟩ := q4 j hj
  have hj30 : j < 30 := by omega
  refine G_aload_n 0 d_M_isUsed_0 rfl ?_
  refine G_gt d_M_isUsed_1 fr_M_17 (rd_M_conParts K M o) ?_
  refine G_iload_n 1 d_M_isUsed_4 rfl ?_
  refine G_ialN d_M_isUsed_5 (ar_40 K M o) (by decide) (by omega) ?_
  rw [e40]
  refine G_iconst (v := nI 1) d_M_isUsed_6 (by decide) ?_
  refine G_iclt 24 d_M_isUsed_7 (by decide) (fun h7 => ?_) (fun h7 => ?_)
  · have h7 := (nI_ltI (by omega) (by omega)).mp h7
    have u1 : 1 ≤ cP M j → M.2 50 (cF M j) ≠ 0 := fun z => absurd z (by omega)
    refine G_aload_n 0 d_M_isUsed_24 rfl ?_
    refine G_gt d_M_isUsed_25 fr_M_17 (rd_M_conParts K M o) ?_
    refine G_iload_n 1 d_M_isUsed_28 rfl ?_
    refine G_ialN d_M_isUsed_29 (ar_40 K M o) (by decide) (by omega) ?_
    rw [e40]
    refine G_iconst (v := nI 2) d_M_isUsed_30 (by decide) ?_
    refine G_iclt 48 d_M_isUsed_31 (by decide) (fun h31 => ?_) (fun h31 => ?_)
    · have h31 := (nI_ltI (by omega) (by omega)).mp h31
      refine G_iconst (v := 1) d_M_isUsed_48 (by decide) ?_
      refine G_goto 53 d_M_isUsed_49 (by decide) ?_
      exact G_zret d_M_isUsed_53 rfl rfl (k1 ⟨u1, fun z => absurd z (by omega)⟩)
    · have h31 : ¬ _ := fun z => h31 ((nI_ltI (by omega) (by omega)).mpr z)
      obtain ⟨e42, b42⟩ := hG (by omega)
      refine G_aload_n 0 d_M_isUsed_34 rfl ?_
      refine G_gt d_M_isUsed_35 fr_M_47 (rd_M_lives K M o) ?_
      refine G_aload_n 0 d_M_isUsed_38 rfl ?_
      refine G_gt d_M_isUsed_39 fr_M_23 (rd_M_conSecond K M o) ?_
      refine G_iload_n 1 d_M_isUsed_42 rfl ?_
      refine G_ialN d_M_isUsed_43 (ar_42 K M o) (by decide) (by omega) ?_
      rw [e42]
      refine G_zalN d_M_isUsed_44 (ar_50 K M o) (by decide) (by omega) ?_
      refine G_ifeq 52 d_M_isUsed_45 (by decide) (fun h45 => ?_) (fun h45 => ?_)
      · refine G_iconst (v := 0) d_M_isUsed_52 (by decide) ?_
        exact G_zret d_M_isUsed_53 rfl rfl (k0 (fun z => z.2 (by omega) h45))
      · refine G_iconst (v := 1) d_M_isUsed_48 (by decide) ?_
        refine G_goto 53 d_M_isUsed_49 (by decide) ?_
        exact G_zret d_M_isUsed_53 rfl rfl (k1 ⟨u1, fun _ => h45⟩)
  · have h7 : ¬ _ := fun z => h7 ((nI_ltI (by omega) (by omega)).mpr z)
    obtain ⟨e41, b41⟩ := hF (by omega)
    refine G_aload_n 0 d_M_isUsed_10 rfl ?_
    refine G_gt d_M_isUsed_11 fr_M_47 (rd_M_lives K M o) ?_
    refine G_aload_n 0 d_M_isUsed_14 rfl ?_
    refine G_gt d_M_isUsed_15 fr_M_20 (rd_M_conFirst K M o) ?_
    refine G_iload_n 1 d_M_isUsed_18 rfl ?_
    refine G_ialN d_M_isUsed_19 (ar_41 K M o) (by decide) (by omega) ?_
    rw [e41]
    refine G_zalN d_M_isUsed_20 (ar_50 K M o) (by decide) (by omega) ?_
    refine G_ifeq 52 d_M_isUsed_21 (by decide) (fun h21 => ?_) (fun h21 => ?_)
    · refine G_iconst (v := 0) d_M_isUsed_52 (by decide) ?_
      exact G_zret d_M_isUsed_53 rfl rfl (k0 (fun z => z.1 (by omega) h21))
    · have u1 : 1 ≤ cP M j → M.2 50 (cF M j) ≠ 0 := fun _ => h21
      refine G_aload_n 0 d_M_isUsed_24 rfl ?_
      refine G_gt d_M_isUsed_25 fr_M_17 (rd_M_conParts K M o) ?_
      refine G_iload_n 1 d_M_isUsed_28 rfl ?_
      refine G_ialN d_M_isUsed_29 (ar_40 K M o) (by decide) (by omega) ?_
      rw [e40]
      refine G_iconst (v := nI 2) d_M_isUsed_30 (by decide) ?_
      refine G_iclt 48 d_M_isUsed_31 (by decide) (fun h31 => ?_) (fun h31 => ?_)
      · have h31 := (nI_ltI (by omega) (by omega)).mp h31
        refine G_iconst (v := 1) d_M_isUsed_48 (by decide) ?_
        refine G_goto 53 d_M_isUsed_49 (by decide) ?_
        exact G_zret d_M_isUsed_53 rfl rfl (k1 ⟨u1, fun z => absurd z (by omega)⟩)
      · have h31 : ¬ _ := fun z => h31 ((nI_ltI (by omega) (by omega)).mpr z)
        obtain ⟨e42, b42⟩ := hG (by omega)
        refine G_aload_n 0 d_M_isUsed_34 rfl ?_
        refine G_gt d_M_isUsed_35 fr_M_47 (rd_M_lives K M o) ?_
        refine G_aload_n 0 d_M_isUsed_38 rfl ?_
        refine G_gt d_M_isUsed_39 fr_M_23 (rd_M_conSecond K M o) ?_
        refine G_iload_n 1 d_M_isUsed_42 rfl ?_
        refine G_ialN d_M_isUsed_43 (ar_42 K M o) (by decide) (by omega) ?_
        rw [e42]
        refine G_zalN d_M_isUsed_44 (ar_50 K M o) (by decide) (by omega) ?_
        refine G_ifeq 52 d_M_isUsed_45 (by decide) (fun h45 => ?_) (fun h45 => ?_)
        · refine G_iconst (v := 0) d_M_isUsed_52 (by decide) ?_
          exact G_zret d_M_isUsed_53 rfl rfl (k0 (fun z => z.2 (by omega) h45))
        · refine G_iconst (v := 1) d_M_isUsed_48 (by decide) ?_
          refine G_goto 53 d_M_isUsed_49 (by decide) ?_
          exact G_zret d_M_isUsed_53 rfl rfl (k1 ⟨u1, fun _ => h45⟩)
def nodeM (M : MC) (n : Nat) (x : Int32) : MC := mi (ma (ma M 51 n 0) 52 n x) 6 (nI (n + 1))
set_option maxHeartbeats 4000000 in
set_option maxRecDepth 100000 in
theorem c_M_node {d : Nat} {K : KC} {M : MC} {o : Nat → Int64} {nc ns : Nat} (x : Int32) (n : Nat) (hn : M.1 6 = nI n) (hb : n < 270) {post : mj_O → mj_H → Prop} (k : post (.inl (some (.int (nI n)))) (hp K (nodeM M n x) o, nc, ns)) : mj_G y_M_node b_M_node 2 (some .int) [] d none 0 [(0, .ref 38), (1, .int x)] [] (hp K M o, nc, ns) post := by
  refine G_aload_n 0 d_M_node_0 rfl ?_
  refine G_gt d_M_node_1 fr_M_51 (rd_M_nodeKind K M o) ?_
  refine G_aload_n 0 d_M_node_4 rfl ?_
  refine G_gt d_M_node_5 fr_M_116 (rd_M_nodes K M o) ?_
  rw [hn]
  refine G_iconst (v := 0) d_M_node_8 (by decide) ?_
  refine G_iasN d_M_node_9 (ar_51 K M o) (by decide) (by omega) (aw_51 K M o n 0) ?_
  refine G_aload_n 0 d_M_node_10 rfl ?_
  refine G_gt d_M_node_11 fr_M_54 (rd_M_nodeSort K (ma M 51 n 0) o) ?_
  refine G_aload_n 0 d_M_node_14 rfl ?_
  refine G_gt d_M_node_15 fr_M_116 (rd_M_nodes K (ma M 51 n 0) o) ?_
  rw [show (ma M 51 n 0).1 6 = nI n from hn]
  refine G_iload_n 1 d_M_node_18 rfl ?_
  refine G_iasN d_M_node_19 (ar_52 K (ma M 51 n 0) o) (by decide) (by omega) (aw_52 K (ma M 51 n 0) o n x) ?_
  refine G_aload_n 0 d_M_node_20 rfl ?_
  refine G_dup d_M_node_21 rfl ?_
  refine G_gt d_M_node_22 fr_M_116 (rd_M_nodes K (ma (ma M 51 n 0) 52 n x) o) ?_
  rw [show (ma (ma M 51 n 0) 52 n x).1 6 = nI n from hn]
  refine G_iconst (v := 1) d_M_node_25 (by decide) ?_
  refine G_iadd d_M_node_26 ?_
  rw [show nI n + 1 = nI (n + 1) from nI_1 n]
  refine G_pt d_M_node_27 fp_M_116 (wr_M_nodes K (ma (ma M 51 n 0) 52 n x) o (nI (n + 1))) ?_
  refine G_aload_n 0 d_M_node_30 rfl ?_
  refine G_gt d_M_node_31 fr_M_116 (rd_M_nodes K (mi (ma (ma M 51 n 0) 52 n x) 6 (nI (n + 1))) o) ?_
  rw [show (mi (ma (ma M 51 n 0) 52 n x) 6 (nI (n + 1))).1 6 = nI (n + 1) from rfl]
  refine G_iconst (v := 1) d_M_node_34 (by decide) ?_
  refine G_isub d_M_node_35 ?_
  rw [show nI (n + 1) - 1 = nI n from nI_pred n]
  exact G_iret d_M_node_36 rfl k
def patM (M : MC) (n : Nat) (x1 x2 x3 x4 x5 x6 : Int32) : MC := mi (ma (ma (ma (ma (ma (ma M 43 n x1) 44 n x2) 45 n x3) 46 n x4) 47 n x5) 48 n x6) 3 (nI (n + 1))
set_option maxHeartbeats 4000000 in
set_option maxRecDepth 100000 in
theorem c_M_pattern {d : Nat} {K : KC} {M : MC} {o : Nat → Int64} {nc ns : Nat} (x1 x2 x3 x4 x5 x6 : Int32) (n : Nat) (hn : M.1 3 = nI n) (hb : n < 200) {post : mj_O → mj_H → Prop} (k : post (.inl (some (.int (nI n)))) (hp K (patM M n x1 x2 x3 x4 x5 x6) o, nc, ns)) : mj_G y_M_pattern b_M_pattern 7 (some .int) [] d none 0 [(0, .ref 38), (1, .int x1), (2, .int x2), (3, .int x3), (4, .int x4), (5, .int x5), (6, .int x6)] [] (hp K M o, nc, ns) post := by
  refine G_aload_n 0 d_M_pattern_0 rfl ?_
  refine G_gt d_M_pattern_1 fr_M_26 (rd_M_kind K M o) ?_
  refine G_aload_n 0 d_M_pattern_4 rfl ?_
  refine G_gt d_M_pattern_5 fr_M_90 (rd_M_patterns K M o) ?_
  rw [show M.1 3 = nI n from hn]
  refine G_iload_n 1 d_M_pattern_8 rfl ?_
  refine G_iasN d_M_pattern_9 (ar_43 K M o) (by decide) (by omega) (aw_43 K M o n x1) ?_
  refine G_aload_n 0 d_M_pattern_10 rfl ?_
  refine G_gt d_M_pattern_11 fr_M_29 (rd_M_sortOf K (ma M 43 n x1) o) ?_
  refine G_aload_n 0 d_M_pattern_14 rfl ?_
  refine G_gt d_M_pattern_15 fr_M_90 (rd_M_patterns K (ma M 43 n x1) o) ?_
  rw [show (ma M 43 n x1).1 3 = nI n from hn]
  refine G_iload_n 2 d_M_pattern_18 rfl ?_
  refine G_iasN d_M_pattern_19 (ar_44 K (ma M 43 n x1) o) (by decide) (by omega) (aw_44 K (ma M 43 n x1) o n x2) ?_
  refine G_aload_n 0 d_M_pattern_20 rfl ?_
  refine G_gt d_M_pattern_21 fr_M_32 (rd_M_what K (ma (ma M 43 n x1) 44 n x2) o) ?_
  refine G_aload_n 0 d_M_pattern_24 rfl ?_
  refine G_gt d_M_pattern_25 fr_M_90 (rd_M_patterns K (ma (ma M 43 n x1) 44 n x2) o) ?_
  rw [show (ma (ma M 43 n x1) 44 n x2).1 3 = nI n from hn]
  refine G_iload_n 3 d_M_pattern_28 rfl ?_
  refine G_iasN d_M_pattern_29 (ar_45 K (ma (ma M 43 n x1) 44 n x2) o) (by decide) (by omega) (aw_45 K (ma (ma M 43 n x1) 44 n x2) o n x3) ?_
  refine G_aload_n 0 d_M_pattern_30 rfl ?_
  refine G_gt d_M_pattern_31 fr_M_35 (rd_M_first K (ma (ma (ma M 43 n x1) 44 n x2) 45 n x3) o) ?_
  refine G_aload_n 0 d_M_pattern_34 rfl ?_
  refine G_gt d_M_pattern_35 fr_M_90 (rd_M_patterns K (ma (ma (ma M 43 n x1) 44 n x2) 45 n x3) o) ?_
  rw [show (ma (ma (ma M 43 n x1) 44 n x2) 45 n x3).1 3 = nI n from hn]
  refine G_iload 4 d_M_pattern_38 rfl ?_
  refine G_iasN d_M_pattern_40 (ar_46 K (ma (ma (ma M 43 n x1) 44 n x2) 45 n x3) o) (by decide) (by omega) (aw_46 K (ma (ma (ma M 43 n x1) 44 n x2) 45 n x3) o n x4) ?_
  refine G_aload_n 0 d_M_pattern_41 rfl ?_
  refine G_gt d_M_pattern_42 fr_M_38 (rd_M_second K (ma (ma (ma (ma M 43 n x1) 44 n x2) 45 n x3) 46 n x4) o) ?_
  refine G_aload_n 0 d_M_pattern_45 rfl ?_
  refine G_gt d_M_pattern_46 fr_M_90 (rd_M_patterns K (ma (ma (ma (ma M 43 n x1) 44 n x2) 45 n x3) 46 n x4) o) ?_
  rw [show (ma (ma (ma (ma M 43 n x1) 44 n x2) 45 n x3) 46 n x4).1 3 = nI n from hn]
  refine G_iload 5 d_M_pattern_49 rfl ?_
  refine G_iasN d_M_pattern_51 (ar_47 K (ma (ma (ma (ma M 43 n x1) 44 n x2) 45 n x3) 46 n x4) o) (by decide) (by omega) (aw_47 K (ma (ma (ma (ma M 43 n x1) 44 n x2) 45 n x3) 46 n x4) o n x5) ?_
  refine G_aload_n 0 d_M_pattern_52 rfl ?_
  refine G_gt d_M_pattern_53 fr_M_41 (rd_M_width K (ma (ma (ma (ma (ma M 43 n x1) 44 n x2) 45 n x3) 46 n x4) 47 n x5) o) ?_
  refine G_aload_n 0 d_M_pattern_56 rfl ?_
  refine G_gt d_M_pattern_57 fr_M_90 (rd_M_patterns K (ma (ma (ma (ma (ma M 43 n x1) 44 n x2) 45 n x3) 46 n x4) 47 n x5) o) ?_
  rw [show (ma (ma (ma (ma (ma M 43 n x1) 44 n x2) 45 n x3) 46 n x4) 47 n x5).1 3 = nI n from hn]
  refine G_iload 6 d_M_pattern_60 rfl ?_
  refine G_iasN d_M_pattern_62 (ar_48 K (ma (ma (ma (ma (ma M 43 n x1) 44 n x2) 45 n x3) 46 n x4) 47 n x5) o) (by decide) (by omega) (aw_48 K (ma (ma (ma (ma (ma M 43 n x1) 44 n x2) 45 n x3) 46 n x4) 47 n x5) o n x6) ?_
  refine G_aload_n 0 d_M_pattern_63 rfl ?_
  refine G_dup d_M_pattern_64 rfl ?_
  refine G_gt d_M_pattern_65 fr_M_90 (rd_M_patterns K (ma (ma (ma (ma (ma (ma M 43 n x1) 44 n x2) 45 n x3) 46 n x4) 47 n x5) 48 n x6) o) ?_
  rw [show (ma (ma (ma (ma (ma (ma M 43 n x1) 44 n x2) 45 n x3) 46 n x4) 47 n x5) 48 n x6).1 3 = nI n from hn]
  refine G_iconst (v := 1) d_M_pattern_68 (by decide) ?_
  refine G_iadd d_M_pattern_69 ?_
  rw [show nI n + 1 = nI (n + 1) from nI_1 n]
  refine G_pt d_M_pattern_70 fp_M_90 (wr_M_patterns K (ma (ma (ma (ma (ma (ma M 43 n x1) 44 n x2) 45 n x3) 46 n x4) 47 n x5) 48 n x6) o (nI (n + 1))) ?_
  refine G_aload_n 0 d_M_pattern_73 rfl ?_
  refine G_gt d_M_pattern_74 fr_M_90 (rd_M_patterns K (mi (ma (ma (ma (ma (ma (ma M 43 n x1) 44 n x2) 45 n x3) 46 n x4) 47 n x5) 48 n x6) 3 (nI (n + 1))) o) ?_
  rw [show (mi (ma (ma (ma (ma (ma (ma M 43 n x1) 44 n x2) 45 n x3) 46 n x4) 47 n x5) 48 n x6) 3 (nI (n + 1))).1 3 = nI (n + 1) from rfl]
  refine G_iconst (v := 1) d_M_pattern_77 (by decide) ?_
  refine G_isub d_M_pattern_78 ?_
  rw [show nI (n + 1) - 1 = nI n from nI_pred n]
  exact G_iret d_M_pattern_79 rfl k
end
section
theorem nI_ne {a b : Nat} (ha : a < 2 ^ 31) (hb : b < 2 ^ 31) : (¬ nI a = nI b) ↔ a ≠ b := not_congr (nI_eq ha hb)
abbrev usdD (M : MC) (j : Nat) : Prop := (1 ≤ cP M j → M.2 50 (cF M j) ≠ 0) ∧ (2 ≤ cP M j → M.2 50 (cG M j) ≠ 0)
abbrev tri (M : MC) (j : Nat) : Prop := usdD M j ∧ (M.2 59 j ≠ 0 ∨ ∀ i, i < j → ¬ (cS M i = cS M j ∧ M.2 59 i = 0 ∧ usdD M i))
def optL (M : MC) (s n : Nat) : List Nat := (List.range n).filter (fun c => decide (cS M c = s ∧ tri M c))
theorem optL_no {M : MC} {s n : Nat} (h : ¬ (cS M n = s ∧ tri M n)) : optL M s (n + 1) = optL M s n := by
  unfold optL
  rw [List.range_succ, List.filter_append, List.filter_cons, if_neg (fun z => h (of_decide_eq_true z)), List.filter_nil, List.append_nil]
theorem optL_yes {M : MC} {s n : Nat} (h : cS M n = s ∧ tri M n) : optL M s (n + 1) = optL M s n ++ [n] := by
  unfold optL
  rw [List.range_succ, List.filter_append]
  congr 1
  rw [List.filter_cons, if_pos (decide_eq_true h), List.filter_nil]
theorem optL_len (M : MC) (s n : Nat) : (optL M s n).length ≤ n := by
  have := List.length_filter_le (fun c => decide (cS M c = s ∧ tri M c)) (List.range n)
  rw [List.length_range] at this
  exact this
set_option maxHeartbeats 4000000 in
set_option maxRecDepth 100000 in
theorem l_M_isTried {d : Nat} {K : KC} {M : MC} {o : Nat → Int64} {nc ns : Nat} (j : Nat) (hS : wfS M) (hC : wfC M) (hj : j < mC M) (hu : usdD M j) (h0 : M.2 59 j = 0) {post : mj_O → mj_H → Prop} (k1 : tri M j → post (.inl (some (.int 1))) (hp K M o, nc, ns)) (k0 : ¬ tri M j → post (.inl (some (.int 0))) (hp K M o, nc, ns)) : ∀ n i : Nat, i ≤ j → j < i + n → (∀ a, a < i → ¬ (cS M a = cS M j ∧ M.2 59 a = 0 ∧ usdD M a)) → mj_G y_M_isTried b_M_isTried 3 (some .boolean) [] (d + 1) none 25 [(2, .int (nI i)), (0, .ref 38), (1, .int (nI j))] [] (hp K M o, nc, ns) post := by
  have hS' := hS
  have hC' := hC
  obtain ⟨-, q1, q2⟩ := hS'
  obtain ⟨-, q3, q4⟩ := hC'
  obtain ⟨⟨ej, bj1, bj2⟩, -⟩ := q4 j hj
  intro n
  induction n with
  | zero => intro i h1 h2; omega
  | succ n ih =>
    intro i h1 h2 h3
    refine G_iload_n 0 d_M_isTried_25 rfl ?_
    refine G_iload_n 2 d_M_isTried_26 rfl ?_
    refine G_icge 70 d_M_isTried_27 (by decide) (fun h27 => ?_) (fun h27 => ?_)
    · have h27 := (nI_leI (by omega) (by omega)).mp h27
      refine G_iconst (v := 1) d_M_isTried_70 (by decide) ?_
      exact G_zret d_M_isTried_71 rfl rfl (k1 ⟨hu, Or.inr (fun a ha => h3 a (by omega))⟩)
    · have h27 : ¬ _ := fun z => h27 ((nI_leI (by omega) (by omega)).mpr z)
      obtain ⟨⟨ei, bi1, bi2⟩, -⟩ := q4 i (by omega)
      refine G_aload_n 1 d_M_isTried_30 rfl ?_
      refine G_gt d_M_isTried_31 fr_M_13 (rd_M_conSort K M o) ?_
      refine G_iload_n 0 d_M_isTried_34 rfl ?_
      refine G_ialN d_M_isTried_35 (ar_39 K M o) (by decide) (by omega) ?_
      rw [ei]
      refine G_aload_n 1 d_M_isTried_36 rfl ?_
      refine G_gt d_M_isTried_37 fr_M_13 (rd_M_conSort K M o) ?_
      refine G_iload_n 2 d_M_isTried_40 rfl ?_
      refine G_ialN d_M_isTried_41 (ar_39 K M o) (by decide) (by omega) ?_
      rw [ej]
      refine G_icne 64 d_M_isTried_42 (by decide) (fun h42 => ?_) (fun h42 => ?_)
      · refine G_iinc 0 (v := nI (i + 1)) (ls' := [(2, .int (nI (i + 1))), (0, .ref 38), (1, .int (nI j))]) d_M_isTried_64 rfl (nI_1 _) (by decide) rfl ?_
        refine G_goto 25 d_M_isTried_67 (by decide) ?_
        exact ih (i + 1) (by omega) (by omega) (lt_s h3 (fun z => h42 (by rw [z.1])))
      · have h42 := (nI_eq (by omega) (by omega)).mp h42
        refine G_aload_n 1 d_M_isTried_45 rfl ?_
        refine G_gt d_M_isTried_46 fr_M_75 (rd_M_stands K M o) ?_
        refine G_iload_n 0 d_M_isTried_49 rfl ?_
        refine G_zalN d_M_isTried_50 (ar_59 K M o) (by decide) (by omega) ?_
        refine G_ifne 64 d_M_isTried_51 (by decide) (fun h51 => ?_) (fun h51 => ?_)
        · refine G_iinc 0 (v := nI (i + 1)) (ls' := [(2, .int (nI (i + 1))), (0, .ref 38), (1, .int (nI j))]) d_M_isTried_64 rfl (nI_1 _) (by decide) rfl ?_
          refine G_goto 25 d_M_isTried_67 (by decide) ?_
          exact ih (i + 1) (by omega) (by omega) (lt_s h3 (fun z => h51 z.2.1))
        · refine G_aload_n 1 d_M_isTried_54 rfl ?_
          refine G_iload_n 0 d_M_isTried_55 rfl ?_
          refine G_cvB (usdD M i) (As := [.int (nI i)]) d_M_isTried_56 cv_M_113 cw_M_isUsed (ob_M K M o) np_M_isUsed (Nat.le_of_ble_eq_true rfl) (Nat.le_of_ble_eq_true rfl) (fun post2 k1 k0 => c_M_isUsed i hS hC (by omega) k1 k0) (fun u56 => ?_) (fun u56 => ?_)
          · refine G_ifeq 64 d_M_isTried_59 (by decide) (fun h => absurd h (by decide)) (fun _ => ?_)
            refine G_iconst (v := 0) d_M_isTried_62 (by decide) ?_
            exact G_zret d_M_isTried_63 rfl rfl (k0 (fun z => z.2.elim (fun q => q h0) (fun q => q i (by omega) ⟨h42, h51, u56⟩)))
          · refine G_ifeq 64 d_M_isTried_59 (by decide) (fun _ => ?_) (fun h => absurd h (by decide))
            refine G_iinc 0 (v := nI (i + 1)) (ls' := [(2, .int (nI (i + 1))), (0, .ref 38), (1, .int (nI j))]) d_M_isTried_64 rfl (nI_1 _) (by decide) rfl ?_
            refine G_goto 25 d_M_isTried_67 (by decide) ?_
            exact ih (i + 1) (by omega) (by omega) (lt_s h3 (fun z => u56 z.2.2))
set_option maxHeartbeats 4000000 in
set_option maxRecDepth 100000 in
theorem c_M_isTried {d : Nat} {K : KC} {M : MC} {o : Nat → Int64} {nc ns : Nat} (j : Nat) (hS : wfS M) (hC : wfC M) (hj : j < mC M) {post : mj_O → mj_H → Prop} (k1 : tri M j → post (.inl (some (.int 1))) (hp K M o, nc, ns)) (k0 : ¬ tri M j → post (.inl (some (.int 0))) (hp K M o, nc, ns)) : mj_G y_M_isTried b_M_isTried 3 (some .boolean) [] (d + 1) none 0 [(0, .ref 38), (1, .int (nI j))] [] (hp K M o, nc, ns) post := by
  have q3 := hC.2.1
  refine G_aload_n 0 d_M_isTried_0 rfl ?_
  refine G_gt d_M_isTried_1 fr_M_75 (rd_M_stands K M o) ?_
  refine G_iload_n 1 d_M_isTried_4 rfl ?_
  refine G_zalN d_M_isTried_5 (ar_59 K M o) (by decide) (by omega) ?_
  refine G_ifne 17 d_M_isTried_6 (by decide) (fun h6 => ?_) (fun h6 => ?_)
  · refine G_aload_n 0 d_M_isTried_17 rfl ?_
    refine G_iload_n 1 d_M_isTried_18 rfl ?_
    refine G_cvB (usdD M j) (As := [.int (nI j)]) d_M_isTried_19 cv_M_113 cw_M_isUsed (ob_M K M o) np_M_isUsed (Nat.le_of_ble_eq_true rfl) (Nat.le_of_ble_eq_true rfl) (fun post2 k1 k0 => c_M_isUsed j hS hC (by omega) k1 k0) (fun u19 => ?_) (fun u19 => ?_)
    · exact G_zret d_M_isTried_22 rfl rfl (k1 ⟨u19, Or.inl h6⟩)
    · exact G_zret d_M_isTried_22 rfl rfl (k0 (fun z => u19 z.1))
  · refine G_aload_n 0 d_M_isTried_9 rfl ?_
    refine G_iload_n 1 d_M_isTried_10 rfl ?_
    refine G_cvB (usdD M j) (As := [.int (nI j)]) d_M_isTried_11 cv_M_113 cw_M_isUsed (ob_M K M o) np_M_isUsed (Nat.le_of_ble_eq_true rfl) (Nat.le_of_ble_eq_true rfl) (fun post2 k1 k0 => c_M_isUsed j hS hC (by omega) k1 k0) (fun u11 => ?_) (fun u11 => ?_)
    · refine G_ifne 23 d_M_isTried_14 (by decide) (fun _ => ?_) (fun h => absurd h (by decide))
      refine G_iconst (v := nI 0) d_M_isTried_23 (by decide) ?_
      refine G_istore_n (ls' := [(2, .int (nI 0)), (0, .ref 38), (1, .int (nI j))]) d_M_isTried_24 (by decide) rfl ?_
      exact l_M_isTried j hS hC hj u11 h6 k1 k0 (j + 1) 0 (by omega) (by omega) lt_0
    · refine G_ifne 23 d_M_isTried_14 (by decide) (fun h => absurd h (by decide)) (fun _ => ?_)
      refine G_aload_n 0 d_M_isTried_17 rfl ?_
      refine G_iload_n 1 d_M_isTried_18 rfl ?_
      refine G_cvB (usdD M j) (As := [.int (nI j)]) d_M_isTried_19 cv_M_113 cw_M_isUsed (ob_M K M o) np_M_isUsed (Nat.le_of_ble_eq_true rfl) (Nat.le_of_ble_eq_true rfl) (fun post2 k1 k0 => c_M_isUsed j hS hC (by omega) k1 k0) (fun u19 => ?_) (fun u19 => ?_)
      · exact G_zret d_M_isTried_22 rfl rfl (absurd u19 u11)
      · exact G_zret d_M_isTried_22 rfl rfl (k0 (fun z => u19 z.1))
set_option maxHeartbeats 4000000 in
set_option maxRecDepth 100000 in
theorem l_M_options {d : Nat} {K : KC} {M : MC} {o : Nat → Int64} {nc ns : Nat} (t : Nat) (ht : t < 12) (hS : wfS M) (hC : wfC M) {post : mj_O → mj_H → Prop} (k : post (.inl (some (.int (nI (optL M t (mC M)).length)))) (hp K M o, nc, ns)) : ∀ n c : Nat, c ≤ mC M → mC M < c + n → mj_G y_M_options b_M_options 4 (some .int) [] (d + 2) none 15 [(3, .int (nI c)), (2, .int (nI (optL M t c).length)), (0, .ref 38), (1, .int (nI t))] [] (hp K M o, nc, ns) post := by
  have hS' := hS
  have hC' := hC
  obtain ⟨-, q1, q2⟩ := hS'
  obtain ⟨e2, q3, q4⟩ := hC'
  intro n
  induction n with
  | zero => intro c h1 h2; omega
  | succ n ih =>
    intro c h1 h2
    have hlen := optL_len M t c
    refine G_iload_n 0 d_M_options_15 rfl ?_
    refine G_aload_n 2 d_M_options_16 rfl ?_
    refine G_gt d_M_options_17 fr_M_97 (rd_M_cons K M o) ?_
    rw [e2]
    refine G_icge 50 d_M_options_20 (by decide) (fun h20 => ?_) (fun h20 => ?_)
    · have h20 := (nI_leI (by omega) (by omega)).mp h20
      have e9 : c = mC M := by omega
      rw [e9] at hlen ⊢
      refine G_iload_n 1 d_M_options_50 rfl ?_
      exact G_iret d_M_options_51 rfl k
    · have h20 : ¬ _ := fun z => h20 ((nI_leI (by omega) (by omega)).mpr z)
      obtain ⟨⟨ec, bc1, bc2⟩, -⟩ := q4 c (by omega)
      refine G_aload_n 2 d_M_options_23 rfl ?_
      refine G_gt d_M_options_24 fr_M_13 (rd_M_conSort K M o) ?_
      refine G_iload_n 0 d_M_options_27 rfl ?_
      refine G_ialN d_M_options_28 (ar_39 K M o) (by decide) (by omega) ?_
      rw [ec]
      refine G_iload_n 3 d_M_options_29 rfl ?_
      refine G_icne 44 d_M_options_30 (by decide) (fun h30 => ?_) (fun h30 => ?_)
      · refine G_iinc 0 (v := nI (c + 1)) (ls' := [(3, .int (nI (c + 1))), (2, .int (nI (optL M t c).length)), (0, .ref 38), (1, .int (nI t))]) d_M_options_44 rfl (nI_1 _) (by decide) rfl ?_
        refine G_goto 15 d_M_options_47 (by decide) ?_
        rw [← optL_no (M := M) (s := t) (n := c) (fun z => h30 (by rw [z.1]))]; exact ih (c + 1) (by omega) (by omega)
      · have h30 := (nI_eq (by omega) (by omega)).mp h30
        refine G_aload_n 2 d_M_options_33 rfl ?_
        refine G_iload_n 0 d_M_options_34 rfl ?_
        refine G_cvB (tri M c) (As := [.int (nI c)]) d_M_options_35 cv_M_122 cw_M_isTried (ob_M K M o) np_M_isTried (Nat.le_of_ble_eq_true rfl) (Nat.le_of_ble_eq_true rfl) (fun post2 k1 k0 => c_M_isTried c hS hC (by omega) k1 k0) (fun u35 => ?_) (fun u35 => ?_)
        · refine G_ifeq 44 d_M_options_38 (by decide) (fun h => absurd h (by decide)) (fun _ => ?_)
          refine G_iinc 1 (v := nI ((optL M t c).length + 1)) (ls' := [(2, .int (nI ((optL M t c).length + 1))), (3, .int (nI c)), (0, .ref 38), (1, .int (nI t))]) d_M_options_41 rfl (nI_1 _) (by decide) rfl ?_
          refine G_iinc 1 (v := nI (c + 1)) (ls' := [(3, .int (nI (c + 1))), (2, .int (nI ((optL M t c).length + 1))), (0, .ref 38), (1, .int (nI t))]) d_M_options_44 rfl (nI_1 _) (by decide) rfl ?_
          refine G_goto 15 d_M_options_47 (by decide) ?_
          rw [show (optL M t c).length + 1 = (optL M t (c + 1)).length from by rw [optL_yes (M := M) (s := t) (n := c) ⟨h30, u35⟩]; simp]; exact ih (c + 1) (by omega) (by omega)
        · refine G_ifeq 44 d_M_options_38 (by decide) (fun _ => ?_) (fun h => absurd h (by decide))
          refine G_iinc 0 (v := nI (c + 1)) (ls' := [(3, .int (nI (c + 1))), (2, .int (nI (optL M t c).length)), (0, .ref 38), (1, .int (nI t))]) d_M_options_44 rfl (nI_1 _) (by decide) rfl ?_
          refine G_goto 15 d_M_options_47 (by decide) ?_
          rw [← optL_no (M := M) (s := t) (n := c) (fun z => u35 z.2)]; exact ih (c + 1) (by omega) (by omega)
set_option maxHeartbeats 4000000 in
set_option maxRecDepth 100000 in
theorem c_M_options {d : Nat} {K : KC} {M : MC} {o : Nat → Int64} {nc ns : Nat} (t : Nat) (ht : t < 12) (ht0 : t ≠ 0) (hS : wfS M) (hC : wfC M) {post : mj_O → mj_H → Prop} (k : post (.inl (some (.int (nI (optL M t (mC M)).length)))) (hp K M o, nc, ns)) : mj_G y_M_options b_M_options 4 (some .int) [] (d + 2) none 0 [(0, .ref 38), (1, .int (nI t))] [] (hp K M o, nc, ns) post := by
  refine G_iload_n 1 d_M_options_0 rfl ?_
  refine G_ifne 11 d_M_options_1 (by decide) (fun h1 => ?_) (fun h1 => False.elim (ht0 ((nI_eq (by omega) (by omega)).mp (show nI t = nI 0 from h1))))
  refine G_iconst (v := nI 0) d_M_options_11 (by decide) ?_
  refine G_istore_n (ls' := [(2, .int (nI 0)), (0, .ref 38), (1, .int (nI t))]) d_M_options_12 (by decide) rfl ?_
  refine G_iconst (v := nI 0) d_M_options_13 (by decide) ?_
  refine G_istore_n (ls' := [(3, .int (nI 0)), (2, .int (nI 0)), (0, .ref 38), (1, .int (nI t))]) d_M_options_14 (by decide) rfl ?_
  exact l_M_options t (by omega) hS hC k (mC M + 1) 0 (by omega) (by omega)
set_option maxHeartbeats 4000000 in
set_option maxRecDepth 100000 in
theorem c_M_options0 {d : Nat} {K : KC} {M : MC} {o : Nat → Int64} {nc ns : Nat} (m : Nat) (hm : M.1 11 = nI m) {post : mj_O → mj_H → Prop} (k : post (.inl (some (.int (nI (m + 1))))) (hp K M o, nc, ns)) : mj_G y_M_options b_M_options 4 (some .int) [] d none 0 [(0, .ref 38), (1, .int (0 : Int32))] [] (hp K M o, nc, ns) post := by
  refine G_iload_n 1 d_M_options_0 rfl ?_
  refine G_ifne 11 d_M_options_1 (by decide) (fun h1 => False.elim (h1 rfl)) (fun h1 => ?_)
  refine G_aload_n 0 d_M_options_4 rfl ?_
  refine G_gt d_M_options_5 fr_M_119 (rd_M_intMany K M o) ?_
  rw [hm]
  refine G_iconst (v := 1) d_M_options_8 (by decide) ?_
  refine G_iadd d_M_options_9 ?_
  rw [show nI m + 1 = nI (m + 1) from nI_1 m]
  exact G_iret d_M_options_10 rfl k
end
section
/-! which sorts have a value: the greatest set of sorts that is closed -/
def LV (M : MC) (s : Nat) : Prop := ∃ X : Nat → Prop, X s ∧ ∀ t, X t → t < mS M ∧ (t = 0 ∨ ∃ c, c < mC M ∧ cS M c = t ∧ (1 ≤ cP M c → X (cF M c)) ∧ (2 ≤ cP M c → X (cG M c)))
def setL (M : MC) (L : Nat → Int32) : MC := (M.1, va_up M.2 50 L)
theorem setL_ma (M : MC) (L : Nat → Int32) (i : Nat) (v : Int32) : ma (setL M L) 50 i v = setL M (upd L i v) := by
  show ((M.1, va_up (va_up M.2 50 L) 50 (upd ((va_up M.2 50 L) 50) i v)) : MC) = (M.1, va_up M.2 50 (upd L i v))
  rw [bx_uu, va_up_self]
def exL (M : MC) (L : Nat → Int32) (s : Nat) : Prop := ∃ c, c < mC M ∧ cS M c = s ∧ usdD (setL M L) c
def exN (M : MC) (L : Nat → Int32) (s n : Nat) : Prop := ∃ c, c < n ∧ cS M c = s ∧ usdD (setL M L) c
def okJ (M : MC) (L : Nat → Int32) : Prop := (∀ a, a < mS M → L a = 0 ∨ L a = 1) ∧ L 0 = 1 ∧ ∀ a, a < mS M → LV M a → L a = 1
def cntL (M : MC) (L : Nat → Int32) : Nat := ((List.range (mS M)).filter (fun a => decide (L a ≠ 0))).length
theorem flt_le {α : Type} (p q : α → Bool) (l : List α) (h : ∀ x ∈ l, q x = true → p x = true) : (l.filter q).length ≤ (l.filter p).length := by
  induction l with
  | nil => exact Nat.le_refl _
  | cons x l ih =>
    have ih := ih (fun z hz => h z (List.mem_cons_of_mem _ hz))
    have hx := h x List.mem_cons_self
    cases hq : q x with
    | false =>
      rw [List.filter_cons_of_neg (by rw [hq]; decide)]
      cases hp : p x with
      | false => rw [List.filter_cons_of_neg (by rw [hp]; decide)]; exact ih
      | true => rw [List.filter_cons_of_pos hp]; exact Nat.le_succ_of_le ih
    | true => rw [List.filter_cons_of_pos hq, List.filter_cons_of_pos (hx hq)]; exact Nat.succ_le_succ ih
theorem flt_lt {α : Type} (p q : α → Bool) (l : List α) (h : ∀ x ∈ l, q x = true → p x = true) (hx : ∃ x ∈ l, p x = true ∧ q x = false) : (l.filter q).length < (l.filter p).length := by
  induction l with
  | nil => obtain ⟨x, hx, -⟩ := hx; cases hx
  | cons x l ih =>
    have h1 : ∀ z ∈ l, q z = true → p z = true := fun z hz => h z (List.mem_cons_of_mem _ hz)
    have h0 := h x List.mem_cons_self
    obtain ⟨z, hz, hp, hq⟩ := hx
    rcases List.mem_cons.mp hz with rfl | hz
    · rw [List.filter_cons_of_neg (by rw [hq]; decide), List.filter_cons_of_pos hp]
      exact Nat.lt_succ_of_le (flt_le p q l h1)
    · have ih := ih h1 ⟨z, hz, hp, hq⟩
      cases hq : q x with
      | false =>
        rw [List.filter_cons_of_neg (by rw [hq]; decide)]
        cases hp : p x with
        | false => rw [List.filter_cons_of_neg (by rw [hp]; decide)]; exact ih
        | true => rw [List.filter_cons_of_pos hp]; exact Nat.lt_succ_of_lt ih
      | true => rw [List.filter_cons_of_pos hq, List.filter_cons_of_pos (h0 hq)]; exact Nat.succ_lt_succ ih
theorem cnt_strike {M : MC} {L : Nat → Int32} {s : Nat} (hs : s < mS M) (h : L s ≠ 0) : cntL M (upd L s 0) < cntL M L := by
  refine flt_lt _ _ _ (fun x _ hx => ?_) ⟨s, List.mem_range.mpr hs, decide_eq_true h, ?_⟩
  · have hx := of_decide_eq_true hx
    by_cases e : x = s
    · rw [e]; exact decide_eq_true h
    · rw [pk_un e] at hx; exact decide_eq_true hx
  · rw [pk_us]; decide
theorem LV_0 {M : MC} (h : 1 ≤ mS M) : LV M 0 := ⟨fun t => t = 0, rfl, fun t ht => ⟨by omega, Or.inl ht⟩⟩
theorem LV_step {M : MC} {s : Nat} (h : LV M s) : s < mS M ∧ (s = 0 ∨ ∃ c, c < mC M ∧ cS M c = s ∧ (1 ≤ cP M c → LV M (cF M c)) ∧ (2 ≤ cP M c → LV M (cG M c))) := by
  obtain ⟨X, h1, h2⟩ := h
  obtain ⟨h3, h4⟩ := h2 s h1
  refine ⟨h3, h4.imp id ?_⟩
  rintro ⟨c, a1, a2, a3, a4⟩
  exact ⟨c, a1, a2, fun z => ⟨X, a3 z, h2⟩, fun z => ⟨X, a4 z, h2⟩⟩
theorem J_strike {M : MC} {L : Nat → Int32} {s : Nat} (hJ : okJ M L) (hC : wfC M) (h1 : 1 ≤ s) (hn : ¬ exL M L s) : okJ M (upd L s 0) := by
  have hlv : ¬ LV M s := by
    intro h
    obtain ⟨h3, h4⟩ := LV_step h
    rcases h4 with h4 | ⟨c, a1, a2, a3, a4⟩
    · omega
    · have q := hC.2.2 c a1
      have one : ∀ t, LV M t → L t ≠ 0 := fun t ht => by rw [hJ.2.2 t (LV_step ht).1 ht]; decide
      exact hn ⟨c, a1, a2, fun z => one _ (a3 z), fun z => one _ (a4 z)⟩
  refine ⟨fun a ha => ?_, ?_, fun a ha hl => ?_⟩
  · by_cases e : a = s
    · rw [e, pk_us]; exact Or.inl rfl
    · rw [pk_un e]; exact hJ.1 a ha
  · rw [pk_un (by omega)]; exact hJ.2.1
  · by_cases e : a = s
    · rw [e] at hl; exact absurd hl hlv
    · rw [pk_un e]; exact hJ.2.2 a ha hl
theorem J_end {M : MC} {L : Nat → Int32} (hJ : okJ M L) (hC : wfC M) (hc : ∀ a, 1 ≤ a → a < mS M → L a ≠ 0 → exL M L a) : ∀ a, a < mS M → (L a = 1 ∧ LV M a) ∨ (L a = 0 ∧ ¬ LV M a) := by
  have key : ∀ a, a < mS M → L a ≠ 0 → LV M a := fun a ha h => ⟨fun t => t < mS M ∧ L t ≠ 0, ⟨ha, h⟩, fun t ht => by
    refine ⟨ht.1, ?_⟩
    by_cases e : t = 0
    · exact Or.inl e
    · obtain ⟨c, a1, a2, a3, a4⟩ := hc t (by omega) ht.1 ht.2
      have q := hC.2.2 c a1
      exact Or.inr ⟨c, a1, a2, fun z => ⟨(q.2.2.1 z).2, a3 z⟩, fun z => ⟨(q.2.2.2 z).2, a4 z⟩⟩⟩
  intro a ha
  rcases hJ.1 a ha with h | h
  · exact Or.inr ⟨h, fun z => by have := hJ.2.2 a ha z; rw [h] at this; exact absurd this (by decide)⟩
  · exact Or.inl ⟨h, key a ha (by rw [h]; decide)⟩
set_option maxHeartbeats 4000000 in
set_option maxRecDepth 100000 in
theorem l_M_liveD {d : Nat} {K : KC} {M : MC} {o : Nat → Int64} {nc ns : Nat} (L : Nat → Int32) (s : Nat) (mo : Int32) (hS : wfS M) (hC : wfC M) (hs1 : 1 ≤ s) (hs2 : s < mS M) {post : mj_O → mj_H → Prop} (kY : exN M L s (mC M) → mj_G y_M_live b_M_live 5 none [] (d + 1) none 119 [(4, .int (nI (mC M))), (3, .int 1), (2, .int (nI s)), (1, .int mo), (0, .ref 38)] [] (hp K (setL M L) o, nc, ns) post) (kN : ¬ exN M L s (mC M) → mj_G y_M_live b_M_live 5 none [] (d + 1) none 119 [(1, .int 1), (4, .int (nI (mC M))), (3, .int 0), (2, .int (nI s)), (0, .ref 38)] [] (hp K (setL M (upd L s 0)) o, nc, ns) post) : ∀ (n c : Nat) (e : Int32), c ≤ mC M → mC M < c + n → ((e = 1 ∧ exN M L s c) ∨ (e = 0 ∧ ¬ exN M L s c)) → mj_G y_M_live b_M_live 5 none [] (d + 1) none 58 [(4, .int (nI c)), (3, .int e), (2, .int (nI s)), (1, .int mo), (0, .ref 38)] [] (hp K (setL M L) o, nc, ns) post := by
  have hS' := hS
  have hC' := hC
  obtain ⟨-, q1, q2⟩ := hS'
  obtain ⟨e2, q3, q4⟩ := hC'
  intro n
  induction n with
  | zero => intro c e h1 h2; omega
  | succ n ih =>
    intro c e h1 h2 he
    rcases he with ⟨rfl, hx⟩ | ⟨rfl, hx⟩
    · refine G_iload 0 d_M_live_58 rfl ?_
      refine G_aload_n 4 d_M_live_60 rfl ?_
      refine G_gt d_M_live_61 fr_M_97 (rd_M_cons K (setL M L) o) ?_
      rw [show (setL M L).1 2 = nI (mC M) from e2]
      refine G_icge 103 d_M_live_64 (by decide) (fun h64 => ?_) (fun h64 => ?_)
      · have h64 := (nI_leI (by omega) (by omega)).mp h64
        have e9 : c = mC M := by omega
        subst e9
        refine G_iload_n 1 d_M_live_103 rfl ?_
        refine G_ifeq 110 d_M_live_104 (by decide) (fun h => absurd h (by decide)) (fun _ => ?_)
        refine G_goto 119 d_M_live_107 (by decide) ?_
        exact kY hx
      · have h64 : ¬ _ := fun z => h64 ((nI_leI (by omega) (by omega)).mpr z)
        obtain ⟨⟨ec, bc1, bc2⟩, -⟩ := q4 c (by omega)
        refine G_iload_n 1 d_M_live_67 rfl ?_
        refine G_ifne 91 d_M_live_68 (by decide) (fun _ => ?_) (fun h => absurd h (by decide))
        refine G_iconst (v := 1) d_M_live_91 (by decide) ?_
        refine G_goto 96 d_M_live_92 (by decide) ?_
        refine G_istore_n (ls' := [(3, .int 1), (4, .int (nI c)), (2, .int (nI s)), (1, .int mo), (0, .ref 38)]) d_M_live_96 (by decide) rfl ?_
        refine G_iinc 1 (v := nI (c + 1)) (ls' := [(4, .int (nI (c + 1))), (3, .int 1), (2, .int (nI s)), (1, .int mo), (0, .ref 38)]) d_M_live_97 rfl (nI_1 _) (by decide) rfl ?_
        refine G_goto 58 d_M_live_100 (by decide) ?_
        exact ih (c + 1) _ (by omega) (by omega) (Or.inl ⟨rfl, hx.imp (fun _ z => ⟨by omega, z.2⟩)⟩)
    · refine G_iload 0 d_M_live_58 rfl ?_
      refine G_aload_n 4 d_M_live_60 rfl ?_
      refine G_gt d_M_live_61 fr_M_97 (rd_M_cons K (setL M L) o) ?_
      rw [show (setL M L).1 2 = nI (mC M) from e2]
      refine G_icge 103 d_M_live_64 (by decide) (fun h64 => ?_) (fun h64 => ?_)
      · have h64 := (nI_leI (by omega) (by omega)).mp h64
        have e9 : c = mC M := by omega
        subst e9
        refine G_iload_n 1 d_M_live_103 rfl ?_
        refine G_ifeq 110 d_M_live_104 (by decide) (fun _ => ?_) (fun h => absurd h (by decide))
        refine G_aload_n 4 d_M_live_110 rfl ?_
        refine G_gt d_M_live_111 fr_M_47 (rd_M_lives K (setL M L) o) ?_
        refine G_iload_n 2 d_M_live_114 rfl ?_
        refine G_iconst (v := 0) d_M_live_115 (by decide) ?_
        refine G_zasN d_M_live_116 (ar_50 K (setL M L) o) (by decide) (by omega) rfl (aw_50 K (setL M L) o s 0) ?_
        refine G_iconst (v := 1) d_M_live_117 (by decide) ?_
        refine G_istore_n (ls' := [(1, .int 1), (4, .int (nI (mC M))), (3, .int 0), (2, .int (nI s)), (0, .ref 38)]) d_M_live_118 (by decide) rfl ?_
        rw [setL_ma]; exact kN hx
      · have h64 : ¬ _ := fun z => h64 ((nI_leI (by omega) (by omega)).mpr z)
        obtain ⟨⟨ec, bc1, bc2⟩, -⟩ := q4 c (by omega)
        refine G_iload_n 1 d_M_live_67 rfl ?_
        refine G_ifne 91 d_M_live_68 (by decide) (fun h => absurd h (by decide)) (fun _ => ?_)
        refine G_aload_n 4 d_M_live_71 rfl ?_
        refine G_gt d_M_live_72 fr_M_13 (rd_M_conSort K (setL M L) o) ?_
        refine G_iload 0 d_M_live_75 rfl ?_
        refine G_ialN d_M_live_77 (ar_39 K (setL M L) o) (by decide) (by omega) ?_
        rw [show (setL M L).2 39 c = nI (cS M c) from ec]
        refine G_iload_n 2 d_M_live_78 rfl ?_
        refine G_icne 95 d_M_live_79 (by decide) (fun h79 => ?_) (fun h79 => ?_)
        · refine G_iconst (v := 0) d_M_live_95 (by decide) ?_
          refine G_istore_n (ls' := [(3, .int 0), (4, .int (nI c)), (2, .int (nI s)), (1, .int mo), (0, .ref 38)]) d_M_live_96 (by decide) rfl ?_
          refine G_iinc 1 (v := nI (c + 1)) (ls' := [(4, .int (nI (c + 1))), (3, .int 0), (2, .int (nI s)), (1, .int mo), (0, .ref 38)]) d_M_live_97 rfl (nI_1 _) (by decide) rfl ?_
          refine G_goto 58 d_M_live_100 (by decide) ?_
          exact ih (c + 1) _ (by omega) (by omega) (Or.inr ⟨rfl, fun ⟨b, z1, z2⟩ => (Nat.lt_succ_iff_lt_or_eq.mp z1).elim (fun z => hx ⟨b, z, z2⟩) (fun z => by subst z; exact h79 (by rw [z2.1]))⟩)
        · have h79 := (nI_eq (by omega) (by omega)).mp h79
          refine G_aload_n 4 d_M_live_82 rfl ?_
          refine G_iload 0 d_M_live_83 rfl ?_
          refine G_cvB (usdD (setL M L) c) (As := [.int (nI c)]) d_M_live_85 cv_M_113 cw_M_isUsed (ob_M K (setL M L) o) np_M_isUsed (Nat.le_of_ble_eq_true rfl) (Nat.le_of_ble_eq_true rfl) (fun post2 k1 k0 => c_M_isUsed c (show wfS (setL M L) from hS) (show wfC (setL M L) from hC) (show c < mC M by omega) k1 k0) (fun u85 => ?_) (fun u85 => ?_)
          · refine G_ifeq 95 d_M_live_88 (by decide) (fun h => absurd h (by decide)) (fun _ => ?_)
            refine G_iconst (v := 1) d_M_live_91 (by decide) ?_
            refine G_goto 96 d_M_live_92 (by decide) ?_
            refine G_istore_n (ls' := [(3, .int 1), (4, .int (nI c)), (2, .int (nI s)), (1, .int mo), (0, .ref 38)]) d_M_live_96 (by decide) rfl ?_
            refine G_iinc 1 (v := nI (c + 1)) (ls' := [(4, .int (nI (c + 1))), (3, .int 1), (2, .int (nI s)), (1, .int mo), (0, .ref 38)]) d_M_live_97 rfl (nI_1 _) (by decide) rfl ?_
            refine G_goto 58 d_M_live_100 (by decide) ?_
            exact ih (c + 1) _ (by omega) (by omega) (Or.inl ⟨rfl, c, by omega, h79, u85⟩)
          · refine G_ifeq 95 d_M_live_88 (by decide) (fun _ => ?_) (fun h => absurd h (by decide))
            refine G_iconst (v := 0) d_M_live_95 (by decide) ?_
            refine G_istore_n (ls' := [(3, .int 0), (4, .int (nI c)), (2, .int (nI s)), (1, .int mo), (0, .ref 38)]) d_M_live_96 (by decide) rfl ?_
            refine G_iinc 1 (v := nI (c + 1)) (ls' := [(4, .int (nI (c + 1))), (3, .int 0), (2, .int (nI s)), (1, .int mo), (0, .ref 38)]) d_M_live_97 rfl (nI_1 _) (by decide) rfl ?_
            refine G_goto 58 d_M_live_100 (by decide) ?_
            exact ih (c + 1) _ (by omega) (by omega) (Or.inr ⟨rfl, fun ⟨b, z1, z2⟩ => (Nat.lt_succ_iff_lt_or_eq.mp z1).elim (fun z => hx ⟨b, z, z2⟩) (fun z => by subst z; exact u85 z2.2)⟩)
set_option maxHeartbeats 4000000 in
set_option maxRecDepth 100000 in
theorem l_M_liveC {d : Nat} {K : KC} {M : MC} {o : Nat → Int64} {nc ns : Nat} (n0 : Nat) (hS : wfS M) (hC : wfC M) {post : mj_O → mj_H → Prop} (k : ∀ (L : Nat → Int32) (mo : Int32), okJ M L → ((mo = 1 ∧ cntL M L < n0) ∨ (mo = 0 ∧ cntL M L ≤ n0 ∧ ∀ a, 1 ≤ a → a < mS M → L a ≠ 0 → exL M L a)) → mj_G y_M_live b_M_live 5 none [] (d + 1) none 25 [(2, .int (nI (mS M))), (1, .int mo), (0, .ref 38)] [] (hp K (setL M L) o, nc, ns) post) : ∀ (n s : Nat) (L : Nat → Int32) (mo : Int32), 1 ≤ s → s ≤ mS M → mS M < s + n → okJ M L → ((mo = 1 ∧ cntL M L < n0) ∨ (mo = 0 ∧ cntL M L ≤ n0 ∧ ∀ a, 1 ≤ a → a < s → L a ≠ 0 → exL M L a)) → mj_G y_M_live b_M_live 5 none [] (d + 1) none 33 [(2, .int (nI s)), (1, .int mo), (0, .ref 38)] [] (hp K (setL M L) o, nc, ns) post := by
  have hS' := hS
  have hC' := hC
  obtain ⟨e1, q1, q2⟩ := hS'
  obtain ⟨e2, q3, q4⟩ := hC'
  intro n
  induction n with
  | zero => intro s L mo h0 h1 h2; omega
  | succ n ih =>
    intro s L mo h0 h1 h2 hJ hmo
    refine G_iload_n 0 d_M_live_33 rfl ?_
    refine G_aload_n 2 d_M_live_34 rfl ?_
    refine G_gt d_M_live_35 fr_M_7 (rd_M_sorts K (setL M L) o) ?_
    rw [show (setL M L).1 1 = nI (mS M) from e1]
    refine G_icge 125 d_M_live_38 (by decide) (fun h38 => ?_) (fun h38 => ?_)
    · have h38 := (nI_leI (by omega) (by omega)).mp h38
      have e9 : s = mS M := by omega
      subst e9
      refine G_goto 25 d_M_live_125 (by decide) ?_
      exact k L mo hJ hmo
    · have h38 : ¬ _ := fun z => h38 ((nI_leI (by omega) (by omega)).mpr z)
      refine G_aload_n 2 d_M_live_41 rfl ?_
      refine G_gt d_M_live_42 fr_M_47 (rd_M_lives K (setL M L) o) ?_
      refine G_iload_n 0 d_M_live_45 rfl ?_
      refine G_zalN d_M_live_46 (ar_50 K (setL M L) o) (by decide) (by omega) ?_
      refine G_ifne 53 d_M_live_47 (by decide) (fun h47 => ?_) (fun h47 => ?_)
      · refine G_iconst (v := 0) d_M_live_53 (by decide) ?_
        refine G_istore_n (ls' := [(3, .int 0), (2, .int (nI s)), (1, .int mo), (0, .ref 38)]) d_M_live_54 (by decide) rfl ?_
        refine G_iconst (v := nI 0) d_M_live_55 (by decide) ?_
        refine G_istore (ls' := [(4, .int (nI 0)), (3, .int 0), (2, .int (nI s)), (1, .int mo), (0, .ref 38)]) d_M_live_56 (by decide) rfl ?_
        refine l_M_liveD L s mo hS hC h0 (by omega) (fun z => ?_) (fun z => ?_) (mC M + 1) 0 0 (by omega) (by omega) (Or.inr ⟨rfl, fun ⟨b, z1, _⟩ => absurd z1 (Nat.not_lt_zero b)⟩)
        · refine G_iinc 2 (v := nI (s + 1)) (ls' := [(2, .int (nI (s + 1))), (4, .int (nI (mC M))), (3, .int 1), (1, .int mo), (0, .ref 38)]) d_M_live_119 rfl (nI_1 _) (by decide) rfl ?_
          refine G_goto 33 d_M_live_122 (by decide) ?_
          exact G_sub [0, 3, 4] rfl (ih (s + 1) L mo (by omega) (by omega) (by omega) hJ (hmo.imp id (fun z2 => ⟨z2.1, z2.2.1, fun a a1 a2 a3 => (Nat.lt_succ_iff_lt_or_eq.mp a2).elim (fun q => z2.2.2 a a1 q a3) (fun q => by subst q; exact z)⟩)))
        · refine G_iinc 3 (v := nI (s + 1)) (ls' := [(2, .int (nI (s + 1))), (1, .int 1), (4, .int (nI (mC M))), (3, .int 0), (0, .ref 38)]) d_M_live_119 rfl (nI_1 _) (by decide) rfl ?_
          refine G_goto 33 d_M_live_122 (by decide) ?_
          exact G_sub [0, 1, 4] rfl (ih (s + 1) (upd L s 0) 1 (by omega) (by omega) (by omega) (J_strike hJ hC h0 z) (Or.inl ⟨rfl, by have := cnt_strike (M := M) (L := L) (s := s) (by omega) h47; rcases hmo with q | q <;> omega⟩))
      · refine G_goto 119 d_M_live_50 (by decide) ?_
        refine G_iinc 0 (v := nI (s + 1)) (ls' := [(2, .int (nI (s + 1))), (1, .int mo), (0, .ref 38)]) d_M_live_119 rfl (nI_1 _) (by decide) rfl ?_
        refine G_goto 33 d_M_live_122 (by decide) ?_
        exact ih (s + 1) L mo (by omega) (by omega) (by omega) hJ (hmo.imp id (fun z => ⟨z.1, z.2.1, fun a a1 a2 a3 => (Nat.lt_succ_iff_lt_or_eq.mp a2).elim (fun q => z.2.2 a a1 q a3) (fun q => by subst q; exact absurd h47 a3)⟩))
set_option maxHeartbeats 4000000 in
set_option maxRecDepth 100000 in
theorem l_M_live0 {d : Nat} {K : KC} {M : MC} {o : Nat → Int64} {nc ns : Nat} (L : Nat → Int32) {post : mj_O → mj_H → Prop} (k : post (.inl none) (hp K (setL M L) o, nc, ns)) : mj_G y_M_live b_M_live 5 none [] (d + 1) none 25 [(2, .int (nI (mS M))), (1, .int 0), (0, .ref 38)] [] (hp K (setL M L) o, nc, ns) post := by
  refine G_iload_n 1 d_M_live_25 rfl ?_
  refine G_ifeq 128 d_M_live_26 (by decide) (fun _ => ?_) (fun h => absurd h (by decide))
  exact G_ret d_M_live_128 rfl k
set_option maxHeartbeats 4000000 in
set_option maxRecDepth 100000 in
theorem l_M_liveB {d : Nat} {K : KC} {M : MC} {o : Nat → Int64} {nc ns : Nat} (hS : wfS M) (hC : wfC M) {post : mj_O → mj_H → Prop} (k : ∀ L : Nat → Int32, (∀ a, a < mS M → (L a = 1 ∧ LV M a) ∨ (L a = 0 ∧ ¬ LV M a)) → post (.inl none) (hp K (setL M L) o, nc, ns)) : ∀ (n : Nat) (L : Nat → Int32), cntL M L < n → okJ M L → mj_G y_M_live b_M_live 5 none [] (d + 1) none 25 [(1, .int 1), (0, .ref 38)] [] (hp K (setL M L) o, nc, ns) post := by
  have hS' := hS
  obtain ⟨e1, q1, q2⟩ := hS'
  intro n
  induction n with
  | zero => intro L h; omega
  | succ n ih =>
    intro L hn hJ
    refine G_iload_n 0 d_M_live_25 rfl ?_
    refine G_ifeq 128 d_M_live_26 (by decide) (fun h => absurd h (by decide)) (fun _ => ?_)
    refine G_iconst (v := 0) d_M_live_29 (by decide) ?_
    refine G_istore_n (ls' := [(1, .int 0), (0, .ref 38)]) d_M_live_30 (by decide) rfl ?_
    refine G_iconst (v := nI 1) d_M_live_31 (by decide) ?_
    refine G_istore_n (ls' := [(2, .int (nI 1)), (1, .int 0), (0, .ref 38)]) d_M_live_32 (by decide) rfl ?_
    refine l_M_liveC (cntL M L) hS hC (fun L2 mo2 hJ2 hm2 => ?_) (mS M + 1) 1 L 0 (by omega) (by omega) (by omega) hJ (Or.inr ⟨rfl, Nat.le_refl _, fun a a1 a2 => by omega⟩)
    rcases hm2 with ⟨rfl, hm⟩ | ⟨rfl, -, hm⟩
    · exact G_sub [1, 2] rfl (ih L2 (by omega) hJ2)
    · exact l_M_live0 L2 (k L2 (J_end hJ2 hC hm))
set_option maxHeartbeats 4000000 in
set_option maxRecDepth 100000 in
theorem l_M_liveA {d : Nat} {K : KC} {M : MC} {o : Nat → Int64} {nc ns : Nat} (hS : wfS M) {post : mj_O → mj_H → Prop} (k : ∀ L : Nat → Int32, (∀ a, a < mS M → L a = 1) → mj_G y_M_live b_M_live 5 none [] (d + 1) none 25 [(1, .int 1), (0, .ref 38)] [] (hp K (setL M L) o, nc, ns) post) : ∀ (n i : Nat) (L : Nat → Int32), i ≤ mS M → mS M < i + n → (∀ a, a < i → L a = 1) → mj_G y_M_live b_M_live 5 none [] (d + 1) none 2 [(1, .int (nI i)), (0, .ref 38)] [] (hp K (setL M L) o, nc, ns) post := by
  have hS' := hS
  obtain ⟨e1, q1, q2⟩ := hS'
  intro n
  induction n with
  | zero => intro i L h1 h2; omega
  | succ n ih =>
    intro i L h1 h2 h3
    refine G_iload_n 0 d_M_live_2 rfl ?_
    refine G_aload_n 1 d_M_live_3 rfl ?_
    refine G_gt d_M_live_4 fr_M_7 (rd_M_sorts K (setL M L) o) ?_
    rw [show (setL M L).1 1 = nI (mS M) from e1]
    refine G_icge 23 d_M_live_7 (by decide) (fun h7 => ?_) (fun h7 => ?_)
    · have h7 := (nI_leI (by omega) (by omega)).mp h7
      refine G_iconst (v := 1) d_M_live_23 (by decide) ?_
      refine G_istore_n (ls' := [(1, .int 1), (0, .ref 38)]) d_M_live_24 (by decide) rfl ?_
      exact k L (fun a ha => h3 a (by omega))
    · have h7 : ¬ _ := fun z => h7 ((nI_leI (by omega) (by omega)).mpr z)
      refine G_aload_n 1 d_M_live_10 rfl ?_
      refine G_gt d_M_live_11 fr_M_47 (rd_M_lives K (setL M L) o) ?_
      refine G_iload_n 0 d_M_live_14 rfl ?_
      refine G_iconst (v := 1) d_M_live_15 (by decide) ?_
      refine G_zasN d_M_live_16 (ar_50 K (setL M L) o) (by decide) (by omega) rfl (aw_50 K (setL M L) o i 1) ?_
      rw [setL_ma]
      refine G_iinc 0 (v := nI (i + 1)) (ls' := [(1, .int (nI (i + 1))), (0, .ref 38)]) d_M_live_17 rfl (nI_1 _) (by decide) rfl ?_
      refine G_goto 2 d_M_live_20 (by decide) ?_
      exact ih (i + 1) (upd L i 1) (by omega) (by omega) (fun a ha => if e : a = i then by rw [e, pk_us] else by rw [pk_un e]; exact h3 a (by omega))
theorem setL_self (M : MC) : setL M (M.2 50) = M := by
  have e : va_up M.2 50 (M.2 50) = M.2 := funext fun z => by
    by_cases h : z = 50
    · rw [h, va_up_self]
    · rw [va_up_ne _ _ h]
  show ((M.1, va_up M.2 50 (M.2 50)) : MC) = M
  rw [e]
theorem setL_id {K : KC} {o : Nat → Int64} (M : MC) : hp K M o = hp K (setL M (M.2 50)) o := by rw [setL_self]
set_option maxHeartbeats 4000000 in
set_option maxRecDepth 100000 in
theorem c_M_live {d : Nat} {K : KC} {M : MC} {o : Nat → Int64} {nc ns : Nat} (hS : wfS M) (hC : wfC M) {post : mj_O → mj_H → Prop} (k : ∀ L : Nat → Int32, (∀ a, a < mS M → (L a = 1 ∧ LV M a) ∨ (L a = 0 ∧ ¬ LV M a)) → post (.inl none) (hp K (setL M L) o, nc, ns)) : mj_G y_M_live b_M_live 5 none [] (d + 1) none 0 [(0, .ref 38)] [] (hp K M o, nc, ns) post := by
  refine G_iconst (v := nI 0) d_M_live_0 (by decide) ?_
  refine G_istore_n (ls' := [(1, .int (nI 0)), (0, .ref 38)]) d_M_live_1 (by decide) rfl ?_
  rw [setL_id M]
  refine l_M_liveA (M := M) hS (fun L hL => ?_) (mS M + 1) 0 (M.2 50) (by omega) (by omega) lt_0
  exact l_M_liveB hS hC k (cntL M L + 1) L (by omega) ⟨fun a ha => Or.inr (hL a ha), hL 0 (by have := hS.2.1; omega), fun a ha _ => hL a ha⟩
end
section
abbrev pk (M : MC) (p : Nat) : Nat := (M.2 43 p).toNatClampNeg
abbrev ps (M : MC) (p : Nat) : Nat := (M.2 44 p).toNatClampNeg
abbrev pn (M : MC) (p : Nat) : Nat := (M.2 45 p).toNatClampNeg
abbrev pf (M : MC) (p : Nat) : Nat := (M.2 46 p).toNatClampNeg
abbrev pg (M : MC) (p : Nat) : Nat := (M.2 47 p).toNatClampNeg
abbrev pd (M : MC) (p : Nat) : Nat := (M.2 48 p).toNatClampNeg
def okP (M : MC) (p : Nat) : Prop := (M.2 43 p = nI (pk M p) ∧ pk M p ≤ 2) ∧ (M.2 44 p = nI (ps M p) ∧ ps M p < mS M) ∧ (M.2 48 p = nI (pd M p) ∧ pd M p ≤ 12) ∧ (pk M p = 0 → pd M p = 0) ∧ (pk M p = 1 → ps M p = 0 ∧ pd M p = 1) ∧
  (pk M p = 2 → (M.2 45 p = nI (pn M p) ∧ pn M p < mC M ∧ ps M p = cS M (pn M p)) ∧ (1 ≤ cP M (pn M p) → M.2 46 p = nI (pf M p) ∧ pf M p < p ∧ ps M (pf M p) = cF M (pn M p)) ∧ (2 ≤ cP M (pn M p) → M.2 47 p = nI (pg M p) ∧ pg M p < p ∧ ps M (pg M p) = cG M (pn M p)) ∧
    pd M p = 1 + (if 1 ≤ cP M (pn M p) then pd M (pf M p) else 0) + (if 2 ≤ cP M (pn M p) then pd M (pg M p) else 0))
def wfP (M : MC) : Prop := M.1 3 = nI (mP M) ∧ mP M ≤ 200 ∧ ∀ p, p < mP M → okP M p
abbrev nK (M : MC) (v : Nat) : Nat := (M.2 51 v).toNatClampNeg
abbrev nS (M : MC) (v : Nat) : Nat := (M.2 52 v).toNatClampNeg
abbrev nW (M : MC) (v : Nat) : Nat := (M.2 53 v).toNatClampNeg
abbrev nF (M : MC) (v : Nat) : Nat := (M.2 54 v).toNatClampNeg
abbrev nG (M : MC) (v : Nat) : Nat := (M.2 55 v).toNatClampNeg
abbrev nN (M : MC) : Nat := (M.1 6).toNatClampNeg
def okN (M : MC) (v : Nat) : Prop := (M.2 51 v = nI (nK M v) ∧ nK M v ≤ 3) ∧ (M.2 52 v = nI (nS M v) ∧ nS M v < mS M) ∧ (nK M v = 1 → nS M v = 0) ∧ (nK M v = 3 → nS M v = 0) ∧
  (nK M v = 2 → (M.2 53 v = nI (nW M v) ∧ nW M v < mC M ∧ nS M v = cS M (nW M v)) ∧ (1 ≤ cP M (nW M v) → M.2 54 v = nI (nF M v) ∧ nF M v < nN M ∧ nS M (nF M v) = cF M (nW M v)) ∧ (2 ≤ cP M (nW M v) → M.2 55 v = nI (nG M v) ∧ nG M v < nN M ∧ nS M (nG M v) = cG M (nW M v)))
def wfN (M : MC) : Prop := M.1 6 = nI (nN M) ∧ nN M ≤ 270 ∧ ∀ v, v < nN M → okN M v
/-- what the reference's fit answers: 0 no, 1 yes, 2 a hole (and which) -/
def fitR (M : MC) : Nat → Nat → Nat → Nat × Nat
  | 0, _, _ => (0, 0)
  | f + 1, p, v => if pk M p = 0 then (1, 0) else if nK M v = 0 then (2, v) else if pk M p = 1 then (if nK M v = 1 ∧ M.2 53 v = M.2 45 p then (1, 0) else (0, 0)) else if ¬ M.2 53 v = M.2 45 p then (0, 0) else
      if cP M (pn M p) < 1 then (1, 0) else if (fitR M f (pf M p) (nF M v)).1 ≠ 1 ∨ cP M (pn M p) < 2 then fitR M f (pf M p) (nF M v) else fitR M f (pg M p) (nG M v)
theorem fitR_s (M : MC) (f p v : Nat) : fitR M (f + 1) p v = if pk M p = 0 then (1, 0) else if nK M v = 0 then (2, v) else if pk M p = 1 then (if nK M v = 1 ∧ M.2 53 v = M.2 45 p then (1, 0) else (0, 0)) else if ¬ M.2 53 v = M.2 45 p then (0, 0) else
      if cP M (pn M p) < 1 then (1, 0) else if (fitR M f (pf M p) (nF M v)).1 ≠ 1 ∨ cP M (pn M p) < 2 then fitR M f (pf M p) (nF M v) else fitR M f (pg M p) (nG M v) := rfl
theorem fitR_le (M : MC) : ∀ f p v, (fitR M f p v).1 ≤ 2 := by
  intro f
  induction f with
  | zero => intro p v; exact Nat.zero_le _
  | succ f ih =>
    intro p v
    rw [fitR_s]
    repeat' split
    all_goals first | exact ih _ _ | exact Nat.le_refl _ | exact Nat.zero_le _ | exact (by decide : 1 ≤ 2)
set_option maxHeartbeats 4000000 in
set_option maxRecDepth 100000 in
theorem c_M_fit {K : KC} {M : MC} {o : Nat → Int64} {nc ns : Nat} (hS : wfS M) (hC : wfC M) (hP : wfP M) (hN : wfN M) : ∀ (f p v d : Nat) {post : mj_O → mj_H → Prop}, p < mP M → v < nN M → nS M v = ps M p → pd M p < f → pd M p ≤ d → ((fitR M f p v).1 ≠ 2 → post (.inl (some (.int (nI (fitR M f p v).1)))) (hp K M o, nc, ns)) → ((fitR M f p v).1 = 2 → post (.inl (some (.int (nI 2)))) (hp K (mi M 8 (nI (fitR M f p v).2)) o, nc, ns)) → mj_G y_M_fit b_M_fit 5 (some .int) [] d none 0 [(0, .ref 38), (1, .int (nI p)), (2, .int (nI v))] [] (hp K M o, nc, ns) post := by
  have hS' := hS
  have hC' := hC
  have hP' := hP
  have hN' := hN
  obtain ⟨e1S, q1, q2⟩ := hS'
  obtain ⟨e2, q3, q4⟩ := hC'
  obtain ⟨-, p1, p2⟩ := hP'
  obtain ⟨-, n1, n2⟩ := hN'
  intro f
  induction f with
  | zero => intro p v d post h1 h2 h3 h4; omega
  | succ f ih =>
    intro p v d post hpp hv hsv hf hd k1 k2
    obtain ⟨⟨e43, b43⟩, ⟨e44, b44⟩, ⟨e48, b48⟩, wP4, wP5, wP6⟩ := p2 p hpp
    obtain ⟨⟨e51, b51⟩, ⟨e52, b52⟩, wN3, wN4, wN5⟩ := n2 v hv
    refine G_aload_n 0 d_M_fit_0 rfl ?_
    refine G_gt d_M_fit_1 fr_M_26 (rd_M_kind K M o) ?_
    refine G_iload_n 1 d_M_fit_4 rfl ?_
    refine G_ialN d_M_fit_5 (ar_43 K M o) (by decide) (by omega) ?_
    rw [e43]
    refine G_ifne 11 d_M_fit_6 (by decide) (fun h6 => ?_) (fun h6 => ?_)
    · have e0 : ¬ pk M p = 0 := fun z => h6 (by rw [z]; rfl)
      refine G_aload_n 0 d_M_fit_11 rfl ?_
      refine G_gt d_M_fit_12 fr_M_51 (rd_M_nodeKind K M o) ?_
      refine G_iload_n 2 d_M_fit_15 rfl ?_
      refine G_ialN d_M_fit_16 (ar_51 K M o) (by decide) (by omega) ?_
      rw [e51]
      refine G_ifne 27 d_M_fit_17 (by decide) (fun h17 => ?_) (fun h17 => ?_)
      · have e1 : ¬ nK M v = 0 := fun z => h17 (by rw [z]; rfl)
        refine G_aload_n 0 d_M_fit_27 rfl ?_
        refine G_gt d_M_fit_28 fr_M_26 (rd_M_kind K M o) ?_
        refine G_iload_n 1 d_M_fit_31 rfl ?_
        refine G_ialN d_M_fit_32 (ar_43 K M o) (by decide) (by omega) ?_
        rw [e43]
        refine G_iconst (v := nI 1) d_M_fit_33 (by decide) ?_
        refine G_icne 68 d_M_fit_34 (by decide) (fun h34 => ?_) (fun h34 => ?_)
        · have e2 : ¬ pk M p = 1 := fun z => h34 (by rw [z])
          have hk2 : pk M p = 2 := by omega
          obtain ⟨⟨e45, b45, s45⟩, mF, mG, dd⟩ := wP6 hk2
          obtain ⟨-, ⟨e40, b40⟩, -⟩ := q4 (pn M p) b45
          have hcs := (q4 (pn M p) b45).1.2.1
          have hn2 : nK M v = 2 := by
            rcases (show nK M v = 1 ∨ nK M v = 2 ∨ nK M v = 3 by omega) with z | z | z
            · have := wN3 z; omega
            · exact z
            · have := wN4 z; omega
          obtain ⟨⟨e53, b53, s53⟩, wF, wG⟩ := wN5 hn2
          obtain ⟨d, rfl⟩ : ∃ d2, d = d2 + 1 := ⟨d - 1, by omega⟩
          refine G_aload_n 0 d_M_fit_68 rfl ?_
          refine G_gt d_M_fit_69 fr_M_57 (rd_M_nodeWhat K M o) ?_
          refine G_iload_n 2 d_M_fit_72 rfl ?_
          refine G_ialN d_M_fit_73 (ar_53 K M o) (by decide) (by omega) ?_
          refine G_aload_n 0 d_M_fit_74 rfl ?_
          refine G_gt d_M_fit_75 fr_M_32 (rd_M_what K M o) ?_
          refine G_iload_n 1 d_M_fit_78 rfl ?_
          refine G_ialN d_M_fit_79 (ar_45 K M o) (by decide) (by omega) ?_
          refine G_iceq 85 d_M_fit_80 (by decide) (fun h80 => ?_) (fun h80 => ?_)
          · have e3 : M.2 53 v = M.2 45 p := h80
            have e33 : pn M p = nW M v := by show (M.2 45 p).toNatClampNeg = (M.2 53 v).toNatClampNeg; rw [e3]
            refine G_aload_n 0 d_M_fit_85 rfl ?_
            refine G_gt d_M_fit_86 fr_M_17 (rd_M_conParts K M o) ?_
            refine G_aload_n 0 d_M_fit_89 rfl ?_
            refine G_gt d_M_fit_90 fr_M_32 (rd_M_what K M o) ?_
            refine G_iload_n 1 d_M_fit_93 rfl ?_
            refine G_ialN d_M_fit_94 (ar_45 K M o) (by decide) (by omega) ?_
            rw [e45]
            refine G_ialN d_M_fit_95 (ar_40 K M o) (by decide) (by omega) ?_
            rw [e40]
            refine G_istore_n (ls' := [(3, .int (nI (cP M (pn M p)))), (0, .ref 38), (1, .int (nI p)), (2, .int (nI v))]) d_M_fit_96 (by decide) rfl ?_
            refine G_iload_n 0 d_M_fit_97 rfl ?_
            refine G_iconst (v := nI 1) d_M_fit_98 (by decide) ?_
            refine G_icge 106 d_M_fit_99 (by decide) (fun h99 => ?_) (fun h99 => ?_)
            · have h99 := (nI_leI (by omega) (by omega)).mp h99
              have e4 : ¬ cP M (pn M p) < 1 := by omega
              obtain ⟨f1, f2, f3⟩ := mF (by omega)
              obtain ⟨f4, f5, f6⟩ := wF (by rw [← e33]; omega)
              rw [if_pos (show 1 ≤ cP M (pn M p) by omega)] at dd
              rw [← e33] at f6
              refine G_aload_n 1 d_M_fit_106 rfl ?_
              refine G_aload_n 1 d_M_fit_107 rfl ?_
              refine G_gt d_M_fit_108 fr_M_35 (rd_M_first K M o) ?_
              refine G_iload_n 2 d_M_fit_111 rfl ?_
              refine G_ialN d_M_fit_112 (ar_46 K M o) (by decide) (by omega) ?_
              rw [f1]
              refine G_aload_n 1 d_M_fit_113 rfl ?_
              refine G_gt d_M_fit_114 fr_M_60 (rd_M_nodeFirst K M o) ?_
              refine G_iload_n 3 d_M_fit_117 rfl ?_
              refine G_ialN d_M_fit_118 (ar_54 K M o) (by decide) (by omega) ?_
              rw [f4]
              refine G_cvp (fun a9 A9 => ((fitR M f (pf M p) (nF M v)).1 ≠ 2 ∧ a9 = some (.int (nI (fitR M f (pf M p) (nF M v)).1)) ∧ A9 = (hp K M o, nc, ns)) ∨ ((fitR M f (pf M p) (nF M v)).1 = 2 ∧ a9 = some (.int (nI 2)) ∧ A9 = (hp K (mi M 8 (nI (fitR M f (pf M p) (nF M v)).2)) o, nc, ns))) (As := [.int (nI (pf M p)), .int (nI (nF M v))]) d_M_fit_119 cv_M_132 cw_M_fit (ob_M K M o) np_M_fit (Nat.le_of_ble_eq_true rfl) (Nat.le_of_ble_eq_true rfl) (fun post2 kk => ih (pf M p) (nF M v) d (by omega) (by omega) (by omega) (by omega) (by omega) (fun z => kk _ _ (Or.inl ⟨z, rfl, rfl⟩)) (fun z => kk _ _ (Or.inr ⟨z, rfl, rfl⟩))) (fun a9 A9 h9 => by rcases h9 with ⟨-, -, rfl⟩ | ⟨-, -, rfl⟩ <;> rfl) (fun a9 A9 h9 => ?_)
              have hle119 := fitR_le M f (pf M p) (nF M v)
              rcases h9 with ⟨z119, rfl, rfl⟩ | ⟨z119, rfl, rfl⟩
              · refine G_istore (ls' := [(4, .int (nI (fitR M f (pf M p) (nF M v)).1)), (3, .int (nI (cP M (pn M p)))), (0, .ref 38), (1, .int (nI p)), (2, .int (nI v))]) d_M_fit_122 (by decide) rfl ?_
                refine G_iload 0 d_M_fit_124 rfl ?_
                refine G_iconst (v := nI 1) d_M_fit_126 (by decide) ?_
                refine G_icne 135 d_M_fit_127 (by decide) (fun h127 => ?_) (fun h127 => ?_)
                · have h127 : (fitR M f (pf M p) (nF M v)).1 ≠ 1 := fun z => h127 (by rw [z])
                  have er : fitR M (f + 1) p v = (fitR M f (pf M p) (nF M v)) := by rw [fitR_s, if_neg e0, if_neg e1, if_neg e2, if_neg (fun z => z e3), if_neg e4, if_pos (Or.inl h127)]
                  rw [er] at k1
                  refine G_iload 0 d_M_fit_135 rfl ?_
                  refine G_goto 156 d_M_fit_137 (by decide) ?_
                  exact G_iret d_M_fit_156 rfl (k1 z119)
                · have h127 : (fitR M f (pf M p) (nF M v)).1 = 1 := (nI_eq (by omega) (by omega)).mp h127
                  refine G_iload_n 1 d_M_fit_130 rfl ?_
                  refine G_iconst (v := nI 2) d_M_fit_131 (by decide) ?_
                  refine G_icge 140 d_M_fit_132 (by decide) (fun h132 => ?_) (fun h132 => ?_)
                  · have h132 := (nI_leI (by omega) (by omega)).mp h132
                    obtain ⟨g1, g2, g3⟩ := mG (by omega)
                    obtain ⟨g4, g5, g6⟩ := wG (by rw [← e33]; omega)
                    rw [if_pos (show 2 ≤ cP M (pn M p) by omega)] at dd
                    rw [← e33] at g6
                    refine G_aload_n 2 d_M_fit_140 rfl ?_
                    refine G_aload_n 2 d_M_fit_141 rfl ?_
                    refine G_gt d_M_fit_142 fr_M_38 (rd_M_second K M o) ?_
                    refine G_iload_n 3 d_M_fit_145 rfl ?_
                    refine G_ialN d_M_fit_146 (ar_47 K M o) (by decide) (by omega) ?_
                    rw [g1]
                    refine G_aload_n 2 d_M_fit_147 rfl ?_
                    refine G_gt d_M_fit_148 fr_M_63 (rd_M_nodeSecond K M o) ?_
                    refine G_iload_n 4 d_M_fit_151 rfl ?_
                    refine G_ialN d_M_fit_152 (ar_55 K M o) (by decide) (by omega) ?_
                    rw [g4]
                    refine G_cvp (fun a9 A9 => ((fitR M f (pg M p) (nG M v)).1 ≠ 2 ∧ a9 = some (.int (nI (fitR M f (pg M p) (nG M v)).1)) ∧ A9 = (hp K M o, nc, ns)) ∨ ((fitR M f (pg M p) (nG M v)).1 = 2 ∧ a9 = some (.int (nI 2)) ∧ A9 = (hp K (mi M 8 (nI (fitR M f (pg M p) (nG M v)).2)) o, nc, ns))) (As := [.int (nI (pg M p)), .int (nI (nG M v))]) d_M_fit_153 cv_M_132 cw_M_fit (ob_M K M o) np_M_fit (Nat.le_of_ble_eq_true rfl) (Nat.le_of_ble_eq_true rfl) (fun post2 kk => ih (pg M p) (nG M v) d (by omega) (by omega) (by omega) (by omega) (by omega) (fun z => kk _ _ (Or.inl ⟨z, rfl, rfl⟩)) (fun z => kk _ _ (Or.inr ⟨z, rfl, rfl⟩))) (fun a9 A9 h9 => by rcases h9 with ⟨-, -, rfl⟩ | ⟨-, -, rfl⟩ <;> rfl) (fun a9 A9 h9 => ?_)
                    have hle153 := fitR_le M f (pg M p) (nG M v)
                    rcases h9 with ⟨z153, rfl, rfl⟩ | ⟨z153, rfl, rfl⟩
                    · exact G_iret d_M_fit_156 rfl (by rw [show fitR M (f + 1) p v = (fitR M f (pg M p) (nG M v)) from by rw [fitR_s, if_neg e0, if_neg e1, if_neg e2, if_neg (fun z => z e3), if_neg e4, if_neg (fun z => z.elim (fun z => z h127) (fun z => by omega))]] at k1; exact k1 z153)
                    · exact G_iret d_M_fit_156 rfl (by rw [show fitR M (f + 1) p v = (fitR M f (pg M p) (nG M v)) from by rw [fitR_s, if_neg e0, if_neg e1, if_neg e2, if_neg (fun z => z e3), if_neg e4, if_neg (fun z => z.elim (fun z => z h127) (fun z => by omega))]] at k2; exact k2 z153)
                  · have h132 : ¬ _ := fun z => h132 ((nI_leI (by omega) (by omega)).mpr z)
                    have er : fitR M (f + 1) p v = (fitR M f (pf M p) (nF M v)) := by rw [fitR_s, if_neg e0, if_neg e1, if_neg e2, if_neg (fun z => z e3), if_neg e4, if_pos (Or.inr (by omega))]
                    rw [er] at k1
                    refine G_iload 0 d_M_fit_135 rfl ?_
                    refine G_goto 156 d_M_fit_137 (by decide) ?_
                    exact G_iret d_M_fit_156 rfl (k1 z119)
              · refine G_istore (ls' := [(4, .int (nI 2)), (3, .int (nI (cP M (pn M p)))), (0, .ref 38), (1, .int (nI p)), (2, .int (nI v))]) d_M_fit_122 (by decide) rfl ?_
                refine G_iload 0 d_M_fit_124 rfl ?_
                refine G_iconst (v := nI 1) d_M_fit_126 (by decide) ?_
                refine G_icne 135 d_M_fit_127 (by decide) (fun h127 => ?_) (fun h127 => ?_)
                · have er : fitR M (f + 1) p v = (fitR M f (pf M p) (nF M v)) := by rw [fitR_s, if_neg e0, if_neg e1, if_neg e2, if_neg (fun z => z e3), if_neg e4, if_pos (Or.inl (by rw [z119]; decide))]
                  rw [er] at k2
                  refine G_iload 0 d_M_fit_135 rfl ?_
                  refine G_goto 156 d_M_fit_137 (by decide) ?_
                  exact G_iret d_M_fit_156 rfl (k2 z119)
                · exact absurd h127 (by decide)
            · have h99 : ¬ _ := fun z => h99 ((nI_leI (by omega) (by omega)).mpr z)
              have e4 : cP M (pn M p) < 1 := by omega
              have er : fitR M (f + 1) p v = (1, 0) := by rw [fitR_s, if_neg e0, if_neg e1, if_neg e2, if_neg (fun z => z e3), if_pos e4]
              rw [er] at k1
              refine G_iconst (v := nI 1) d_M_fit_102 (by decide) ?_
              refine G_goto 122 d_M_fit_103 (by decide) ?_
              refine G_istore (ls' := [(4, .int (nI 1)), (3, .int (nI (cP M (pn M p)))), (0, .ref 38), (1, .int (nI p)), (2, .int (nI v))]) d_M_fit_122 (by decide) rfl ?_
              refine G_iload 0 d_M_fit_124 rfl ?_
              refine G_iconst (v := nI 1) d_M_fit_126 (by decide) ?_
              refine G_icne 135 d_M_fit_127 (by decide) (fun h127 => ?_) (fun h127 => ?_)
              · exact absurd rfl h127
              · refine G_iload_n 1 d_M_fit_130 rfl ?_
                refine G_iconst (v := nI 2) d_M_fit_131 (by decide) ?_
                refine G_icge 140 d_M_fit_132 (by decide) (fun h132 => ?_) (fun h132 => ?_)
                · have h132 := (nI_leI (by omega) (by omega)).mp h132
                  exact absurd h132 (by omega)
                · refine G_iload 0 d_M_fit_135 rfl ?_
                  refine G_goto 156 d_M_fit_137 (by decide) ?_
                  exact G_iret d_M_fit_156 rfl (k1 (by decide))
          · have er : fitR M (f + 1) p v = (0, 0) := by rw [fitR_s, if_neg e0, if_neg e1, if_neg e2, if_pos h80]
            rw [er] at k1
            refine G_iconst (v := nI 0) d_M_fit_83 (by decide) ?_
            exact G_iret d_M_fit_84 rfl (k1 (by decide))
        · have e2 : pk M p = 1 := (nI_eq (by omega) (by omega)).mp h34
          refine G_aload_n 0 d_M_fit_37 rfl ?_
          refine G_gt d_M_fit_38 fr_M_51 (rd_M_nodeKind K M o) ?_
          refine G_iload_n 2 d_M_fit_41 rfl ?_
          refine G_ialN d_M_fit_42 (ar_51 K M o) (by decide) (by omega) ?_
          rw [e51]
          refine G_iconst (v := nI 1) d_M_fit_43 (by decide) ?_
          refine G_icne 66 d_M_fit_44 (by decide) (fun h44 => ?_) (fun h44 => ?_)
          · have er : fitR M (f + 1) p v = (0, 0) := by rw [fitR_s, if_neg e0, if_neg e1, if_pos e2, if_neg (fun z => h44 (by rw [z.1]))]
            rw [er] at k1
            refine G_iconst (v := nI 0) d_M_fit_66 (by decide) ?_
            exact G_iret d_M_fit_67 rfl (k1 (by decide))
          · have h44 : nK M v = 1 := (nI_eq (by omega) (by omega)).mp h44
            refine G_aload_n 0 d_M_fit_47 rfl ?_
            refine G_gt d_M_fit_48 fr_M_57 (rd_M_nodeWhat K M o) ?_
            refine G_iload_n 2 d_M_fit_51 rfl ?_
            refine G_ialN d_M_fit_52 (ar_53 K M o) (by decide) (by omega) ?_
            refine G_aload_n 0 d_M_fit_53 rfl ?_
            refine G_gt d_M_fit_54 fr_M_32 (rd_M_what K M o) ?_
            refine G_iload_n 1 d_M_fit_57 rfl ?_
            refine G_ialN d_M_fit_58 (ar_45 K M o) (by decide) (by omega) ?_
            refine G_icne 66 d_M_fit_59 (by decide) (fun h59 => ?_) (fun h59 => ?_)
            · have er : fitR M (f + 1) p v = (0, 0) := by rw [fitR_s, if_neg e0, if_neg e1, if_pos e2, if_neg (fun z => h59 z.2)]
              rw [er] at k1
              refine G_iconst (v := nI 0) d_M_fit_66 (by decide) ?_
              exact G_iret d_M_fit_67 rfl (k1 (by decide))
            · have er : fitR M (f + 1) p v = (1, 0) := by rw [fitR_s, if_neg e0, if_neg e1, if_pos e2, if_pos ⟨h44, h59⟩]
              rw [er] at k1
              refine G_iconst (v := nI 1) d_M_fit_62 (by decide) ?_
              refine G_goto 67 d_M_fit_63 (by decide) ?_
              exact G_iret d_M_fit_67 rfl (k1 (by decide))
      · have er : fitR M (f + 1) p v = (2, v) := by rw [fitR_s, if_neg e0, if_pos (show nK M v = 0 from (nI_eq (by omega) (by omega)).mp (show nI (nK M v) = nI 0 from h17))]
        rw [er] at k2
        refine G_aload_n 0 d_M_fit_20 rfl ?_
        refine G_iload_n 2 d_M_fit_21 rfl ?_
        refine G_pt d_M_fit_22 fp_M_129 (wr_M_hole K M o (nI v)) ?_
        refine G_iconst (v := nI 2) d_M_fit_25 (by decide) ?_
        exact G_iret d_M_fit_26 rfl (k2 rfl)
    · have er : fitR M (f + 1) p v = (1, 0) := by rw [fitR_s, if_pos (show pk M p = 0 from (nI_eq (by omega) (by omega)).mp (show nI (pk M p) = nI 0 from h6))]
      rw [er] at k1
      refine G_iconst (v := nI 1) d_M_fit_9 (by decide) ?_
      exact G_iret d_M_fit_10 rfl (k1 (by decide))
end
section
/-! gather: the ints and cons of the patterns -/
def setG (M : MC) (I : Nat → Int32) (m : Nat) (S : Nat → Int32) : MC := (upd M.1 11 (nI m), va_up (va_up M.2 62 I) 59 S)
theorem setG_59 (M : MC) (I : Nat → Int32) (m : Nat) (S : Nat → Int32) (c : Nat) (v : Int32) : ma (setG M I m S) 59 c v = setG M I m (upd S c v) := by
  show ((upd M.1 11 (nI m), va_up (va_up (va_up M.2 62 I) 59 S) 59 (upd ((va_up (va_up M.2 62 I) 59 S) 59) c v)) : MC) = (upd M.1 11 (nI m), va_up (va_up M.2 62 I) 59 (upd S c v))
  rw [bx_uu, va_up_self]
theorem setG_62 (M : MC) (I : Nat → Int32) (m : Nat) (S : Nat → Int32) (j n : Nat) (v : Int32) : mi (ma (setG M I m S) 62 j v) 11 (nI n) = setG M (upd I j v) n S := by
  have e1 : upd (upd M.1 11 (nI m)) 11 (nI n) = upd M.1 11 (nI n) := funext fun z => by
    by_cases h : z = 11
    · rw [h, pk_us, pk_us]
    · rw [pk_un h, pk_un h, pk_un h]
  have e2 : va_up (va_up (va_up M.2 62 I) 59 S) 62 (upd ((va_up (va_up M.2 62 I) 59 S) 62) j v) = va_up (va_up M.2 62 (upd I j v)) 59 S := funext fun z => by
    have e3 : (va_up (va_up M.2 62 I) 59 S) 62 = I := rfl
    rw [e3]
    by_cases h : z = 62
    · subst h; rw [va_up_self, va_up_ne _ _ (by decide), va_up_self]
    · rw [va_up_ne _ _ h]
      by_cases h2 : z = 59
      · subst h2; rw [va_up_self, va_up_self]
      · rw [va_up_ne _ _ h2, va_up_ne _ _ h2, va_up_ne _ _ h, va_up_ne _ _ h]
  show ((upd (upd M.1 11 (nI m)) 11 (nI n), va_up (va_up (va_up M.2 62 I) 59 S) 62 (upd ((va_up (va_up M.2 62 I) 59 S) 62) j v)) : MC) = _
  rw [e1, e2]; rfl
def lab (c : Nat) : Int := 1099511627776 + c
def labL (M : MC) : Nat → Nat → List Int
  | 0, _ => []
  | f + 1, p => if pk M p = 0 then [] else if pk M p = 1 then [(M.2 45 p).toInt] else lab (pn M p) :: ((if 1 ≤ cP M (pn M p) then labL M f (pf M p) else []) ++ (if 2 ≤ cP M (pn M p) then labL M f (pg M p) else []))
def hasL (M : MC) (I : Nat → Int32) (m : Nat) (S : Nat → Int32) (x : Int) : Prop := (∃ i, i < m ∧ x = (I i).toInt) ∨ (∃ c, c < mC M ∧ x = lab c ∧ S c ≠ 0)
def gth (M : MC) (f p : Nat) (I : Nat → Int32) (m : Nat) (S I' : Nat → Int32) (m' : Nat) (S' : Nat → Int32) : Prop := m ≤ m' ∧ m' ≤ m + pd M p ∧ (∀ i, i < m → I' i = I i) ∧ (∀ c, S c ≠ 0 → S' c ≠ 0) ∧ ∀ x ∈ labL M f p, hasL M I' m' S' x
theorem hasL_mono {M : MC} {I : Nat → Int32} {m : Nat} {S I' : Nat → Int32} {m' : Nat} {S' : Nat → Int32} {x : Int} (h : hasL M I m S x) (h1 : m ≤ m') (h2 : ∀ i, i < m → I' i = I i) (h3 : ∀ c, S c ≠ 0 → S' c ≠ 0) : hasL M I' m' S' x := by
  rcases h with ⟨i, a, b⟩ | ⟨c, a, b, e⟩
  · exact Or.inl ⟨i, by omega, by rw [h2 i a]; exact b⟩
  · exact Or.inr ⟨c, a, b, h3 c e⟩
theorem upd_ne0 {S : Nat → Int32} {c : Nat} : ∀ a, S a ≠ 0 → upd S c 1 a ≠ 0 := fun a h => by
  by_cases e : a = c
  · rw [e, pk_us]; decide
  · rw [pk_un e]; exact h
theorem gth_any {M : MC} {f p : Nat} {I S : Nat → Int32} {m : Nat} (h : pk M p = 0) : gth M (f + 1) p I m S I m S :=
  ⟨Nat.le_refl _, Nat.le_add_right _ _, fun _ _ => rfl, fun _ h => h, fun x hx => by
    have e : labL M (f + 1) p = [] := if_pos h
    rw [e] at hx; cases hx⟩
theorem gth_num {M : MC} {f p : Nat} {I S : Nat → Int32} {m : Nat} (h : pk M p = 1) (i : Nat) (hi : i < m) (he : I i = M.2 45 p) : gth M (f + 1) p I m S I m S :=
  ⟨Nat.le_refl _, Nat.le_add_right _ _, fun _ _ => rfl, fun _ h => h, fun x hx => by
    have e : labL M (f + 1) p = [(M.2 45 p).toInt] := by show (if pk M p = 0 then _ else _) = _; rw [if_neg (by omega), if_pos h]
    rw [e] at hx
    rw [List.mem_singleton.mp hx]
    exact Or.inl ⟨i, hi, by rw [he]⟩⟩
theorem gth_new {M : MC} {f p : Nat} {I S : Nat → Int32} {m : Nat} (h : pk M p = 1) (hd : pd M p = 1) : gth M (f + 1) p I m S (upd I m (M.2 45 p)) (m + 1) S :=
  ⟨Nat.le_succ _, by omega, fun i hi => pk_un (by omega), fun _ h => h, fun x hx => by
    have e : labL M (f + 1) p = [(M.2 45 p).toInt] := by show (if pk M p = 0 then _ else _) = _; rw [if_neg (by omega), if_pos h]
    rw [e] at hx
    rw [List.mem_singleton.mp hx]
    exact Or.inl ⟨m, by omega, by rw [pk_us]⟩⟩
theorem labL_made {M : MC} {f p : Nat} (h : pk M p = 2) : labL M (f + 1) p = lab (pn M p) :: ((if 1 ≤ cP M (pn M p) then labL M f (pf M p) else []) ++ (if 2 ≤ cP M (pn M p) then labL M f (pg M p) else [])) := by
  show (if pk M p = 0 then _ else _) = _
  rw [if_neg (by omega), if_neg (by omega)]
theorem gth_0 {M : MC} {f p : Nat} {I S : Nat → Int32} {m : Nat} (h : pk M p = 2) (hc : pn M p < mC M) (h0 : ¬ 1 ≤ cP M (pn M p)) : gth M (f + 1) p I m S I m (upd S (pn M p) 1) :=
  ⟨Nat.le_refl _, Nat.le_add_right _ _, fun _ _ => rfl, upd_ne0, fun x hx => by
    rw [labL_made h, if_neg h0, if_neg (by omega)] at hx
    rw [List.mem_singleton.mp hx]
    exact Or.inr ⟨_, hc, rfl, by rw [pk_us]; decide⟩⟩
theorem gth_1 {M : MC} {f p : Nat} {I S I1 S1 : Nat → Int32} {m m1 : Nat} (h : pk M p = 2) (hc : pn M p < mC M) (h0 : 1 ≤ cP M (pn M p)) (h2 : ¬ 2 ≤ cP M (pn M p)) (hd : pd M p = 1 + pd M (pf M p)) (g : gth M f (pf M p) I m (upd S (pn M p) 1) I1 m1 S1) : gth M (f + 1) p I m S I1 m1 S1 := by
  obtain ⟨a1, a2, a3, a4, a5⟩ := g
  refine ⟨a1, by omega, a3, fun c hc => a4 c (upd_ne0 c hc), fun x hx => ?_⟩
  rw [labL_made h, if_pos h0, if_neg h2, List.append_nil] at hx
  rcases List.mem_cons.mp hx with rfl | hx
  · exact Or.inr ⟨_, hc, rfl, a4 _ (by rw [pk_us]; decide)⟩
  · exact a5 x hx
theorem gth_2 {M : MC} {f p : Nat} {I S I1 S1 I2 S2 : Nat → Int32} {m m1 m2 : Nat} (h : pk M p = 2) (hc : pn M p < mC M) (h2 : 2 ≤ cP M (pn M p)) (hd : pd M p = 1 + pd M (pf M p) + pd M (pg M p)) (g : gth M f (pf M p) I m (upd S (pn M p) 1) I1 m1 S1) (g2 : gth M f (pg M p) I1 m1 S1 I2 m2 S2) : gth M (f + 1) p I m S I2 m2 S2 := by
  obtain ⟨a1, a2, a3, a4, a5⟩ := g
  obtain ⟨b1, b2, b3, b4, b5⟩ := g2
  refine ⟨by omega, by omega, fun i hi => (b3 i (by omega)).trans (a3 i hi), fun c hc => b4 c (a4 c (upd_ne0 c hc)), fun x hx => ?_⟩
  rw [labL_made h, if_pos (by omega), if_pos h2] at hx
  rcases List.mem_cons.mp hx with rfl | hx
  · exact Or.inr ⟨_, hc, rfl, b4 _ (a4 _ (by rw [pk_us]; decide))⟩
  · rcases List.mem_append.mp hx with hx | hx
    · exact hasL_mono (a5 x hx) b1 b3 b4
    · exact b5 x hx
set_option maxHeartbeats 4000000 in
set_option maxRecDepth 100000 in
theorem l_M_gather {K : KC} {M : MC} {o : Nat → Int64} {nc ns : Nat} {d : Nat} (p : Nat) (I : Nat → Int32) (m : Nat) (S : Nat → Int32) (hpp : p < 200) (hm : m < 130) {post : mj_O → mj_H → Prop} (kf : ∀ i, i < m → I i = M.2 45 p → post (.inl none) (hp K (setG M I m S) o, nc, ns)) (kn : post (.inl none) (hp K (setG M (upd I m (M.2 45 p)) (m + 1) S) o, nc, ns)) : ∀ n i : Nat, i ≤ m → m < i + n → (∀ a, a < i → ¬ I a = M.2 45 p) → mj_G y_M_gather b_M_gather 3 none [] d none 12 [(2, .int (nI i)), (0, .ref 38), (1, .int (nI p))] [] (hp K (setG M I m S) o, nc, ns) post := by
  intro n
  induction n with
  | zero => intro i h1 h2; omega
  | succ n ih =>
    intro i h1 h2 h3
    refine G_iload_n 0 d_M_gather_12 rfl ?_
    refine G_aload_n 1 d_M_gather_13 rfl ?_
    refine G_gt d_M_gather_14 fr_M_119 (rd_M_intMany K (setG M I m S) o) ?_
    rw [show (setG M I m S).1 11 = nI m from rfl]
    refine G_icge 42 d_M_gather_17 (by decide) (fun h17 => ?_) (fun h17 => ?_)
    · have h17 := (nI_leI (by omega) (by omega)).mp h17
      have e9 : i = m := by omega
      refine G_aload_n 1 d_M_gather_42 rfl ?_
      refine G_gt d_M_gather_43 fr_M_84 (rd_M_ints K (setG M I m S) o) ?_
      refine G_aload_n 1 d_M_gather_46 rfl ?_
      refine G_gt d_M_gather_47 fr_M_119 (rd_M_intMany K (setG M I m S) o) ?_
      rw [show (setG M I m S).1 11 = nI m from rfl]
      refine G_aload_n 1 d_M_gather_50 rfl ?_
      refine G_gt d_M_gather_51 fr_M_32 (rd_M_what K (setG M I m S) o) ?_
      refine G_iload_n 2 d_M_gather_54 rfl ?_
      refine G_ialN d_M_gather_55 (ar_45 K (setG M I m S) o) (by decide) (by omega) ?_
      refine G_iasN d_M_gather_56 (ar_62 K (setG M I m S) o) (by decide) (by omega) (aw_62 K (setG M I m S) o m ((setG M I m S).2 45 p)) ?_
      refine G_aload_n 1 d_M_gather_57 rfl ?_
      refine G_dup d_M_gather_58 rfl ?_
      refine G_gt d_M_gather_59 fr_M_119 (rd_M_intMany K (ma (setG M I m S) 62 m ((setG M I m S).2 45 p)) o) ?_
      rw [show (ma (setG M I m S) 62 m ((setG M I m S).2 45 p)).1 11 = nI m from rfl]
      refine G_iconst (v := 1) d_M_gather_62 (by decide) ?_
      refine G_iadd d_M_gather_63 ?_
      rw [show nI m + 1 = nI (m + 1) from nI_1 m]
      refine G_pt d_M_gather_64 fp_M_119 (wr_M_intMany K (ma (setG M I m S) 62 m ((setG M I m S).2 45 p)) o (nI (m + 1))) ?_
      rw [setG_62]
      refine G_goto 141 d_M_gather_67 (by decide) ?_
      exact G_ret d_M_gather_141 rfl kn
    · have h17 : ¬ _ := fun z => h17 ((nI_leI (by omega) (by omega)).mpr z)
      refine G_aload_n 1 d_M_gather_20 rfl ?_
      refine G_gt d_M_gather_21 fr_M_84 (rd_M_ints K (setG M I m S) o) ?_
      refine G_iload_n 0 d_M_gather_24 rfl ?_
      refine G_ialN d_M_gather_25 (ar_62 K (setG M I m S) o) (by decide) (by omega) ?_
      refine G_aload_n 1 d_M_gather_26 rfl ?_
      refine G_gt d_M_gather_27 fr_M_32 (rd_M_what K (setG M I m S) o) ?_
      refine G_iload_n 2 d_M_gather_30 rfl ?_
      refine G_ialN d_M_gather_31 (ar_45 K (setG M I m S) o) (by decide) (by omega) ?_
      refine G_icne 36 d_M_gather_32 (by decide) (fun h32 => ?_) (fun h32 => ?_)
      · refine G_iinc 0 (v := nI (i + 1)) (ls' := [(2, .int (nI (i + 1))), (0, .ref 38), (1, .int (nI p))]) d_M_gather_36 rfl (nI_1 _) (by decide) rfl ?_
        refine G_goto 12 d_M_gather_39 (by decide) ?_
        exact ih (i + 1) (by omega) (by omega) (lt_s h3 h32)
      · exact G_ret d_M_gather_35 rfl (kf i (by omega) h32)
set_option maxHeartbeats 4000000 in
set_option maxRecDepth 100000 in
theorem c_M_gather {K : KC} {M : MC} {o : Nat → Int64} {nc ns : Nat} (hS : wfS M) (hC : wfC M) (hP : wfP M) : ∀ (f p d : Nat) (I : Nat → Int32) (m : Nat) (S : Nat → Int32) {post : mj_O → mj_H → Prop}, p < mP M → pd M p < f → pd M p ≤ d → m + pd M p ≤ 130 → (∀ (I2 : Nat → Int32) (m2 : Nat) (S2 : Nat → Int32), gth M f p I m S I2 m2 S2 → post (.inl none) (hp K (setG M I2 m2 S2) o, nc, ns)) → mj_G y_M_gather b_M_gather 3 none [] d none 0 [(0, .ref 38), (1, .int (nI p))] [] (hp K (setG M I m S) o, nc, ns) post := by
  have hS' := hS
  have hC' := hC
  have hP' := hP
  obtain ⟨e1S, q1, q2⟩ := hS'
  obtain ⟨e2C, q3, q4⟩ := hC'
  obtain ⟨-, p1, p2⟩ := hP'
  intro f
  induction f with
  | zero => intro p d I m S post h1 h2; omega
  | succ f ih =>
    intro p d I m S post hpp hf hd hm k
    obtain ⟨⟨e43, b43⟩, ⟨e44, b44⟩, ⟨e48, b48⟩, wP4, wP5, wP6⟩ := p2 p hpp
    refine G_aload_n 0 d_M_gather_0 rfl ?_
    refine G_gt d_M_gather_1 fr_M_26 (rd_M_kind K (setG M I m S) o) ?_
    refine G_iload_n 1 d_M_gather_4 rfl ?_
    refine G_ialN d_M_gather_5 (ar_43 K (setG M I m S) o) (by decide) (by omega) ?_
    rw [show (setG M I m S).2 43 p = nI (pk M p) from e43]
    refine G_iconst (v := nI 1) d_M_gather_6 (by decide) ?_
    refine G_icne 70 d_M_gather_7 (by decide) (fun h7 => ?_) (fun h7 => ?_)
    · have e1 : ¬ pk M p = 1 := fun z => h7 (by rw [z])
      refine G_aload_n 0 d_M_gather_70 rfl ?_
      refine G_gt d_M_gather_71 fr_M_26 (rd_M_kind K (setG M I m S) o) ?_
      refine G_iload_n 1 d_M_gather_74 rfl ?_
      refine G_ialN d_M_gather_75 (ar_43 K (setG M I m S) o) (by decide) (by omega) ?_
      rw [show (setG M I m S).2 43 p = nI (pk M p) from e43]
      refine G_iconst (v := nI 2) d_M_gather_76 (by decide) ?_
      refine G_icne 141 d_M_gather_77 (by decide) (fun h77 => ?_) (fun h77 => ?_)
      · exact G_ret d_M_gather_141 rfl (k _ _ _ (gth_any (by have : ¬ pk M p = 2 := fun z => h77 (by rw [z]); omega)))
      · have e2 : pk M p = 2 := (nI_eq (by omega) (by omega)).mp h77
        obtain ⟨⟨e45, b45, s45⟩, mF, mG, dd⟩ := wP6 e2
        obtain ⟨-, ⟨e40, b40⟩, -⟩ := q4 (pn M p) b45
        obtain ⟨d, rfl⟩ : ∃ d2, d = d2 + 1 := ⟨d - 1, by omega⟩
        refine G_aload_n 0 d_M_gather_80 rfl ?_
        refine G_gt d_M_gather_81 fr_M_75 (rd_M_stands K (setG M I m S) o) ?_
        refine G_aload_n 0 d_M_gather_84 rfl ?_
        refine G_gt d_M_gather_85 fr_M_32 (rd_M_what K (setG M I m S) o) ?_
        refine G_iload_n 1 d_M_gather_88 rfl ?_
        refine G_ialN d_M_gather_89 (ar_45 K (setG M I m S) o) (by decide) (by omega) ?_
        rw [show (setG M I m S).2 45 p = nI (pn M p) from e45]
        refine G_iconst (v := 1) d_M_gather_90 (by decide) ?_
        refine G_zasN d_M_gather_91 (ar_59 K (setG M I m S) o) (by decide) (by omega) rfl (aw_59 K (setG M I m S) o (pn M p) 1) ?_
        rw [setG_59]
        refine G_aload_n 0 d_M_gather_92 rfl ?_
        refine G_gt d_M_gather_93 fr_M_17 (rd_M_conParts K (setG M I m (upd S (pn M p) 1)) o) ?_
        refine G_aload_n 0 d_M_gather_96 rfl ?_
        refine G_gt d_M_gather_97 fr_M_32 (rd_M_what K (setG M I m (upd S (pn M p) 1)) o) ?_
        refine G_iload_n 1 d_M_gather_100 rfl ?_
        refine G_ialN d_M_gather_101 (ar_45 K (setG M I m (upd S (pn M p) 1)) o) (by decide) (by omega) ?_
        rw [show (setG M I m (upd S (pn M p) 1)).2 45 p = nI (pn M p) from e45]
        refine G_ialN d_M_gather_102 (ar_40 K (setG M I m (upd S (pn M p) 1)) o) (by decide) (by omega) ?_
        rw [show (setG M I m (upd S (pn M p) 1)).2 40 (pn M p) = nI (cP M (pn M p)) from e40]
        refine G_ifle 116 d_M_gather_103 (by decide) (fun h103 => ?_) (fun h103 => ?_)
        · have h103 := (nI_leI (b := 0) (by omega) (by omega)).mp (show nI _ ≤ nI 0 from h103)
          refine G_aload_n 0 d_M_gather_116 rfl ?_
          refine G_gt d_M_gather_117 fr_M_17 (rd_M_conParts K (setG M I m (upd S (pn M p) 1)) o) ?_
          refine G_aload_n 0 d_M_gather_120 rfl ?_
          refine G_gt d_M_gather_121 fr_M_32 (rd_M_what K (setG M I m (upd S (pn M p) 1)) o) ?_
          refine G_iload_n 1 d_M_gather_124 rfl ?_
          refine G_ialN d_M_gather_125 (ar_45 K (setG M I m (upd S (pn M p) 1)) o) (by decide) (by omega) ?_
          rw [show (setG M I m (upd S (pn M p) 1)).2 45 p = nI (pn M p) from e45]
          refine G_ialN d_M_gather_126 (ar_40 K (setG M I m (upd S (pn M p) 1)) o) (by decide) (by omega) ?_
          rw [show (setG M I m (upd S (pn M p) 1)).2 40 (pn M p) = nI (cP M (pn M p)) from e40]
          refine G_iconst (v := nI 1) d_M_gather_127 (by decide) ?_
          refine G_icle 141 d_M_gather_128 (by decide) (fun h128 => ?_) (fun h128 => ?_)
          · have h128 := (nI_leI (by omega) (by omega)).mp h128
            exact G_ret d_M_gather_141 rfl (k _ _ _ (gth_0 e2 b45 (by omega)))
          · have h128 : ¬ _ := fun z => h128 ((nI_leI (by omega) (by omega)).mpr z)
            omega
        · have h103 : ¬ cP M (pn M p) ≤ 0 := fun z => h103 (show nI _ ≤ nI 0 from (nI_leI (by omega) (by omega)).mpr z)
          obtain ⟨f1, f2, f3⟩ := mF (by omega)
          rw [if_pos (show 1 ≤ cP M (pn M p) by omega)] at dd
          refine G_aload_n 0 d_M_gather_106 rfl ?_
          refine G_aload_n 0 d_M_gather_107 rfl ?_
          refine G_gt d_M_gather_108 fr_M_35 (rd_M_first K (setG M I m (upd S (pn M p) 1)) o) ?_
          refine G_iload_n 1 d_M_gather_111 rfl ?_
          refine G_ialN d_M_gather_112 (ar_46 K (setG M I m (upd S (pn M p) 1)) o) (by decide) (by omega) ?_
          rw [show (setG M I m (upd S (pn M p) 1)).2 46 p = nI (pf M p) from f1]
          refine G_cvp (fun a9 A9 => a9 = none ∧ ∃ (I9 : Nat → Int32) (m9 : Nat) (S9 : Nat → Int32), gth M f (pf M p) I m (upd S (pn M p) 1) I9 m9 S9 ∧ A9 = (hp K (setG M I9 m9 S9) o, nc, ns)) (As := [.int (nI (pf M p))]) d_M_gather_113 cv_M_149 cw_M_gather (ob_M K (setG M I m (upd S (pn M p) 1)) o) np_M_gather (Nat.le_of_ble_eq_true rfl) (Nat.le_of_ble_eq_true rfl) (fun post2 kk => ih (pf M p) d I m (upd S (pn M p) 1) (by omega) (by omega) (by omega) (by omega) (fun I9 m9 S9 g => kk _ _ ⟨rfl, I9, m9, S9, g, rfl⟩)) (fun a9 A9 h9 => by obtain ⟨-, I9, m9, S9, -, rfl⟩ := h9; rfl) (fun a9 A9 h9 => ?_)
          obtain ⟨rfl, I1, m1, S1, ga, rfl⟩ := h9
          have ga1 := ga.1
          have ga2 := ga.2.1
          refine G_aload_n 0 d_M_gather_116 rfl ?_
          refine G_gt d_M_gather_117 fr_M_17 (rd_M_conParts K (setG M I1 m1 S1) o) ?_
          refine G_aload_n 0 d_M_gather_120 rfl ?_
          refine G_gt d_M_gather_121 fr_M_32 (rd_M_what K (setG M I1 m1 S1) o) ?_
          refine G_iload_n 1 d_M_gather_124 rfl ?_
          refine G_ialN d_M_gather_125 (ar_45 K (setG M I1 m1 S1) o) (by decide) (by omega) ?_
          rw [show (setG M I1 m1 S1).2 45 p = nI (pn M p) from e45]
          refine G_ialN d_M_gather_126 (ar_40 K (setG M I1 m1 S1) o) (by decide) (by omega) ?_
          rw [show (setG M I1 m1 S1).2 40 (pn M p) = nI (cP M (pn M p)) from e40]
          refine G_iconst (v := nI 1) d_M_gather_127 (by decide) ?_
          refine G_icle 141 d_M_gather_128 (by decide) (fun h128 => ?_) (fun h128 => ?_)
          · have h128 := (nI_leI (by omega) (by omega)).mp h128
            exact G_ret d_M_gather_141 rfl (k _ _ _ (gth_1 e2 b45 (by omega) (by omega) (by rw [if_neg (by omega)] at dd; omega) ga))
          · have h128 : ¬ _ := fun z => h128 ((nI_leI (by omega) (by omega)).mpr z)
            obtain ⟨g1, g2, g3⟩ := mG (by omega)
            rw [if_pos (show 2 ≤ cP M (pn M p) by omega)] at dd
            refine G_aload_n 0 d_M_gather_131 rfl ?_
            refine G_aload_n 0 d_M_gather_132 rfl ?_
            refine G_gt d_M_gather_133 fr_M_38 (rd_M_second K (setG M I1 m1 S1) o) ?_
            refine G_iload_n 1 d_M_gather_136 rfl ?_
            refine G_ialN d_M_gather_137 (ar_47 K (setG M I1 m1 S1) o) (by decide) (by omega) ?_
            rw [show (setG M I1 m1 S1).2 47 p = nI (pg M p) from g1]
            refine G_cvp (fun a9 A9 => a9 = none ∧ ∃ (I9 : Nat → Int32) (m9 : Nat) (S9 : Nat → Int32), gth M f (pg M p) I1 m1 S1 I9 m9 S9 ∧ A9 = (hp K (setG M I9 m9 S9) o, nc, ns)) (As := [.int (nI (pg M p))]) d_M_gather_138 cv_M_149 cw_M_gather (ob_M K (setG M I1 m1 S1) o) np_M_gather (Nat.le_of_ble_eq_true rfl) (Nat.le_of_ble_eq_true rfl) (fun post2 kk => ih (pg M p) d I1 m1 S1 (by omega) (by omega) (by omega) (by omega) (fun I9 m9 S9 g => kk _ _ ⟨rfl, I9, m9, S9, g, rfl⟩)) (fun a9 A9 h9 => by obtain ⟨-, I9, m9, S9, -, rfl⟩ := h9; rfl) (fun a9 A9 h9 => ?_)
            obtain ⟨rfl, I2, m2, S2, gb, rfl⟩ := h9
            have gb1 := gb.1
            have gb2 := gb.2.1
            exact G_ret d_M_gather_141 rfl (k _ _ _ (gth_2 e2 b45 (by omega) dd ga gb))
    · have e1 : pk M p = 1 := (nI_eq (by omega) (by omega)).mp h7
      refine G_iconst (v := nI 0) d_M_gather_10 (by decide) ?_
      refine G_istore_n (ls' := [(2, .int (nI 0)), (0, .ref 38), (1, .int (nI p))]) d_M_gather_11 (by decide) rfl ?_
      exact l_M_gather p I m S (by omega) (by have := wP5 e1; omega) (fun i a b => k _ _ _ (gth_num e1 i a b)) (k _ _ _ (gth_new e1 (wP5 e1).2)) (m + 1) 0 (by omega) (by omega) lt_0
end
section
/-! fill: a hole gets an option -/
theorem optL_sub {M : MC} {s : Nat} : ∀ {n m : Nat}, n ≤ m → ∃ l, optL M s m = optL M s n ++ l := by
  intro n m
  induction m with
  | zero => intro h; exact ⟨[], by rw [show n = 0 by omega]; rfl⟩
  | succ m ih =>
    intro h
    by_cases e : n = m + 1
    · exact ⟨[], by rw [e, List.append_nil]⟩
    · obtain ⟨l, hl⟩ := ih (by omega)
      by_cases hm : cS M m = s ∧ tri M m
      · exact ⟨l ++ [m], by rw [optL_yes hm, hl, List.append_assoc]⟩
      · exact ⟨l, by rw [optL_no hm, hl]⟩
theorem optL_at {M : MC} {s e m : Nat} (h : e + 1 ≤ m) (he : cS M e = s ∧ tri M e) : (optL M s m)[(optL M s e).length]? = some e := by
  obtain ⟨l, hl⟩ := optL_sub (M := M) (s := s) h
  rw [hl, optL_yes he, List.append_assoc, List.getElem?_append_right (Nat.le_refl _), Nat.sub_self]
  rfl
theorem optL_mem {M : MC} {s n c : Nat} (h : c ∈ optL M s n) : c < n ∧ cS M c = s ∧ tri M c := by
  unfold optL at h
  obtain ⟨h1, h2⟩ := List.mem_filter.mp h
  exact ⟨List.mem_range.mp h1, of_decide_eq_true h2⟩
theorem mem_optL {M : MC} {s n c : Nat} (h : c < n) (h2 : cS M c = s ∧ tri M c) : c ∈ optL M s n := by
  unfold optL
  exact List.mem_filter.mpr ⟨List.mem_range.mpr h, decide_eq_true h2⟩
def fillI (M : MC) (v j m : Nat) : MC := ma (ma M 51 v (if j < m then 1 else 3)) 53 v (if j < m then M.2 62 j else 0)
def fillC (M : MC) (v c n : Nat) : MC := if 2 ≤ cP M c then ma (nodeM (ma (nodeM (ma (ma M 51 v 2) 53 v (nI c)) n (M.2 41 c)) 54 v (nI n)) (n + 1) (M.2 42 c)) 55 v (nI (n + 1)) else if 1 ≤ cP M c then ma (nodeM (ma (ma M 51 v 2) 53 v (nI c)) n (M.2 41 c)) 54 v (nI n) else ma (ma M 51 v 2) 53 v (nI c)
theorem fill_m1 (r : Nat) : nI (r + 1) - 1 + (-1) = nI r - 1 := by rw [nI_pred]; exact (Int32.sub_eq_add_neg (nI r) 1).symm
set_option maxHeartbeats 4000000 in
set_option maxRecDepth 100000 in
theorem c_M_fillI {K : KC} {M : MC} {o : Nat → Int64} {nc ns : Nat} {d : Nat} (v j m : Nat) (hv : v < 270) (hj : j < 131) (hmm : m ≤ 130) (hm : M.1 11 = nI m) (h52 : M.2 52 v = 0) {post : mj_O → mj_H → Prop} (k : post (.inl none) (hp K (fillI M v j m) o, nc, ns)) : mj_G y_M_fill b_M_fill 5 none [] d none 0 [(0, .ref 38), (1, .int (nI v)), (2, .int (nI j))] [] (hp K M o, nc, ns) post := by
  by_cases hjm : j < m
  · have e1 : fillI M v j m = ma (ma M 51 v (1 : Int32)) 53 v (M.2 62 j) := by unfold fillI; rw [if_pos hjm, if_pos hjm]
    rw [e1] at k
    refine G_aload_n 0 d_M_fill_0 rfl ?_
    refine G_gt d_M_fill_1 fr_M_54 (rd_M_nodeSort K M o) ?_
    refine G_iload_n 1 d_M_fill_4 rfl ?_
    refine G_ialN d_M_fill_5 (ar_52 K M o) (by decide) (by omega) ?_
    refine G_ifne 53 d_M_fill_6 (by decide) (fun h6 => False.elim (h6 (by rw [h52]))) (fun h6 => ?_)
    refine G_aload_n 0 d_M_fill_9 rfl ?_
    refine G_gt d_M_fill_10 fr_M_51 (rd_M_nodeKind K M o) ?_
    refine G_iload_n 1 d_M_fill_13 rfl ?_
    refine G_iload_n 2 d_M_fill_14 rfl ?_
    refine G_aload_n 0 d_M_fill_15 rfl ?_
    refine G_gt d_M_fill_16 fr_M_119 (rd_M_intMany K M o) ?_
    rw [show M.1 11 = nI m from hm]
    refine G_icge 26 d_M_fill_19 (by decide) (fun h19 => False.elim (absurd ((nI_leI (by omega) (by omega)).mp h19) (by omega))) (fun h19 => ?_)
    refine G_iconst (v := (1 : Int32)) d_M_fill_22 (by decide) ?_
    refine G_goto 27 d_M_fill_23 (by decide) ?_
    refine G_iasN d_M_fill_27 (ar_51 K M o) (by decide) (by omega) (aw_51 K M o v (1 : Int32)) ?_
    refine G_aload_n 0 d_M_fill_28 rfl ?_
    refine G_gt d_M_fill_29 fr_M_57 (rd_M_nodeWhat K (ma M 51 v (1 : Int32)) o) ?_
    refine G_iload_n 1 d_M_fill_32 rfl ?_
    refine G_iload_n 2 d_M_fill_33 rfl ?_
    refine G_aload_n 0 d_M_fill_34 rfl ?_
    refine G_gt d_M_fill_35 fr_M_119 (rd_M_intMany K (ma M 51 v (1 : Int32)) o) ?_
    rw [show (ma M 51 v (1 : Int32)).1 11 = nI m from hm]
    refine G_icge 50 d_M_fill_38 (by decide) (fun h38 => False.elim (absurd ((nI_leI (by omega) (by omega)).mp h38) (by omega))) (fun h38 => ?_)
    refine G_aload_n 0 d_M_fill_41 rfl ?_
    refine G_gt d_M_fill_42 fr_M_84 (rd_M_ints K (ma M 51 v (1 : Int32)) o) ?_
    refine G_iload_n 2 d_M_fill_45 rfl ?_
    refine G_ialN d_M_fill_46 (ar_62 K (ma M 51 v (1 : Int32)) o) (by decide) (by omega) ?_
    refine G_goto 51 d_M_fill_47 (by decide) ?_
    refine G_iasN d_M_fill_51 (ar_53 K (ma M 51 v (1 : Int32)) o) (by decide) (by omega) (aw_53 K (ma M 51 v (1 : Int32)) o v ((ma M 51 v (1 : Int32)).2 62 j)) ?_
    exact G_ret d_M_fill_52 rfl k
  · have e1 : fillI M v j m = ma (ma M 51 v (3 : Int32)) 53 v (0 : Int32) := by unfold fillI; rw [if_neg hjm, if_neg hjm]
    rw [e1] at k
    refine G_aload_n 0 d_M_fill_0 rfl ?_
    refine G_gt d_M_fill_1 fr_M_54 (rd_M_nodeSort K M o) ?_
    refine G_iload_n 1 d_M_fill_4 rfl ?_
    refine G_ialN d_M_fill_5 (ar_52 K M o) (by decide) (by omega) ?_
    refine G_ifne 53 d_M_fill_6 (by decide) (fun h6 => False.elim (h6 (by rw [h52]))) (fun h6 => ?_)
    refine G_aload_n 0 d_M_fill_9 rfl ?_
    refine G_gt d_M_fill_10 fr_M_51 (rd_M_nodeKind K M o) ?_
    refine G_iload_n 1 d_M_fill_13 rfl ?_
    refine G_iload_n 2 d_M_fill_14 rfl ?_
    refine G_aload_n 0 d_M_fill_15 rfl ?_
    refine G_gt d_M_fill_16 fr_M_119 (rd_M_intMany K M o) ?_
    rw [show M.1 11 = nI m from hm]
    refine G_icge 26 d_M_fill_19 (by decide) (fun h19 => ?_) (fun h19 => False.elim (h19 ((nI_leI (by omega) (by omega)).mpr (by omega))))
    refine G_iconst (v := (3 : Int32)) d_M_fill_26 (by decide) ?_
    refine G_iasN d_M_fill_27 (ar_51 K M o) (by decide) (by omega) (aw_51 K M o v (3 : Int32)) ?_
    refine G_aload_n 0 d_M_fill_28 rfl ?_
    refine G_gt d_M_fill_29 fr_M_57 (rd_M_nodeWhat K (ma M 51 v (3 : Int32)) o) ?_
    refine G_iload_n 1 d_M_fill_32 rfl ?_
    refine G_iload_n 2 d_M_fill_33 rfl ?_
    refine G_aload_n 0 d_M_fill_34 rfl ?_
    refine G_gt d_M_fill_35 fr_M_119 (rd_M_intMany K (ma M 51 v (3 : Int32)) o) ?_
    rw [show (ma M 51 v (3 : Int32)).1 11 = nI m from hm]
    refine G_icge 50 d_M_fill_38 (by decide) (fun h38 => ?_) (fun h38 => False.elim (h38 ((nI_leI (by omega) (by omega)).mpr (by omega))))
    refine G_iconst (v := (0 : Int32)) d_M_fill_50 (by decide) ?_
    refine G_iasN d_M_fill_51 (ar_53 K (ma M 51 v (3 : Int32)) o) (by decide) (by omega) (aw_53 K (ma M 51 v (3 : Int32)) o v (0 : Int32)) ?_
    exact G_ret d_M_fill_52 rfl k
set_option maxHeartbeats 4000000 in
set_option maxRecDepth 100000 in
theorem l_M_fillE {K : KC} {M : MC} {o : Nat → Int64} {nc ns : Nat} {d : Nat} (v c n : Nat) (x4 x2 : Int32) (hC : wfC M) (hc : c < mC M) (hv : v < 270) (hn : M.1 6 = nI n) (hb : n + 2 ≤ 270) {post : mj_O → mj_H → Prop} (k : post (.inl none) (hp K (fillC M v c n) o, nc, ns)) : mj_G y_M_fill b_M_fill 5 none [] (d + 1) none 101 [(4, .int x4), (3, .int (nI c)), (0, .ref 38), (1, .int (nI v)), (2, .int x2)] [] (hp K M o, nc, ns) post := by
  obtain ⟨-, q3, q4⟩ := hC
  obtain ⟨-, ⟨e40, b40⟩, -⟩ := q4 c hc
  refine G_aload_n 2 d_M_fill_101 rfl ?_
  refine G_gt d_M_fill_102 fr_M_51 (rd_M_nodeKind K M o) ?_
  refine G_iload_n 3 d_M_fill_105 rfl ?_
  refine G_iconst (v := (2 : Int32)) d_M_fill_106 (by decide) ?_
  refine G_iasN d_M_fill_107 (ar_51 K M o) (by decide) (by omega) (aw_51 K M o v (2 : Int32)) ?_
  refine G_aload_n 2 d_M_fill_108 rfl ?_
  refine G_gt d_M_fill_109 fr_M_57 (rd_M_nodeWhat K (ma M 51 v (2 : Int32)) o) ?_
  refine G_iload_n 3 d_M_fill_112 rfl ?_
  refine G_iload_n 1 d_M_fill_113 rfl ?_
  refine G_iasN d_M_fill_114 (ar_53 K (ma M 51 v (2 : Int32)) o) (by decide) (by omega) (aw_53 K (ma M 51 v (2 : Int32)) o v (nI c)) ?_
  refine G_aload_n 2 d_M_fill_115 rfl ?_
  refine G_gt d_M_fill_116 fr_M_17 (rd_M_conParts K (ma (ma M 51 v (2 : Int32)) 53 v (nI c)) o) ?_
  refine G_iload_n 1 d_M_fill_119 rfl ?_
  refine G_ialN d_M_fill_120 (ar_40 K (ma (ma M 51 v (2 : Int32)) 53 v (nI c)) o) (by decide) (by omega) ?_
  rw [show (ma (ma M 51 v (2 : Int32)) 53 v (nI c)).2 40 c = nI (cP M c) from e40]
  refine G_ifle 140 d_M_fill_121 (by decide) (fun h121 => ?_) (fun h121 => ?_)
  · have h121 := (nI_leI (b := 0) (by omega) (by omega)).mp (show nI _ ≤ nI 0 from h121)
    refine G_aload_n 2 d_M_fill_140 rfl ?_
    refine G_gt d_M_fill_141 fr_M_17 (rd_M_conParts K (ma (ma M 51 v (2 : Int32)) 53 v (nI c)) o) ?_
    refine G_iload_n 1 d_M_fill_144 rfl ?_
    refine G_ialN d_M_fill_145 (ar_40 K (ma (ma M 51 v (2 : Int32)) 53 v (nI c)) o) (by decide) (by omega) ?_
    rw [show (ma (ma M 51 v (2 : Int32)) 53 v (nI c)).2 40 c = nI (cP M c) from e40]
    refine G_iconst (v := nI 1) d_M_fill_146 (by decide) ?_
    refine G_icle 166 d_M_fill_147 (by decide) (fun h147 => ?_) (fun h147 => ?_)
    · have h147 := (nI_leI (by omega) (by omega)).mp h147
      have e : fillC M v c n = ma (ma M 51 v (2 : Int32)) 53 v (nI c) := by unfold fillC; rw [if_neg (by omega), if_neg (by omega)]
      rw [e] at k
      exact G_ret d_M_fill_166 rfl k
    · have h147 : ¬ _ := fun z => h147 ((nI_leI (by omega) (by omega)).mpr z)
      omega
  · have h121 : ¬ cP M c ≤ 0 := fun z => h121 (show nI _ ≤ nI 0 from (nI_leI (by omega) (by omega)).mpr z)
    refine G_aload_n 2 d_M_fill_124 rfl ?_
    refine G_gt d_M_fill_125 fr_M_60 (rd_M_nodeFirst K (ma (ma M 51 v (2 : Int32)) 53 v (nI c)) o) ?_
    refine G_iload_n 3 d_M_fill_128 rfl ?_
    refine G_aload_n 2 d_M_fill_129 rfl ?_
    refine G_aload_n 2 d_M_fill_130 rfl ?_
    refine G_gt d_M_fill_131 fr_M_20 (rd_M_conFirst K (ma (ma M 51 v (2 : Int32)) 53 v (nI c)) o) ?_
    refine G_iload_n 1 d_M_fill_134 rfl ?_
    refine G_ialN d_M_fill_135 (ar_41 K (ma (ma M 51 v (2 : Int32)) 53 v (nI c)) o) (by decide) (by omega) ?_
    rw [show (ma (ma M 51 v (2 : Int32)) 53 v (nI c)).2 41 c = M.2 41 c from rfl]
    refine G_cv1 (some (.int (nI n))) (hp K (nodeM (ma (ma M 51 v (2 : Int32)) 53 v (nI c)) n (M.2 41 c)) o, nc, ns) (As := [.int (M.2 41 c)]) d_M_fill_136 cv_M_125 cw_M_node (ob_M K (ma (ma M 51 v (2 : Int32)) 53 v (nI c)) o) np_M_node (Nat.le_of_ble_eq_true rfl) (Nat.le_of_ble_eq_true rfl) (fun post2 k2 => c_M_node (M.2 41 c) n (show (ma (ma M 51 v (2 : Int32)) 53 v (nI c)).1 6 = nI n from hn) (by omega) k2) rfl ?_
    refine G_iasN d_M_fill_139 (ar_54 K (nodeM (ma (ma M 51 v (2 : Int32)) 53 v (nI c)) n (M.2 41 c)) o) (by decide) (by omega) (aw_54 K (nodeM (ma (ma M 51 v (2 : Int32)) 53 v (nI c)) n (M.2 41 c)) o v (nI n)) ?_
    refine G_aload_n 2 d_M_fill_140 rfl ?_
    refine G_gt d_M_fill_141 fr_M_17 (rd_M_conParts K (ma (nodeM (ma (ma M 51 v (2 : Int32)) 53 v (nI c)) n (M.2 41 c)) 54 v (nI n)) o) ?_
    refine G_iload_n 1 d_M_fill_144 rfl ?_
    refine G_ialN d_M_fill_145 (ar_40 K (ma (nodeM (ma (ma M 51 v (2 : Int32)) 53 v (nI c)) n (M.2 41 c)) 54 v (nI n)) o) (by decide) (by omega) ?_
    rw [show (ma (nodeM (ma (ma M 51 v (2 : Int32)) 53 v (nI c)) n (M.2 41 c)) 54 v (nI n)).2 40 c = nI (cP M c) from e40]
    refine G_iconst (v := nI 1) d_M_fill_146 (by decide) ?_
    refine G_icle 166 d_M_fill_147 (by decide) (fun h147 => ?_) (fun h147 => ?_)
    · have h147 := (nI_leI (by omega) (by omega)).mp h147
      have e : fillC M v c n = ma (nodeM (ma (ma M 51 v 2) 53 v (nI c)) n (M.2 41 c)) 54 v (nI n) := by unfold fillC; rw [if_neg (by omega), if_pos (by omega)]
      rw [e] at k
      exact G_ret d_M_fill_166 rfl k
    · have h147 : ¬ _ := fun z => h147 ((nI_leI (by omega) (by omega)).mpr z)
      have e : fillC M v c n = ma (nodeM (ma (nodeM (ma (ma M 51 v 2) 53 v (nI c)) n (M.2 41 c)) 54 v (nI n)) (n + 1) (M.2 42 c)) 55 v (nI (n + 1)) := by unfold fillC; rw [if_pos (by omega)]
      rw [e] at k
      refine G_aload_n 2 d_M_fill_150 rfl ?_
      refine G_gt d_M_fill_151 fr_M_63 (rd_M_nodeSecond K (ma (nodeM (ma (ma M 51 v (2 : Int32)) 53 v (nI c)) n (M.2 41 c)) 54 v (nI n)) o) ?_
      refine G_iload_n 3 d_M_fill_154 rfl ?_
      refine G_aload_n 2 d_M_fill_155 rfl ?_
      refine G_aload_n 2 d_M_fill_156 rfl ?_
      refine G_gt d_M_fill_157 fr_M_23 (rd_M_conSecond K (ma (nodeM (ma (ma M 51 v (2 : Int32)) 53 v (nI c)) n (M.2 41 c)) 54 v (nI n)) o) ?_
      refine G_iload_n 1 d_M_fill_160 rfl ?_
      refine G_ialN d_M_fill_161 (ar_42 K (ma (nodeM (ma (ma M 51 v (2 : Int32)) 53 v (nI c)) n (M.2 41 c)) 54 v (nI n)) o) (by decide) (by omega) ?_
      rw [show (ma (nodeM (ma (ma M 51 v (2 : Int32)) 53 v (nI c)) n (M.2 41 c)) 54 v (nI n)).2 42 c = M.2 42 c from rfl]
      refine G_cv1 (some (.int (nI (n + 1)))) (hp K (nodeM (ma (nodeM (ma (ma M 51 v (2 : Int32)) 53 v (nI c)) n (M.2 41 c)) 54 v (nI n)) (n + 1) (M.2 42 c)) o, nc, ns) (As := [.int (M.2 42 c)]) d_M_fill_162 cv_M_125 cw_M_node (ob_M K (ma (nodeM (ma (ma M 51 v (2 : Int32)) 53 v (nI c)) n (M.2 41 c)) 54 v (nI n)) o) np_M_node (Nat.le_of_ble_eq_true rfl) (Nat.le_of_ble_eq_true rfl) (fun post2 k2 => c_M_node (M.2 42 c) (n + 1) (show (ma (nodeM (ma (ma M 51 v (2 : Int32)) 53 v (nI c)) n (M.2 41 c)) 54 v (nI n)).1 6 = nI (n + 1) from rfl) (by omega) k2) rfl ?_
      refine G_iasN d_M_fill_165 (ar_55 K (nodeM (ma (nodeM (ma (ma M 51 v (2 : Int32)) 53 v (nI c)) n (M.2 41 c)) 54 v (nI n)) (n + 1) (M.2 42 c)) o) (by decide) (by omega) (aw_55 K (nodeM (ma (nodeM (ma (ma M 51 v (2 : Int32)) 53 v (nI c)) n (M.2 41 c)) 54 v (nI n)) (n + 1) (M.2 42 c)) o v (nI (n + 1))) ?_
      exact G_ret d_M_fill_166 rfl k
set_option maxHeartbeats 4000000 in
set_option maxRecDepth 100000 in
theorem l_M_fillI {K : KC} {M : MC} {o : Nat → Int64} {nc ns : Nat} {d : Nat} (v t q : Nat) (x4 x2 : Int32) (hS : wfS M) (hC : wfC M) (hv : v < 270) (h52 : M.2 52 v = nI t) (ht : t < 12) (hq : q < (optL M t (mC M)).length) {post : mj_O → mj_H → Prop} (k : ∀ e, e < mC M → (optL M t e).length = q → (cS M e = t ∧ tri M e) → mj_G y_M_fill b_M_fill 5 none [] (d + 2) none 95 [(3, .int (nI e)), (4, .int x4), (0, .ref 38), (1, .int (nI v)), (2, .int x2)] [] (hp K M o, nc, ns) post) : ∀ n e : Nat, e ≤ mC M → mC M < e + n → (optL M t e).length = q → mj_G y_M_fill b_M_fill 5 none [] (d + 2) none 66 [(3, .int (nI e)), (4, .int x4), (0, .ref 38), (1, .int (nI v)), (2, .int x2)] [] (hp K M o, nc, ns) post := by
  have hS' := hS
  have hC' := hC
  obtain ⟨-, q1, q2⟩ := hS'
  obtain ⟨-, q3, q4⟩ := hC'
  intro n
  induction n with
  | zero => intro e h0 h1; omega
  | succ n ih =>
    intro e h0 h1 h2
    have he : e < mC M := by
      rcases Nat.lt_or_ge e (mC M) with z | z
      · exact z
      · rw [show e = mC M by omega] at h2; omega
    obtain ⟨⟨ec, bc1, bc2⟩, -⟩ := q4 e he
    refine G_aload_n 2 d_M_fill_66 rfl ?_
    refine G_gt d_M_fill_67 fr_M_13 (rd_M_conSort K M o) ?_
    refine G_iload_n 0 d_M_fill_70 rfl ?_
    refine G_ialN d_M_fill_71 (ar_39 K M o) (by decide) (by omega) ?_
    rw [show M.2 39 e = nI (cS M e) from ec]
    refine G_aload_n 2 d_M_fill_72 rfl ?_
    refine G_gt d_M_fill_73 fr_M_54 (rd_M_nodeSort K M o) ?_
    refine G_iload_n 3 d_M_fill_76 rfl ?_
    refine G_ialN d_M_fill_77 (ar_52 K M o) (by decide) (by omega) ?_
    rw [h52]
    refine G_icne 89 d_M_fill_78 (by decide) (fun h78 => ?_) (fun h78 => ?_)
    · refine G_iinc 0 (v := nI (e + 1)) (ls' := [(3, .int (nI (e + 1))), (4, .int x4), (0, .ref 38), (1, .int (nI v)), (2, .int x2)]) d_M_fill_89 rfl (nI_1 _) (by decide) rfl ?_
      refine G_goto 66 d_M_fill_92 (by decide) ?_
      exact ih (e + 1) (by omega) (by omega) (by rw [optL_no (fun z => h78 (by rw [z.1]))]; exact h2)
    · have h78 := (nI_eq (by omega) (by omega)).mp h78
      refine G_aload_n 2 d_M_fill_81 rfl ?_
      refine G_iload_n 0 d_M_fill_82 rfl ?_
      refine G_cvB (tri M e) (As := [.int (nI e)]) d_M_fill_83 cv_M_122 cw_M_isTried (ob_M K M o) np_M_isTried (Nat.le_of_ble_eq_true rfl) (Nat.le_of_ble_eq_true rfl) (fun post2 k1 k0 => c_M_isTried e hS hC (by omega) k1 k0) (fun u83 => ?_) (fun u83 => ?_)
      · refine G_ifne 95 d_M_fill_86 (by decide) (fun _ => ?_) (fun h => absurd h (by decide))
        exact k e (by omega) h2 ⟨h78, u83⟩
      · refine G_ifne 95 d_M_fill_86 (by decide) (fun h => absurd h (by decide)) (fun _ => ?_)
        refine G_iinc 0 (v := nI (e + 1)) (ls' := [(3, .int (nI (e + 1))), (4, .int x4), (0, .ref 38), (1, .int (nI v)), (2, .int x2)]) d_M_fill_89 rfl (nI_1 _) (by decide) rfl ?_
        refine G_goto 66 d_M_fill_92 (by decide) ?_
        exact ih (e + 1) (by omega) (by omega) (by rw [optL_no (fun z => u83 z.2)]; exact h2)
set_option maxHeartbeats 4000000 in
set_option maxRecDepth 100000 in
theorem l_M_fillO {K : KC} {M : MC} {o : Nat → Int64} {nc ns : Nat} {d : Nat} (v t j : Nat) (x2 : Int32) (hS : wfS M) (hC : wfC M) (hv : v < 270) (h52 : M.2 52 v = nI t) (ht : t < 12) (hj : j < (optL M t (mC M)).length) {post : mj_O → mj_H → Prop} (k : ∀ c x4, c < mC M → (optL M t (mC M))[j]? = some c → mj_G y_M_fill b_M_fill 5 none [] (d + 2) none 101 [(4, .int x4), (3, .int (nI c)), (0, .ref 38), (1, .int (nI v)), (2, .int x2)] [] (hp K M o, nc, ns) post) : ∀ r e : Nat, e ≤ mC M → (optL M t e).length + r = j + 1 → (r ≤ j → 1 ≤ e ∧ cS M (e - 1) = t ∧ tri M (e - 1)) → mj_G y_M_fill b_M_fill 5 none [] (d + 2) none 58 [(4, .int (nI r - 1)), (3, .int (nI e - 1)), (0, .ref 38), (1, .int (nI v)), (2, .int x2)] [] (hp K M o, nc, ns) post := by
  have hlen := optL_len M t (mC M)
  have hC3 := hC.2.1
  intro r
  induction r with
  | zero =>
    intro e h0 h1 h2
    obtain ⟨g1, g2⟩ := h2 (by omega)
    obtain ⟨c, rfl⟩ : ∃ c, e = c + 1 := ⟨e - 1, by omega⟩
    rw [Nat.add_sub_cancel] at g2
    have g3 := optL_at (m := mC M) h0 g2
    have g4 : (optL M t c).length = j := by
      rw [optL_yes g2, List.length_append] at h1
      have : (optL M t c).length + 1 + 0 = j + 1 := h1
      omega
    rw [g4] at g3
    rw [nI_pred]
    have k := k c (nI 0 - 1) (by omega) g3
    refine G_iload 0 d_M_fill_58 rfl ?_
    refine G_iflt 101 d_M_fill_60 (by decide) (fun h60 => ?_) (fun h60 => False.elim (h60 (by decide)))
    exact k
  | succ r ih =>
    intro e h0 h1 h2
    refine G_iload 0 d_M_fill_58 rfl ?_
    refine G_iflt 101 d_M_fill_60 (by decide) (fun h60 => False.elim (nI_pos (n := r) (by omega) (by rw [nI_pred] at h60; exact h60))) (fun h60 => ?_)
    refine G_iinc 1 (v := nI e) (ls' := [(3, .int (nI e)), (4, .int (nI (r + 1) - 1)), (0, .ref 38), (1, .int (nI v)), (2, .int x2)]) d_M_fill_63 rfl (by have z : nI e - 1 + 1 = nI e := Int32.sub_add_cancel _ _; exact z) (by decide) rfl ?_
    refine G_sub [0, 1, 2, 3, 4] rfl (l_M_fillI v t (optL M t e).length _ x2 hS hC hv h52 ht (by omega) (fun e2 g1 g2 g3 => ?_) (mC M + 1) e (by omega) (by omega) rfl)
    refine G_iinc 1 (v := nI r - 1) (ls' := [(4, .int (nI r - 1)), (3, .int (nI e2)), (0, .ref 38), (1, .int (nI v)), (2, .int x2)]) d_M_fill_95 rfl (fill_m1 r) (by decide) rfl ?_
    refine G_goto 58 d_M_fill_98 (by decide) ?_
    rw [← nI_pred e2]; exact ih (e2 + 1) (by omega) (by rw [optL_yes g3, List.length_append, g2]; show _ + 1 + _ = _; omega) (fun _ => ⟨by omega, by rw [Nat.add_sub_cancel]; exact g3⟩)
set_option maxHeartbeats 4000000 in
set_option maxRecDepth 100000 in
theorem c_M_fillC {K : KC} {M : MC} {o : Nat → Int64} {nc ns : Nat} {d : Nat} (v j n t : Nat) (hS : wfS M) (hC : wfC M) (hv : v < 270) (h52 : M.2 52 v = nI t) (ht : t < 12) (ht0 : t ≠ 0) (hj : j < (optL M t (mC M)).length) (hn : M.1 6 = nI n) (hb : n + 2 ≤ 270) {post : mj_O → mj_H → Prop} (k : ∀ c, c < mC M → (optL M t (mC M))[j]? = some c → post (.inl none) (hp K (fillC M v c n) o, nc, ns)) : mj_G y_M_fill b_M_fill 5 none [] (d + 2) none 0 [(0, .ref 38), (1, .int (nI v)), (2, .int (nI j))] [] (hp K M o, nc, ns) post := by
  have hlen := optL_len M t (mC M)
  have hC3 := hC.2.1
  refine G_aload_n 0 d_M_fill_0 rfl ?_
  refine G_gt d_M_fill_1 fr_M_54 (rd_M_nodeSort K M o) ?_
  refine G_iload_n 1 d_M_fill_4 rfl ?_
  refine G_ialN d_M_fill_5 (ar_52 K M o) (by decide) (by omega) ?_
  rw [h52]
  refine G_ifne 53 d_M_fill_6 (by decide) (fun h6 => ?_) (fun h6 => False.elim (ht0 ((nI_eq (by omega) (by omega)).mp (show nI t = nI 0 from h6))))
  refine G_iconst (v := (nI 0 - 1)) d_M_fill_53 (by decide) ?_
  refine G_istore_n (ls' := [(3, .int (nI 0 - 1)), (0, .ref 38), (1, .int (nI v)), (2, .int (nI j))]) d_M_fill_54 (by decide) rfl ?_
  refine G_iload_n 3 d_M_fill_55 rfl ?_
  refine G_istore (ls' := [(4, .int (nI j)), (3, .int (nI 0 - 1)), (0, .ref 38), (1, .int (nI v)), (2, .int (nI j))]) d_M_fill_56 (by decide) rfl ?_
  rw [← nI_pred j]; exact l_M_fillO v t j _ hS hC hv h52 ht hj (fun c x4 g1 g2 => l_M_fillE v c n x4 _ hC g1 hv hn hb (k c g1 g2)) (j + 1) 0 (by omega) (by show 0 + _ = _; omega) (fun z => absurd z (by omega))
end
section
/-! partial trees: a label (a number, a con, or a number beyond all) at a path (nearest part first) -/
abbrev Tr : Type := List Nat → Option Int
def BIG : Int := 1125899906842624
def askL (M : MC) : Nat → Nat → List Nat → List (List Nat × Int)
  | 0, _, _ => []
  | f + 1, p, r => if pk M p = 0 then [] else if pk M p = 1 then [(r, (M.2 45 p).toInt)] else (r, lab (pn M p)) :: ((if 1 ≤ cP M (pn M p) then askL M f (pf M p) (0 :: r) else []) ++ (if 2 ≤ cP M (pn M p) then askL M f (pg M p) (1 :: r) else []))
theorem askL_any {M : MC} {f p : Nat} {r : List Nat} (h : pk M p = 0) : askL M (f + 1) p r = [] := if_pos h
theorem askL_num {M : MC} {f p : Nat} {r : List Nat} (h : pk M p = 1) : askL M (f + 1) p r = [(r, (M.2 45 p).toInt)] := by
  show (if pk M p = 0 then _ else _) = _
  rw [if_neg (by omega), if_pos h]
theorem askL_made {M : MC} {f p : Nat} {r : List Nat} (h : pk M p = 2) : askL M (f + 1) p r = (r, lab (pn M p)) :: ((if 1 ≤ cP M (pn M p) then askL M f (pf M p) (0 :: r) else []) ++ (if 2 ≤ cP M (pn M p) then askL M f (pg M p) (1 :: r) else [])) := by
  show (if pk M p = 0 then _ else _) = _
  rw [if_neg (by omega), if_neg (by omega)]
theorem askL_len {M : MC} (hP : wfP M) : ∀ (f p : Nat) (r : List Nat), p < mP M → pd M p < f → (askL M f p r).length = pd M p := by
  intro f
  induction f with
  | zero => intro p r _ h; omega
  | succ f ih =>
    intro p r hp hf
    obtain ⟨⟨-, b43⟩, -, -, w4, w5, w6⟩ := hP.2.2 p hp
    rcases (show pk M p = 0 ∨ pk M p = 1 ∨ pk M p = 2 by omega) with h | h | h
    · rw [askL_any h, w4 h]; rfl
    · rw [askL_num h, (w5 h).2]; rfl
    · obtain ⟨-, mF, mG, dd⟩ := w6 h
      rw [askL_made h, List.length_cons, List.length_append, dd]
      by_cases h1 : 1 ≤ cP M (pn M p)
      · rw [if_pos h1] at dd
        rw [if_pos h1, if_pos h1, ih (pf M p) _ (by have := (mF h1).2.1; omega) (by omega)]
        by_cases h2 : 2 ≤ cP M (pn M p)
        · rw [if_pos h2] at dd
          rw [if_pos h2, if_pos h2, ih (pg M p) _ (by have := (mG h2).2.1; omega) (by omega)]; omega
        · rw [if_neg h2, if_neg h2]; show _ + 0 + 1 = _; omega
      · rw [if_neg h1, if_neg h1, if_neg (by omega), if_neg (by omega)]; rfl
theorem askL_lab {M : MC} : ∀ (f p : Nat) (r : List Nat) (x : List Nat × Int), x ∈ askL M f p r → x.2 ∈ labL M f p := by
  intro f
  induction f with
  | zero => intro p r x h; cases h
  | succ f ih =>
    intro p r x h
    unfold askL at h
    unfold labL
    by_cases h0 : pk M p = 0
    · rw [if_pos h0] at h; cases h
    · rw [if_neg h0] at h ⊢
      by_cases h1 : pk M p = 1
      · rw [if_pos h1] at h ⊢
        rw [List.mem_singleton.mp h]; exact List.mem_cons_self
      · rw [if_neg h1] at h ⊢
        rcases List.mem_cons.mp h with rfl | h
        · exact List.mem_cons_self
        · refine List.mem_cons_of_mem _ ?_
          rcases List.mem_append.mp h with h | h
          · refine List.mem_append_left _ ?_
            by_cases e : 1 ≤ cP M (pn M p)
            · rw [if_pos e] at h ⊢; exact ih _ _ _ h
            · rw [if_neg e] at h; cases h
          · refine List.mem_append_right _ ?_
            by_cases e : 2 ≤ cP M (pn M p)
            · rw [if_pos e] at h ⊢; exact ih _ _ _ h
            · rw [if_neg e] at h; cases h
/-- the reference's nodes, read: node v stands at a path, with a sort -/
abbrev XS : Type := List (List Nat × Nat) × Tr
def repV (N : MC) (X : XS) (v : Nat) (r : List Nat) (t : Nat) : Prop := (nK N v = 0 ∧ X.2 r = none) ∨ (nK N v = 1 ∧ t = 0 ∧ X.2 r = some (N.2 53 v).toInt) ∨ (nK N v = 3 ∧ t = 0 ∧ X.2 r = some BIG) ∨
  (nK N v = 2 ∧ ∃ c, N.2 53 v = nI c ∧ c < mC N ∧ cS N c = t ∧ X.2 r = some (lab c) ∧ (1 ≤ cP N c → ∃ g, N.2 54 v = nI g ∧ X.1[g]? = some (0 :: r, cF N c)) ∧ (2 ≤ cP N c → ∃ g, N.2 55 v = nI g ∧ X.1[g]? = some (1 :: r, cG N c)))
def RepX (N : MC) (X : XS) : Prop := N.1 6 = nI X.1.length ∧ X.1.length ≤ 270 ∧ ∀ v r t, X.1[v]? = some (r, t) → (N.2 51 v = nI (nK N v) ∧ nK N v ≤ 3) ∧ N.2 52 v = nI t ∧ t < mS N ∧ repV N X v r t
theorem RepX_n {N : MC} {X : XS} (h : RepX N X) : nN N = X.1.length := by
  show (N.1 6).toNatClampNeg = _
  rw [h.1, nI_clamp (by have := h.2.1; omega)]
theorem lt_of_get {α : Type} {l : List α} {k : Nat} {x : α} (h : l[k]? = some x) : k < l.length := (List.getElem?_eq_some_iff.mp h).1
theorem RepX_wf {N : MC} {X : XS} (h : RepX N X) (hS : wfS N) (hC : wfC N) : wfN N := by
  have hn := RepX_n h
  have hs12 := hS.2.2
  refine ⟨by rw [hn]; exact h.1, by rw [hn]; exact h.2.1, fun v hv => ?_⟩
  rw [hn] at hv
  have hg : X.1[v]? = some (X.1[v].1, X.1[v].2) := List.getElem?_eq_getElem hv
  obtain ⟨a1, a2, a3, a4⟩ := h.2.2 v _ _ hg
  have hns : nS N v = X.1[v].2 := by show (N.2 52 v).toNatClampNeg = _; rw [a2, nI_clamp (by omega)]
  refine ⟨a1, ⟨by rw [hns]; exact a2, by rw [hns]; exact a3⟩, fun z => ?_, fun z => ?_, fun z => ?_⟩
  · rcases a4 with ⟨q, -⟩ | ⟨q, q2, -⟩ | ⟨q, q2, -⟩ | ⟨q, -⟩ <;> first | omega | (rw [hns]; exact q2)
  · rcases a4 with ⟨q, -⟩ | ⟨q, q2, -⟩ | ⟨q, q2, -⟩ | ⟨q, -⟩ <;> first | omega | (rw [hns]; exact q2)
  · rcases a4 with ⟨q, -⟩ | ⟨q, q2, -⟩ | ⟨q, q2, -⟩ | ⟨q, c, b1, b2, b3, b4, b5, b6⟩
    · omega
    · omega
    · omega
    · have hc30 := hC.2.1
      have hw : nW N v = c := by show (N.2 53 v).toNatClampNeg = _; rw [b1, nI_clamp (by omega)]
      rw [hw]
      refine ⟨⟨b1, b2, by rw [hns, b3]⟩, fun z => ?_, fun z => ?_⟩
      · obtain ⟨g, g1, g2⟩ := b5 z
        have hlt := lt_of_get g2
        have h270 := h.2.1
        have hf : nF N v = g := by show (N.2 54 v).toNatClampNeg = _; rw [g1, nI_clamp (by omega)]
        obtain ⟨-, c2, c3, -⟩ := h.2.2 g _ _ g2
        rw [hf]
        exact ⟨g1, by rw [hn]; exact hlt, by show (N.2 52 g).toNatClampNeg = _; rw [c2, nI_clamp (by omega)]⟩
      · obtain ⟨g, g1, g2⟩ := b6 z
        have hlt := lt_of_get g2
        have h270 := h.2.1
        have hf : nG N v = g := by show (N.2 55 v).toNatClampNeg = _; rw [g1, nI_clamp (by omega)]
        obtain ⟨-, c2, c3, -⟩ := h.2.2 g _ _ g2
        rw [hf]
        exact ⟨g1, by rw [hn]; exact hlt, by show (N.2 52 g).toNatClampNeg = _; rw [c2, nI_clamp (by omega)]⟩
theorem lab_inj {a b : Nat} (h : lab a = lab b) : a = b := by unfold lab at h; omega
theorem toInt_lt (x : Int32) : -2147483648 ≤ x.toInt ∧ x.toInt < 2147483648 := ⟨Int32.le_toInt x, Int32.toInt_lt x⟩
/-- what fit answers, of the tree -/
theorem fit_rel {N : MC} {X : XS} (hS : wfS N) (hC : wfC N) (hP : wfP N) (hR : RepX N X) : ∀ (f p v : Nat) (r : List Nat), p < mP N → pd N p < f → X.1[v]? = some (r, ps N p) →
    ((fitR N f p v).1 = 1 → ∀ x ∈ askL N f p r, X.2 x.1 = some x.2) ∧ ((fitR N f p v).1 = 0 → ∃ x ∈ askL N f p r, ∃ b, X.2 x.1 = some b ∧ b ≠ x.2) ∧
    ((fitR N f p v).1 = 2 → ∃ r2 t2, X.1[(fitR N f p v).2]? = some (r2, t2) ∧ X.2 r2 = none ∧ ∃ x ∈ askL N f p r, x.1 = r2) := by
  have hc30 := hC.2.1
  have h270 := hR.2.1
  intro f
  induction f with
  | zero => intro p v r _ h; omega
  | succ f ih =>
    intro p v r hp hf hv
    obtain ⟨⟨-, b43⟩, -, -, w4, w5, w6⟩ := hP.2.2 p hp
    obtain ⟨⟨a1, a1'⟩, a2, a3, a4⟩ := hR.2.2 v _ _ hv
    rw [fitR_s]
    by_cases e0 : pk N p = 0
    · rw [if_pos e0, askL_any e0]
      exact ⟨fun _ x hx => (by cases hx), fun z => absurd z (by decide), fun z => absurd z (by decide)⟩
    rw [if_neg e0]
    by_cases e1 : nK N v = 0
    · rw [if_pos e1]
      refine ⟨fun z => absurd (show (2 : Nat) = 1 from z) (by decide), fun z => absurd (show (2 : Nat) = 0 from z) (by decide), fun _ => ⟨r, _, hv, ?_, ?_⟩⟩
      · rcases a4 with ⟨-, q⟩ | ⟨q, -⟩ | ⟨q, -⟩ | ⟨q, -⟩ <;> first | exact q | omega
      · rcases (show pk N p = 1 ∨ pk N p = 2 by omega) with h | h
        · rw [askL_num h]; exact ⟨_, List.mem_cons_self, rfl⟩
        · rw [askL_made h]; exact ⟨_, List.mem_cons_self, rfl⟩
    rw [if_neg e1]
    by_cases e2 : pk N p = 1
    · rw [if_pos e2, askL_num e2]
      have hps := (w5 e2).1
      by_cases e3 : nK N v = 1 ∧ N.2 53 v = N.2 45 p
      · rw [if_pos e3]
        refine ⟨fun _ x hx => ?_, fun z => absurd z (by decide), fun z => absurd z (by decide)⟩
        rw [List.mem_singleton.mp hx]
        rcases a4 with ⟨q, -⟩ | ⟨-, -, q⟩ | ⟨q, -⟩ | ⟨q, -⟩
        · omega
        · rw [q, e3.2]
        · omega
        · omega
      · rw [if_neg e3]
        refine ⟨fun z => absurd z (by decide), fun _ => ⟨_, List.mem_cons_self, ?_⟩, fun z => absurd z (by decide)⟩
        rcases a4 with ⟨q, -⟩ | ⟨q1, -, q⟩ | ⟨-, -, q⟩ | ⟨q, c, -, b2, b3, -⟩
        · omega
        · exact ⟨_, q, fun z => e3 ⟨q1, Int32.toInt_inj.mp z⟩⟩
        · refine ⟨_, q, ?_⟩
          have := toInt_lt (N.2 45 p)
          show ¬ BIG = (N.2 45 p).toInt
          unfold BIG
          omega
        · have := (hC.2.2 c b2).1.2.1
          omega
    rw [if_neg e2]
    have e22 : pk N p = 2 := by omega
    obtain ⟨⟨e45, b45, s45⟩, mF, mG, dd⟩ := w6 e22
    have hcs := (hC.2.2 (pn N p) b45).1.2.1
    obtain ⟨c, b1, b2, b3, b4, b5, b6⟩ : ∃ c, N.2 53 v = nI c ∧ c < mC N ∧ cS N c = ps N p ∧ X.2 r = some (lab c) ∧ (1 ≤ cP N c → ∃ g, N.2 54 v = nI g ∧ X.1[g]? = some (0 :: r, cF N c)) ∧ (2 ≤ cP N c → ∃ g, N.2 55 v = nI g ∧ X.1[g]? = some (1 :: r, cG N c)) := by
      rcases a4 with ⟨q, -⟩ | ⟨-, q, -⟩ | ⟨-, q, -⟩ | ⟨-, q⟩
      · omega
      · omega
      · omega
      · exact q
    by_cases e3 : N.2 53 v = N.2 45 p
    · rw [if_neg (fun z => z e3), askL_made e22]
      have ecc : c = pn N p := by rw [b1, e45] at e3; exact (nI_eq (by omega) (by omega)).mp e3
      subst ecc
      by_cases e4 : cP N (pn N p) < 1
      · rw [if_pos e4, if_neg (by omega), if_neg (by omega)]
        refine ⟨fun _ x hx => ?_, fun z => absurd z (by decide), fun z => absurd z (by decide)⟩
        rw [List.mem_singleton.mp hx]; exact b4
      · rw [if_neg e4]
        obtain ⟨g, g1, g2⟩ := b5 (by omega)
        have hlt := lt_of_get g2
        have hnf : nF N v = g := by show (N.2 54 v).toNatClampNeg = _; rw [g1, nI_clamp (by omega)]
        obtain ⟨f1, f2, f3⟩ := mF (by omega)
        rw [if_pos (show 1 ≤ cP N (pn N p) by omega)] at dd
        rw [if_pos (show 1 ≤ cP N (pn N p) by omega), hnf]
        obtain ⟨i1, i2, i3⟩ := ih (pf N p) g (0 :: r) (by omega) (by omega) (by rw [f3]; exact g2)
        by_cases e5 : (fitR N f (pf N p) g).1 ≠ 1 ∨ cP N (pn N p) < 2
        · rw [if_pos e5]
          refine ⟨fun z => ?_, fun z => ?_, fun z => ?_⟩
          · have h2 : cP N (pn N p) < 2 := e5.elim (fun q => absurd z q) id
            intro x hx
            rw [if_neg (by omega), List.append_nil] at hx
            rcases List.mem_cons.mp hx with rfl | hx
            · exact b4
            · exact i1 z x hx
          · obtain ⟨x, hx, hb⟩ := i2 z
            exact ⟨x, List.mem_cons_of_mem _ (List.mem_append_left _ hx), hb⟩
          · obtain ⟨r2, t2, j1, j2, x, hx, j3⟩ := i3 z
            exact ⟨r2, t2, j1, j2, x, List.mem_cons_of_mem _ (List.mem_append_left _ hx), j3⟩
        · rw [if_neg e5]
          have e6 : (fitR N f (pf N p) g).1 = 1 := Classical.byContradiction fun q => e5 (Or.inl q)
          have e7 : 2 ≤ cP N (pn N p) := by
            rcases Nat.lt_or_ge (cP N (pn N p)) 2 with q | q
            · exact absurd (Or.inr q) e5
            · exact q
          obtain ⟨g', g1', g2'⟩ := b6 e7
          have hlt' := lt_of_get g2'
          have hng : nG N v = g' := by show (N.2 55 v).toNatClampNeg = _; rw [g1', nI_clamp (by omega)]
          obtain ⟨f1', f2', f3'⟩ := mG e7
          rw [if_pos e7] at dd
          rw [if_pos e7, hng]
          obtain ⟨k1, k2, k3⟩ := ih (pg N p) g' (1 :: r) (by omega) (by omega) (by rw [f3']; exact g2')
          refine ⟨fun z x hx => ?_, fun z => ?_, fun z => ?_⟩
          · rcases List.mem_cons.mp hx with rfl | hx
            · exact b4
            · rcases List.mem_append.mp hx with hx | hx
              · exact i1 e6 x hx
              · exact k1 z x hx
          · obtain ⟨x, hx, hb⟩ := k2 z
            exact ⟨x, List.mem_cons_of_mem _ (List.mem_append_right _ hx), hb⟩
          · obtain ⟨r2, t2, j1, j2, x, hx, j3⟩ := k3 z
            exact ⟨r2, t2, j1, j2, x, List.mem_cons_of_mem _ (List.mem_append_right _ hx), j3⟩
    · rw [if_pos e3, askL_made e22]
      refine ⟨fun z => absurd z (by decide), fun _ => ⟨_, List.mem_cons_self, _, b4, fun z => e3 ?_⟩, fun z => absurd z (by decide)⟩
      rw [b1, e45, lab_inj z]
end
section
/-! states that differ in the nodes alone -/
def sT (N M : MC) : Prop := (∀ k, k ≠ 6 → k ≠ 8 → N.1 k = M.1 k) ∧ ∀ a, (a < 51 ∨ 55 < a) → N.2 a = M.2 a
theorem sT_refl (M : MC) : sT M M := ⟨fun _ _ _ => rfl, fun _ _ => rfl⟩
theorem sT_trans {A B C : MC} (h1 : sT A B) (h2 : sT B C) : sT A C := ⟨fun k a b => (h1.1 k a b).trans (h2.1 k a b), fun k a => (h1.2 k a).trans (h2.2 k a)⟩
theorem sT_mi6 (M : MC) (v : Int32) : sT (mi M 6 v) M := ⟨fun k h _ => pk_un h, fun _ _ => rfl⟩
theorem sT_mi8 (M : MC) (v : Int32) : sT (mi M 8 v) M := ⟨fun k _ h => pk_un h, fun _ _ => rfl⟩
theorem sT_ma {M : MC} {a i : Nat} {v : Int32} (h : 51 ≤ a) (h2 : a ≤ 55) : sT (ma M a i v) M := ⟨fun _ _ _ => rfl, fun b hb => va_up_ne _ _ (by omega)⟩
theorem sT_node {M : MC} {n : Nat} {x : Int32} : sT (nodeM M n x) M := sT_trans (sT_mi6 _ _) (sT_trans (sT_ma (by omega) (by omega)) (sT_ma (by omega) (by omega)))
theorem sT_fillI {M : MC} {v j m : Nat} : sT (fillI M v j m) M := sT_trans (sT_ma (by omega) (by omega)) (sT_ma (by omega) (by omega))
theorem sT_fillC {M : MC} {v c n : Nat} : sT (fillC M v c n) M := by
  have h1 : sT (ma (ma M 51 v 2) 53 v (nI c)) M := sT_trans (sT_ma (by omega) (by omega)) (sT_ma (by omega) (by omega))
  have h2 : sT (ma (nodeM (ma (ma M 51 v 2) 53 v (nI c)) n (M.2 41 c)) 54 v (nI n)) M := sT_trans (sT_ma (by omega) (by omega)) (sT_trans sT_node h1)
  unfold fillC
  split
  · exact sT_trans (sT_ma (by omega) (by omega)) (sT_trans sT_node h2)
  · split
    · exact h2
    · exact h1
theorem sT_wfS {N M : MC} (h : sT N M) (hS : wfS M) : wfS N := by
  unfold wfS mS at *
  rw [h.1 1 (by decide) (by decide)]; exact hS
theorem sT_wfC {N M : MC} (h : sT N M) (hC : wfC M) : wfC N := by
  unfold wfC mC mS cS cP cF cG at *
  rw [h.1 1 (by decide) (by decide), h.1 2 (by decide) (by decide), h.2 39 (by decide), h.2 40 (by decide), h.2 41 (by decide), h.2 42 (by decide)]; exact hC
theorem sT_wfP {N M : MC} (h : sT N M) (hP : wfP M) : wfP N := by
  unfold wfP okP mP pk ps pn pf pg pd mC mS cS cP cF cG at *
  rw [h.1 1 (by decide) (by decide), h.1 2 (by decide) (by decide), h.1 3 (by decide) (by decide), h.2 39 (by decide), h.2 40 (by decide), h.2 41 (by decide), h.2 42 (by decide), h.2 43 (by decide), h.2 44 (by decide), h.2 45 (by decide), h.2 46 (by decide), h.2 47 (by decide), h.2 48 (by decide)]; exact hP
theorem sT_optL {N M : MC} (h : sT N M) (s n : Nat) : optL N s n = optL M s n := by
  have e : ∀ c, (cS N c = s ∧ tri N c) ↔ (cS M c = s ∧ tri M c) := fun c => by
    unfold tri usdD cS cP cF cG
    rw [h.2 39 (by decide), h.2 40 (by decide), h.2 41 (by decide), h.2 42 (by decide), h.2 50 (by decide), h.2 59 (by decide)]
  unfold optL
  exact List.filter_congr (fun c _ => decide_eq_decide.mpr (e c))
theorem sT_askL {N M : MC} (h : sT N M) : ∀ (f p : Nat) (r : List Nat), askL N f p r = askL M f p r := by
  intro f
  induction f with
  | zero => intro p r; rfl
  | succ f ih =>
    intro p r
    unfold askL
    unfold pk pn pf pg cP
    rw [h.2 43 (by decide), h.2 45 (by decide), h.2 46 (by decide), h.2 47 (by decide), h.2 40 (by decide)]
    rw [ih, ih]
theorem sT_cs {N M : MC} (h : sT N M) : mS N = mS M ∧ mC N = mC M ∧ mP N = mP M ∧ (∀ c, cS N c = cS M c) ∧ (∀ c, cP N c = cP M c) ∧ (∀ c, cF N c = cF M c) ∧ (∀ c, cG N c = cG M c) ∧ (∀ p, ps N p = ps M p) ∧ (∀ p, pd N p = pd M p) := by
  unfold mS mC mP cS cP cF cG ps pd
  rw [h.1 1 (by decide) (by decide), h.1 2 (by decide) (by decide), h.1 3 (by decide) (by decide), h.2 39 (by decide), h.2 40 (by decide), h.2 41 (by decide), h.2 42 (by decide), h.2 44 (by decide), h.2 48 (by decide)]
  exact ⟨rfl, rfl, rfl, fun _ => rfl, fun _ => rfl, fun _ => rfl, fun _ => rfl, fun _ => rfl, fun _ => rfl⟩
/-! trees that a value may have -/
def usdV (M : MC) (c : Nat) : Prop := (1 ≤ cP M c → LV M (cF M c)) ∧ (2 ≤ cP M c → LV M (cG M c))
def pso (M : MC) (a : Int) (k : Nat) : Option Nat := if 1099511627776 ≤ a ∧ a < 1099511627776 + 30 then (if k = 0 ∧ 1 ≤ cP M (a - 1099511627776).toNat then some (cF M (a - 1099511627776).toNat) else if k = 1 ∧ 2 ≤ cP M (a - 1099511627776).toNat then some (cG M (a - 1099511627776).toNat) else none) else none
def srt (M : MC) (s0 : Nat) (t : Tr) : List Nat → Option Nat
  | [] => some s0
  | k :: r => match t r with
    | some a => pso M a k
    | none => none
def okA (M : MC) (s : Nat) (a : Int) : Prop := (s = 0 ∧ ∀ c, c < 30 → a ≠ lab c) ∨ (∃ c, a = lab c ∧ c < mC M ∧ cS M c = s ∧ usdV M c)
def wfT (M : MC) (s0 : Nat) (t : Tr) : Prop := ∀ r a, t r = some a → ∃ s, srt M s0 t r = some s ∧ okA M s a
def updT (u : Tr) (r : List Nat) (a : Int) : Tr := fun q => if q = r then some a else u q
theorem updT_s {u : Tr} {r : List Nat} {a : Int} : updT u r a r = some a := if_pos rfl
theorem updT_n {u : Tr} {r q : List Nat} {a : Int} (h : q ≠ r) : updT u r a q = u q := if_neg h
theorem pso_lab0 {M : MC} {c : Nat} (hc : c < 30) (h : 1 ≤ cP M c) : pso M (lab c) 0 = some (cF M c) := by
  unfold pso lab
  have e : ((1099511627776 : Int) + c - 1099511627776).toNat = c := by omega
  rw [if_pos (by omega), e, if_pos ⟨rfl, h⟩]
theorem pso_lab1 {M : MC} {c : Nat} (hc : c < 30) (h : 2 ≤ cP M c) : pso M (lab c) 1 = some (cG M c) := by
  unfold pso lab
  have e : ((1099511627776 : Int) + c - 1099511627776).toNat = c := by omega
  rw [if_pos (by omega), e, if_neg (by omega), if_pos ⟨rfl, h⟩]
theorem pso_some {M : MC} {a : Int} {k s : Nat} (h : pso M a k = some s) : ∃ c, c < 30 ∧ a = lab c ∧ ((k = 0 ∧ 1 ≤ cP M c ∧ s = cF M c) ∨ (k = 1 ∧ 2 ≤ cP M c ∧ s = cG M c)) := by
  unfold pso at h
  split at h
  next hb =>
    refine ⟨(a - 1099511627776).toNat, by omega, by unfold lab; omega, ?_⟩
    split at h
    next h1 => exact Or.inl ⟨h1.1, h1.2, (Option.some.inj h).symm⟩
    next =>
      split at h
      next h1 => exact Or.inr ⟨h1.1, h1.2, (Option.some.inj h).symm⟩
      next => cases h
  next => cases h
theorem srt_cons {M : MC} {s0 : Nat} {t : Tr} {k : Nat} {r : List Nat} {a : Int} (h : t r = some a) : srt M s0 t (k :: r) = pso M a k := by
  show (match t r with | some a => pso M a k | none => none) = _
  rw [h]
theorem srt_some {M : MC} {s0 : Nat} {t : Tr} {k s : Nat} {r : List Nat} (h : srt M s0 t (k :: r) = some s) : ∃ a, t r = some a ∧ pso M a k = some s := by
  have h : (match t r with | some a => pso M a k | none => none) = some s := h
  cases e : t r with
  | none => rw [e] at h; cases h
  | some a => rw [e] at h; exact ⟨a, rfl, h⟩
/-- the sort at a path hangs on the labels above it -/
theorem srt_mono {M : MC} {s0 : Nat} {t u : Tr} (he : ∀ r a, t r = some a → u r = some a) : ∀ (r : List Nat) (s : Nat), srt M s0 t r = some s → srt M s0 u r = some s := by
  intro r
  cases r with
  | nil => intro s h; exact h
  | cons k r =>
    intro s h
    obtain ⟨a, h1, h2⟩ := srt_some h
    rw [srt_cons (he r a h1)]; exact h2
theorem ext_updT {u : Tr} {r : List Nat} {a : Int} (h : u r = none) : ∀ q b, u q = some b → updT u r a q = some b := fun q b hb => by
  by_cases e : q = r
  · rw [e, h] at hb; cases hb
  · rw [updT_n e]; exact hb
theorem wfT_upd {M : MC} {s0 s : Nat} {u : Tr} {r : List Nat} {a : Int} (hw : wfT M s0 u) (hu : u r = none) (hs : srt M s0 u r = some s) (ha : okA M s a) : wfT M s0 (updT u r a) := by
  intro q b hb
  by_cases e : q = r
  · subst e
    rw [updT_s] at hb
    cases hb
    exact ⟨s, srt_mono (ext_updT hu) _ _ hs, ha⟩
  · rw [updT_n e] at hb
    obtain ⟨s2, h1, h2⟩ := hw q b hb
    exact ⟨s2, srt_mono (ext_updT hu) _ _ h1, h2⟩
/-- the read nodes are in order -/
def XW (M : MC) (s0 : Nat) (X : XS) : Prop := (∀ (i j : Nat) (r : List Nat) (t t' : Nat), X.1[i]? = some (r, t) → X.1[j]? = some (r, t') → i = j) ∧ X.1[0]? = some ([], s0) ∧ (∀ (v : Nat) (r : List Nat) (t : Nat), X.1[v]? = some (r, t) → srt M s0 X.2 r = some t ∧ LV M t) ∧ wfT M s0 X.2
def kids (M : MC) (c : Nat) (r : List Nat) : List (List Nat × Nat) := (if 1 ≤ cP M c then [(0 :: r, cF M c)] else []) ++ (if 2 ≤ cP M c then [(1 :: r, cG M c)] else [])
def xI (X : XS) (r : List Nat) (a : Int) : XS := (X.1, updT X.2 r a)
def xC (M : MC) (X : XS) (r : List Nat) (c : Nat) : XS := (X.1 ++ kids M c r, updT X.2 r (lab c))
theorem XW_0 {M : MC} {s0 : Nat} (h : LV M s0) : XW M s0 ([([], s0)], fun _ => none) := by
  refine ⟨fun i j r t t' h1 h2 => ?_, rfl, fun v r t h1 => ?_, fun r a h1 => by cases h1⟩
  · have := lt_of_get h1; have := lt_of_get h2
    have a1 : i < 1 := by assumption
    have a2 : j < 1 := by assumption
    omega
  · have hv : v < 1 := lt_of_get h1
    rw [show v = 0 by omega] at h1
    cases h1
    exact ⟨rfl, h⟩
theorem XW_I {M : MC} {s0 : Nat} {X : XS} {v : Nat} {r : List Nat} {a : Int} (hX : XW M s0 X) (hv : X.1[v]? = some (r, 0)) (hn : X.2 r = none) (ha : ∀ c, c < 30 → a ≠ lab c) : XW M s0 (xI X r a) :=
  ⟨hX.1, hX.2.1, fun w q t h => ⟨srt_mono (ext_updT hn) _ _ (hX.2.2.1 w q t h).1, (hX.2.2.1 w q t h).2⟩, wfT_upd hX.2.2.2 hn (hX.2.2.1 v r 0 hv).1 (Or.inl ⟨rfl, ha⟩)⟩
theorem kids_get {M : MC} {c : Nat} {r : List Nat} {i : Nat} {q : List Nat} {t : Nat} (h : (kids M c r)[i]? = some (q, t)) : (i = 0 ∧ 1 ≤ cP M c ∧ q = 0 :: r ∧ t = cF M c) ∨ (2 ≤ cP M c ∧ i = 1 ∧ q = 1 :: r ∧ t = cG M c) := by
  unfold kids at h
  by_cases h1 : 1 ≤ cP M c
  · rw [if_pos h1] at h
    by_cases h2 : 2 ≤ cP M c
    · rw [if_pos h2] at h
      have hl : i < 2 := lt_of_get h
      rcases (show i = 0 ∨ i = 1 by omega) with rfl | rfl
      · cases h; exact Or.inl ⟨rfl, h1, rfl, rfl⟩
      · cases h; exact Or.inr ⟨h2, rfl, rfl, rfl⟩
    · rw [if_neg h2] at h
      have hl : i < 1 := lt_of_get h
      rw [show i = 0 by omega] at h ⊢
      cases h; exact Or.inl ⟨rfl, h1, rfl, rfl⟩
  · rw [if_neg h1, if_neg (by omega)] at h
    have hl : i < 0 := lt_of_get h
    omega
theorem app_get {α : Type} {a b : List α} {i : Nat} {x : α} (h : (a ++ b)[i]? = some x) : (i < a.length ∧ a[i]? = some x) ∨ ∃ j, i = a.length + j ∧ b[j]? = some x := by
  by_cases hl : i < a.length
  · rw [List.getElem?_append_left hl] at h; exact Or.inl ⟨hl, h⟩
  · rw [List.getElem?_append_right (by omega)] at h
    exact Or.inr ⟨i - a.length, by omega, h⟩
theorem XW_C {M : MC} {s0 : Nat} {X : XS} {v c : Nat} {r : List Nat} (hC : mC M ≤ 30) (hX : XW M s0 X) (hv : X.1[v]? = some (r, cS M c)) (hn : X.2 r = none) (hc : c < mC M) (hu : usdV M c) : XW M s0 (xC M X r c) := by
  have hno : ∀ (k w t : Nat), X.1[w]? = some (k :: r, t) → False := fun k w t h => by
    obtain ⟨a, h1, -⟩ := srt_some (hX.2.2.1 w _ t h).1
    rw [hn] at h1; cases h1
  refine ⟨fun i j q t t' h1 h2 => ?_, ?_, fun w q t h => ?_, wfT_upd hX.2.2.2 hn (hX.2.2.1 v r _ hv).1 (Or.inr ⟨c, rfl, hc, rfl, hu⟩)⟩
  · rcases app_get h1 with ⟨-, z1⟩ | ⟨i', ei, z1⟩ <;> rcases app_get h2 with ⟨-, z2⟩ | ⟨j', ej, z2⟩
    · exact hX.1 i j q t t' z1 z2
    · rcases kids_get z2 with ⟨-, -, rfl, -⟩ | ⟨-, -, rfl, -⟩ <;> exact (hno _ _ _ z1).elim
    · rcases kids_get z1 with ⟨-, -, rfl, -⟩ | ⟨-, -, rfl, -⟩ <;> exact (hno _ _ _ z2).elim
    · rcases kids_get z1 with ⟨a1, -, e1, -⟩ | ⟨-, a1, e1, -⟩ <;> rcases kids_get z2 with ⟨a2, -, e2, -⟩ | ⟨-, a2, e2, -⟩
      · omega
      · rw [e1] at e2; cases e2
      · rw [e1] at e2; cases e2
      · omega
  · show (X.1 ++ kids M c r)[0]? = _
    rw [List.getElem?_append_left (lt_of_get hX.2.1)]; exact hX.2.1
  · rcases app_get h with ⟨-, z⟩ | ⟨i', ei, z⟩
    · exact ⟨srt_mono (ext_updT hn) _ _ (hX.2.2.1 w q t z).1, (hX.2.2.1 w q t z).2⟩
    · rcases kids_get z with ⟨-, h1, rfl, rfl⟩ | ⟨h1, -, rfl, rfl⟩
      · exact ⟨by rw [srt_cons (show (xC M X r c).2 r = some (lab c) from updT_s)]; exact pso_lab0 (by omega) h1, hu.1 h1⟩
      · exact ⟨by rw [srt_cons (show (xC M X r c).2 r = some (lab c) from updT_s)]; exact pso_lab1 (by omega) h1, hu.2 h1⟩
end
section
/-! a fill, read -/
theorem ma_old {M : MC} {a i b v : Nat} {x : Int32} (h : v ≠ i) : (ma M a i x).2 b v = M.2 b v := by
  show (va_up M.2 a (upd (M.2 a) i x)) b v = _
  by_cases e : b = a
  · rw [e, va_up_self, pk_un h]
  · rw [va_up_ne _ _ e]
theorem nodeM_old {M : MC} {n b v : Nat} {x : Int32} (h : v ≠ n) : (nodeM M n x).2 b v = M.2 b v := by
  show (ma (ma M 51 n 0) 52 n x).2 b v = _
  rw [ma_old h, ma_old h]
theorem fillC_old {N : MC} {h c n v a : Nat} (hv : v ≠ h) (hn : v < n) : (fillC N h c n).2 a v = N.2 a v := by
  have h1 : v ≠ n := by omega
  have h2 : v ≠ n + 1 := by omega
  unfold fillC
  split
  · rw [ma_old hv, nodeM_old h2, ma_old hv, nodeM_old h1, ma_old hv, ma_old hv]
  · split
    · rw [ma_old hv, nodeM_old h1, ma_old hv, ma_old hv]
    · rw [ma_old hv, ma_old hv]
theorem fillC_h {N : MC} {h c n : Nat} (hn : h < n) : (fillC N h c n).2 51 h = 2 ∧ (fillC N h c n).2 52 h = N.2 52 h ∧ (fillC N h c n).2 53 h = nI c ∧ (1 ≤ cP N c → (fillC N h c n).2 54 h = nI n) ∧ (2 ≤ cP N c → (fillC N h c n).2 55 h = nI (n + 1)) := by
  have h1 : h ≠ n := by omega
  have h2 : h ≠ n + 1 := by omega
  unfold fillC
  split
  next q => refine ⟨?_, ?_, ?_, fun _ => ?_, fun _ => ?_⟩ <;> simp [ma, mi, nodeM, va_up, upd, h1, h2]
  next q =>
    split
    next q2 => refine ⟨?_, ?_, ?_, fun _ => ?_, fun z => absurd z q⟩ <;> simp [ma, mi, nodeM, va_up, upd, h1, h2]
    next q2 => refine ⟨?_, ?_, ?_, fun z => absurd z q2, fun z => absurd z q⟩ <;> simp [ma, mi, nodeM, va_up, upd, h1, h2]
theorem fillC_n {N : MC} {h c n : Nat} (hn : h < n) : (1 ≤ cP N c → (fillC N h c n).2 51 n = 0 ∧ (fillC N h c n).2 52 n = N.2 41 c) ∧ (2 ≤ cP N c → (fillC N h c n).2 51 (n + 1) = 0 ∧ (fillC N h c n).2 52 (n + 1) = N.2 42 c) := by
  have h1 : n ≠ h := by omega
  have h2 : n + 1 ≠ h := by omega
  unfold fillC
  split
  next q => exact ⟨fun _ => ⟨by simp [ma, mi, nodeM, va_up, upd, h1], by simp [ma, mi, nodeM, va_up, upd, h1]⟩, fun _ => ⟨by simp [ma, mi, nodeM, va_up, upd], by simp [ma, mi, nodeM, va_up, upd]⟩⟩
  next q =>
    split
    next q2 => exact ⟨fun _ => ⟨by simp [ma, mi, nodeM, va_up, upd, h1], by simp [ma, mi, nodeM, va_up, upd, h1]⟩, fun z => absurd z q⟩
    next q2 => exact ⟨fun z => absurd z q2, fun z => absurd z q⟩
theorem fillC_6 {N : MC} {h c n : Nat} {r : List Nat} (hn : N.1 6 = nI n) : (fillC N h c n).1 6 = nI (n + (kids N c r).length) := by
  unfold fillC kids
  split
  next q => rw [if_pos (by omega)]; rfl
  next q =>
    split
    next q2 => rfl
    next q2 => exact hn
theorem RepX_C {N : MC} {s0 : Nat} {X : XS} {h c t : Nat} {r : List Nat} (hX : XW N s0 X) (hR : RepX N X) (hC : wfC N) (hh : X.1[h]? = some (r, t)) (hu : X.2 r = none) (hc : c < mC N) (hcs : cS N c = t) (hb : X.1.length + 2 ≤ 270) : RepX (fillC N h c X.1.length) (xC N X r c) := by
  have hlt := lt_of_get hh
  have hs := sT_cs (sT_fillC (M := N) (v := h) (c := c) (n := X.1.length))
  obtain ⟨s1, s2, -, s3, s4, s5, s6, -, -⟩ := hs
  obtain ⟨g1, g2, g3, g4, g5⟩ := fillC_h (N := N) (c := c) hlt
  obtain ⟨n1, n2⟩ := fillC_n (N := N) (c := c) hlt
  obtain ⟨-, ⟨-, b40⟩, w1, w2⟩ := hC.2.2 c hc
  have hkl : (kids N c r).length ≤ 2 := by
    unfold kids
    rw [List.length_append]
    split <;> split <;> simp
  have hnk : ∀ v, nK (fillC N h c X.1.length) v = ((fillC N h c X.1.length).2 51 v).toNatClampNeg := fun _ => rfl
  refine ⟨?_, ?_, fun v q tq hv => ?_⟩
  · show (fillC N h c X.1.length).1 6 = nI (X.1 ++ kids N c r).length
    rw [List.length_append]
    exact fillC_6 hR.1
  · show (X.1 ++ kids N c r).length ≤ 270
    rw [List.length_append]; omega
  · have hv : (X.1 ++ kids N c r)[v]? = some (q, tq) := hv
    have hup : ∀ {i : Nat} {z : List Nat × Nat}, X.1[i]? = some z → (X.1 ++ kids N c r)[i]? = some z := fun hz => by rw [List.getElem?_append_left (lt_of_get hz)]; exact hz
    rcases app_get hv with ⟨hl, z⟩ | ⟨i', rfl, z⟩
    · by_cases e : v = h
      · subst e
        rw [hh] at z
        cases z
        obtain ⟨-, a2, a3, -⟩ := hR.2.2 v _ _ hh
        have hk : nK (fillC N v c X.1.length) v = 2 := by rw [hnk, g1]; rfl
        refine ⟨⟨by rw [hk]; exact g1, by omega⟩, by rw [g2]; exact a2, by rw [s1]; exact a3, Or.inr (Or.inr (Or.inr ⟨hk, c, g3, by rw [s2]; exact hc, by rw [s3]; exact hcs, updT_s, fun y => ⟨X.1.length, ?_, ?_⟩, fun y => ⟨X.1.length + 1, ?_, ?_⟩⟩))⟩
        · rw [s4] at y; exact g4 y
        · rw [s4] at y
          rw [s5]
          show (X.1 ++ kids N c r)[X.1.length]? = _
          rw [List.getElem?_append_right (Nat.le_refl _), Nat.sub_self]
          unfold kids
          rw [if_pos y]; rfl
        · rw [s4] at y; exact g5 y
        · rw [s4] at y
          rw [s6]
          show (X.1 ++ kids N c r)[X.1.length + 1]? = _
          rw [List.getElem?_append_right (by omega), Nat.add_sub_cancel_left]
          unfold kids
          rw [if_pos (by omega), if_pos y]; rfl
      · have hne : q ≠ r := fun z2 => e (by subst z2; exact hX.1 v h q tq t z hh)
        obtain ⟨a1, a2, a3, a4⟩ := hR.2.2 v q tq z
        have o := fun a => fillC_old (N := N) (c := c) (a := a) e hl
        have hk : nK (fillC N h c X.1.length) v = nK N v := by rw [hnk, o]
        have hx : (xC N X r c).2 q = X.2 q := updT_n hne
        refine ⟨by rw [hk, o]; exact a1, by rw [o]; exact a2, by rw [s1]; exact a3, ?_⟩
        unfold repV
        rw [hk, hx, o, o, o, s2]
        refine a4.imp id (fun a4 => a4.imp id (fun a4 => a4.imp id (fun a4 => ⟨a4.1, ?_⟩)))
        obtain ⟨d, d1, d2, d3, d4, d5, d6⟩ := a4.2
        refine ⟨d, d1, d2, by rw [s3]; exact d3, d4, fun y => ?_, fun y => ?_⟩
        · rw [s4] at y
          obtain ⟨g, y1, y2⟩ := d5 y
          exact ⟨g, y1, by rw [s5]; exact hup y2⟩
        · rw [s4] at y
          obtain ⟨g, y1, y2⟩ := d6 y
          exact ⟨g, y1, by rw [s6]; exact hup y2⟩
    · have hnone : X.2 q = none ∧ q ≠ r := by
        have hq : ∃ k, q = k :: r := by rcases kids_get z with ⟨-, -, e, -⟩ | ⟨-, -, e, -⟩ <;> exact ⟨_, e⟩
        obtain ⟨k, rfl⟩ := hq
        refine ⟨?_, fun e => ?_⟩
        · cases hx : X.2 (k :: r) with
          | none => rfl
          | some a =>
            obtain ⟨s, h1, -⟩ := hX.2.2.2 _ _ hx
            obtain ⟨b, h2, -⟩ := srt_some h1
            rw [hu] at h2; cases h2
        · have := congrArg List.length e
          simp at this
      have hx : (xC N X r c).2 q = none := by rw [show (xC N X r c).2 q = X.2 q from updT_n hnone.2]; exact hnone.1
      rcases kids_get z with ⟨rfl, y, -, rfl⟩ | ⟨y, rfl, -, rfl⟩
      · obtain ⟨m1, m2⟩ := n1 y
        have hk : nK (fillC N h c X.1.length) (X.1.length + 0) = 0 := by rw [hnk, Nat.add_zero, m1]; rfl
        refine ⟨⟨by rw [hk]; exact m1, by omega⟩, ?_, by rw [s1]; exact (w1 y).2, Or.inl ⟨hk, hx⟩⟩
        rw [Nat.add_zero, m2]; exact (w1 y).1
      · obtain ⟨m1, m2⟩ := n2 y
        have hk : nK (fillC N h c X.1.length) (X.1.length + 1) = 0 := by rw [hnk, m1]; rfl
        exact ⟨⟨by rw [hk]; exact m1, by omega⟩, by rw [m2]; exact (w2 y).1, by rw [s1]; exact (w2 y).2, Or.inl ⟨hk, hx⟩⟩
def ilab (M : MC) (j m : Nat) : Int := if j < m then (M.2 62 j).toInt else BIG
theorem RepX_I {N : MC} {s0 : Nat} {X : XS} {h j m : Nat} {r : List Nat} (hX : XW N s0 X) (hR : RepX N X) (hh : X.1[h]? = some (r, 0)) : RepX (fillI N h j m) (xI X r (ilab N j m)) := by
  obtain ⟨s1, s2, -, s3, s4, s5, s6, -, -⟩ := sT_cs (sT_fillI (M := N) (v := h) (j := j) (m := m))
  have g1 : (fillI N h j m).2 51 h = if j < m then 1 else 3 := by simp [fillI, ma, va_up, upd]
  have g3 : (fillI N h j m).2 53 h = if j < m then N.2 62 j else 0 := by simp [fillI, ma, va_up, upd]
  have g2 : ∀ v, (fillI N h j m).2 52 v = N.2 52 v := fun v => rfl
  have g54 : ∀ v, (fillI N h j m).2 54 v = N.2 54 v := fun v => rfl
  have g55 : ∀ v, (fillI N h j m).2 55 v = N.2 55 v := fun v => rfl
  have o1 : ∀ v, v ≠ h → (fillI N h j m).2 51 v = N.2 51 v := fun v hv => by simp [fillI, ma, va_up, upd, hv]
  have o3 : ∀ v, v ≠ h → (fillI N h j m).2 53 v = N.2 53 v := fun v hv => by simp [fillI, ma, va_up, upd, hv]
  have hnk : ∀ v, nK (fillI N h j m) v = ((fillI N h j m).2 51 v).toNatClampNeg := fun _ => rfl
  refine ⟨hR.1, hR.2.1, fun v q tq hv => ?_⟩
  have hv : X.1[v]? = some (q, tq) := hv
  obtain ⟨a1, a2, a3, a4⟩ := hR.2.2 v q tq hv
  by_cases e : v = h
  · subst e
    rw [hh] at hv
    cases hv
    by_cases hj : j < m
    · rw [if_pos hj] at g1 g3
      have hk : nK (fillI N v j m) v = 1 := by rw [hnk, g1]; rfl
      refine ⟨⟨by rw [hk]; exact g1, by omega⟩, by rw [g2]; exact a2, by rw [s1]; exact a3, Or.inr (Or.inl ⟨hk, rfl, ?_⟩)⟩
      rw [g3]
      show updT X.2 r (ilab N j m) r = _
      rw [updT_s]; unfold ilab; rw [if_pos hj]
    · rw [if_neg hj] at g1 g3
      have hk : nK (fillI N v j m) v = 3 := by rw [hnk, g1]; rfl
      refine ⟨⟨by rw [hk]; exact g1, by omega⟩, by rw [g2]; exact a2, by rw [s1]; exact a3, Or.inr (Or.inr (Or.inl ⟨hk, rfl, ?_⟩))⟩
      show updT X.2 r (ilab N j m) r = _
      rw [updT_s]; unfold ilab; rw [if_neg hj]
  · have hne : q ≠ r := fun z2 => e (by subst z2; exact hX.1 v h q tq 0 hv hh)
    have hk : nK (fillI N h j m) v = nK N v := by rw [hnk, o1 v e]
    have hx : (xI X r (ilab N j m)).2 q = X.2 q := updT_n hne
    refine ⟨by rw [hk, o1 v e]; exact a1, by rw [g2]; exact a2, by rw [s1]; exact a3, ?_⟩
    unfold repV
    rw [hk, hx, o3 v e, g54, g55, s2]
    refine a4.imp id (fun a4 => a4.imp id (fun a4 => a4.imp id (fun a4 => ⟨a4.1, ?_⟩)))
    obtain ⟨d, d1, d2, d3, d4, d5, d6⟩ := a4.2
    exact ⟨d, d1, d2, by rw [s3]; exact d3, d4, fun y => by rw [s4] at y; rw [s5]; exact d5 y, fun y => by rw [s4] at y; rw [s6]; exact d6 y⟩
end
section
/-! what both sides decide -/
def fitT (M : MC) (t : Tr) (p : Nat) : Prop := ∀ x ∈ askL M 13 p [], t x.1 = some x.2
def misT (M : MC) (t : Tr) (p : Nat) : Prop := ∃ x ∈ askL M 13 p [], ∃ b, t x.1 = some b ∧ b ≠ x.2
def extT (u t : Tr) : Prop := ∀ r a, u r = some a → t r = some a
def Sat (M : MC) (s0 : Nat) (ms nv : List Nat) (u : Tr) : Prop := ∃ t, extT u t ∧ wfT M s0 t ∧ (∀ p ∈ ms, fitT M t p) ∧ ∀ p ∈ nv, misT M t p
theorem fitT_ext {M : MC} {t u : Tr} {p : Nat} (h : fitT M t p) (he : extT t u) : fitT M u p := fun x hx => he _ _ (h x hx)
theorem misT_ext {M : MC} {t u : Tr} {p : Nat} (h : misT M t p) (he : extT t u) : misT M u p := by
  obtain ⟨x, hx, b, h1, h2⟩ := h
  exact ⟨x, hx, b, he _ _ h1, h2⟩
theorem Sat_up {M : MC} {s0 : Nat} {ms nv : List Nat} {u : Tr} {r : List Nat} {a : Int} (h : u r = none) (hs : Sat M s0 ms nv (updT u r a)) : Sat M s0 ms nv u := by
  obtain ⟨t, h1, h2⟩ := hs
  exact ⟨t, fun q b hb => h1 q b (ext_updT h q b hb), h2⟩
theorem askL_suf {M : MC} : ∀ (f p : Nat) (r : List Nat) (x : List Nat × Int), x ∈ askL M f p r → r <:+ x.1 := by
  intro f
  induction f with
  | zero => intro p r x h; cases h
  | succ f ih =>
    intro p r x h
    unfold askL at h
    split at h
    · cases h
    · split at h
      · rw [List.mem_singleton.mp h]; exact List.suffix_refl r
      · rcases List.mem_cons.mp h with rfl | h
        · exact List.suffix_refl r
        · rcases List.mem_append.mp h with h | h
          · split at h
            · exact (List.suffix_cons 0 r).trans (ih _ _ _ h)
            · cases h
          · split at h
            · exact (List.suffix_cons 1 r).trans (ih _ _ _ h)
            · cases h
theorem suf_step {r q : List Nat} {k : Nat} {z : List Nat} (h1 : r <:+ q) (h2 : q <:+ z) (h3 : (k :: r) <:+ z) (hne : q ≠ r) : (k :: r) <:+ q := by
  refine List.suffix_of_suffix_length_le h3 h2 ?_
  have h4 := h1.length_le
  have h5 : r.length ≠ q.length := fun e => hne (h1.eq_of_length e).symm
  show r.length + 1 ≤ q.length
  omega
theorem askL_pre {M : MC} : ∀ (f p : Nat) (r q : List Nat) (x : List Nat × Int), x ∈ askL M f p r → r <:+ q → q <:+ x.1 → ∃ a, (q, a) ∈ askL M f p r := by
  intro f
  induction f with
  | zero => intro p r q x h; cases h
  | succ f ih =>
    intro p r q x h h1 h2
    by_cases e : q = r
    · subst e
      unfold askL at h ⊢
      split at h
      · cases h
      · next e0 =>
        rw [if_neg e0]
        split at h
        · next e1 => rw [if_pos e1]; exact ⟨_, List.mem_cons_self⟩
        · next e1 => rw [if_neg e1]; exact ⟨_, List.mem_cons_self⟩
    · unfold askL at h ⊢
      split at h
      · cases h
      · next e0 =>
        rw [if_neg e0]
        split at h
        · rw [List.mem_singleton.mp h] at h2
          exact absurd (List.IsSuffix.eq_of_length_le h2 h1.length_le) e
        · next e1 =>
          rw [if_neg e1]
          rcases List.mem_cons.mp h with rfl | h
          · exact absurd (List.IsSuffix.eq_of_length_le h2 h1.length_le) e
          · rcases List.mem_append.mp h with h | h
            · split at h
              · next e2 =>
                rw [if_pos e2]
                obtain ⟨a, ha⟩ := ih _ _ q x h (suf_step h1 h2 (askL_suf _ _ _ _ h) e) h2
                exact ⟨a, List.mem_cons_of_mem _ (List.mem_append_left _ ha)⟩
              · cases h
            · split at h
              · next e2 =>
                rw [if_pos e2]
                obtain ⟨a, ha⟩ := ih _ _ q x h (suf_step h1 h2 (askL_suf _ _ _ _ h) e) h2
                exact ⟨a, List.mem_cons_of_mem _ (List.mem_append_right _ ha)⟩
              · cases h
/-- where a pattern fits, its nodes' sorts are the tree's -/
theorem askL_srt {M : MC} {s0 : Nat} {t : Tr} (hC : mC M ≤ 30) (hP : wfP M) : ∀ (f p : Nat) (r : List Nat), p < mP M → srt M s0 t r = some (ps M p) → (∀ x ∈ askL M f p r, t x.1 = some x.2) → ∀ x ∈ askL M f p r, ∃ s, srt M s0 t x.1 = some s ∧ ((s = 0 ∧ ∃ v : Int32, x.2 = v.toInt) ∨ ∃ c, x.2 = lab c ∧ c < mC M ∧ cS M c = s) := by
  intro f
  induction f with
  | zero => intro p r _ _ _ x h; cases h
  | succ f ih =>
    intro p r hp hs hf x hx
    obtain ⟨⟨-, b43⟩, -, -, w4, w5, w6⟩ := hP.2.2 p hp
    rcases (show pk M p = 0 ∨ pk M p = 1 ∨ pk M p = 2 by omega) with h | h | h
    · rw [askL_any h] at hx; cases hx
    · rw [askL_num h] at hx
      rw [List.mem_singleton.mp hx]
      exact ⟨_, hs, Or.inl ⟨(w5 h).1, _, rfl⟩⟩
    · obtain ⟨⟨-, b45, s45⟩, mF, mG, -⟩ := w6 h
      rw [askL_made h] at hx hf
      have h0 : t r = some (lab (pn M p)) := hf _ List.mem_cons_self
      rcases List.mem_cons.mp hx with rfl | hx
      · exact ⟨_, hs, Or.inr ⟨_, rfl, b45, s45.symm⟩⟩
      · rcases List.mem_append.mp hx with hx | hx
        · by_cases e : 1 ≤ cP M (pn M p)
          · rw [if_pos e] at hx hf
            obtain ⟨-, f2, f3⟩ := mF e
            exact ih _ _ (by omega) (by rw [srt_cons h0, f3]; exact pso_lab0 (by omega) e) (fun z hz => hf z (List.mem_cons_of_mem _ (List.mem_append_left _ hz))) x hx
          · rw [if_neg e] at hx; cases hx
        · by_cases e : 2 ≤ cP M (pn M p)
          · rw [if_pos e] at hx hf
            obtain ⟨-, f2, f3⟩ := mG e
            exact ih _ _ (by omega) (by rw [srt_cons h0, f3]; exact pso_lab1 (by omega) e) (fun z hz => hf z (List.mem_cons_of_mem _ (List.mem_append_right _ hz))) x hx
          · rw [if_neg e] at hx; cases hx
theorem below_none {M : MC} {s0 : Nat} {u : Tr} {r : List Nat} (hw : wfT M s0 u) (hu : u r = none) : ∀ l : List Nat, u (l ++ r) = none := by
  intro l
  induction l with
  | nil => exact hu
  | cons k l ih =>
    cases h : u ((k :: l) ++ r) with
    | none => rfl
    | some a =>
      obtain ⟨s, h1, -⟩ := hw _ _ h
      obtain ⟨b, h2, -⟩ := srt_some (show srt M s0 u (k :: (l ++ r)) = some s from h1)
      rw [ih] at h2; cases h2
def cutT (t : Tr) (r : List Nat) (a : Int) : Tr := fun q => if q = r then some a else if r <:+ q then none else t q
theorem cut_s {t : Tr} {r : List Nat} {a : Int} : cutT t r a r = some a := if_pos rfl
theorem cut_o {t : Tr} {r q : List Nat} {a : Int} (h : ¬ r <:+ q) : cutT t r a q = t q := by
  unfold cutT
  rw [if_neg (fun e => h (by rw [e]; exact List.suffix_refl r)), if_neg h]
theorem repl {M : MC} {s0 s : Nat} {ms nv : List Nat} {u t : Tr} {r : List Nat} {a : Int} (hwu : wfT M s0 u) (hu : u r = none) (he : extT u t) (hw : wfT M s0 t) (hs : srt M s0 t r = some s) (ha : okA M s a) (hm : ∀ p ∈ ms, fitT M t p) (hn : ∀ p ∈ nv, misT M t p)
    (h1 : ∀ p ∈ ms, ∀ x ∈ askL M 13 p [], x.1 ≠ r) (h2 : ∀ p ∈ nv, ∀ x ∈ askL M 13 p [], x.1 = r → x.2 ≠ a) : Sat M s0 ms nv (updT u r a) := by
  have hnil : ∀ q : List Nat, [] <:+ q := fun q => List.nil_suffix
  have hsrt : ∀ q, ¬ r <:+ q ∨ q = r → srt M s0 (cutT t r a) q = srt M s0 t q := by
    intro q hq
    cases q with
    | nil => rfl
    | cons k q' =>
      have hno : ¬ r <:+ q' := by
        intro h
        rcases hq with hq | hq
        · exact hq (h.trans (List.suffix_cons k q'))
        · have := h.length_le
          rw [← hq] at this
          simp at this
          omega
      show (match cutT t r a q' with | some a => pso M a k | none => none) = (match t q' with | some a => pso M a k | none => none)
      rw [cut_o hno]
  refine ⟨cutT t r a, fun q b hb => ?_, fun q b hb => ?_, fun p hp x hx => ?_, fun p hp => ?_⟩
  · by_cases e : q = r
    · subst e; rw [updT_s] at hb; rw [cut_s]; exact hb
    · rw [updT_n e] at hb
      have hno : ¬ r <:+ q := by
        rintro ⟨l, rfl⟩
        rw [below_none hwu hu l] at hb; cases hb
      rw [cut_o hno]; exact he q b hb
  · by_cases e : q = r
    · subst e
      rw [cut_s] at hb
      cases hb
      exact ⟨s, by rw [hsrt q (Or.inr rfl)]; exact hs, ha⟩
    · have hno : ¬ r <:+ q := fun z => by
        unfold cutT at hb
        rw [if_neg e, if_pos z] at hb; cases hb
      rw [cut_o hno] at hb
      obtain ⟨s2, g1, g2⟩ := hw q b hb
      exact ⟨s2, by rw [hsrt q (Or.inl hno)]; exact g1, g2⟩
  · have hno : ¬ r <:+ x.1 := fun z => by
      obtain ⟨a2, h9⟩ := askL_pre 13 p [] r x hx (hnil r) z
      exact h1 p hp _ h9 rfl
    rw [cut_o hno]; exact hm p hp x hx
  · obtain ⟨x, hx, b, g1, g2⟩ := hn p hp
    by_cases z : r <:+ x.1
    · obtain ⟨a2, h9⟩ := askL_pre 13 p [] r x hx (hnil r) z
      exact ⟨(r, a2), h9, a, cut_s, fun e => h2 p hp _ h9 rfl e.symm⟩
    · exact ⟨x, hx, b, by rw [cut_o z]; exact g1, g2⟩
def livesOk (M : MC) : Prop := ∀ a, a < mS M → (M.2 50 a = 1 ∧ LV M a) ∨ (M.2 50 a = 0 ∧ ¬ LV M a)
theorem usd_iff {M : MC} (hL : livesOk M) (hC : wfC M) {c : Nat} (hc : c < mC M) : usdD M c ↔ usdV M c := by
  obtain ⟨-, -, w1, w2⟩ := hC.2.2 c hc
  have key : ∀ a, a < mS M → (M.2 50 a ≠ 0 ↔ LV M a) := fun a ha => by
    rcases hL a ha with ⟨h1, h2⟩ | ⟨h1, h2⟩
    · exact ⟨fun _ => h2, fun _ => by rw [h1]; decide⟩
    · exact ⟨fun h => absurd h1 h, fun h => absurd h h2⟩
  exact ⟨fun h => ⟨fun z => (key _ (w1 z).2).mp (h.1 z), fun z => (key _ (w2 z).2).mp (h.2 z)⟩, fun h => ⟨fun z => (key _ (w1 z).2).mpr (h.1 z), fun z => (key _ (w2 z).2).mpr (h.2 z)⟩⟩
/-- a used con that is not tried gives way to one that is, and stands nowhere -/
theorem tri_rep {M : MC} {c : Nat} (hu : usdD M c) (hn : ¬ tri M c) : ∃ i, i < c ∧ cS M i = cS M c ∧ M.2 59 i = 0 ∧ tri M i := by
  have h1 : ∃ i, i < c ∧ cS M i = cS M c ∧ M.2 59 i = 0 ∧ usdD M i := Classical.byContradiction fun h => hn ⟨hu, Or.inr (fun i hi z => h ⟨i, hi, z⟩)⟩
  obtain ⟨i, ⟨a1, a2, a3, a4⟩, hmin⟩ := pk_least _ h1
  refine ⟨i, a1, a2, a3, a4, Or.inr (fun k hk z => hmin k hk ⟨by omega, by rw [z.1, a2], z.2⟩)⟩
theorem lab_ne_int {c : Nat} {v : Int32} : lab c ≠ v.toInt := by
  have := toInt_lt v
  unfold lab
  omega
theorem tri_59 {M : MC} {c : Nat} (hu : usdD M c) (hn : ¬ tri M c) : M.2 59 c = 0 := Classical.byContradiction fun h => hn ⟨hu, Or.inl h⟩
theorem split_C {M : MC} {s0 s m : Nat} {ms nv : List Nat} {u : Tr} {r : List Nat} (hC : wfC M) (hP : wfP M) (hL : livesOk M) (hms : ∀ p ∈ ms, p < mP M ∧ ps M p = s0) (hG : ∀ p, p ∈ ms ∨ p ∈ nv → ∀ x ∈ askL M 13 p [], hasL M (M.2 62) m (M.2 59) x.2)
    (hwu : wfT M s0 u) (hu : u r = none) (hs : srt M s0 u r = some s) (hlv : LV M s) (hs0 : s ≠ 0) (h : Sat M s0 ms nv u) : ∃ c, c ∈ optL M s (mC M) ∧ Sat M s0 ms nv (updT u r (lab c)) := by
  obtain ⟨t, he, hw, hm, hn⟩ := h
  have hst : srt M s0 t r = some s := srt_mono he _ _ hs
  have hc30 := hC.2.1
  cases hb : t r with
  | none =>
    obtain ⟨-, q⟩ := LV_step hlv
    rcases q with q | ⟨c, c1, c2, c3⟩
    · exact absurd q hs0
    have hu2 : usdD M c := (usd_iff hL hC c1).mpr c3
    obtain ⟨e, e1, e2, e3⟩ : ∃ e, e < mC M ∧ cS M e = s ∧ tri M e := by
      by_cases ht : tri M c
      · exact ⟨c, c1, c2, ht⟩
      · obtain ⟨i, i1, i2, -, i4⟩ := tri_rep hu2 ht
        exact ⟨i, by omega, by rw [i2, c2], i4⟩
    refine ⟨e, mem_optL e1 ⟨e2, e3⟩, updT t r (lab e), fun q b hq => ?_, wfT_upd hw hb hst (Or.inr ⟨e, rfl, e1, e2, (usd_iff hL hC e1).mp e3.1⟩), fun p hp => fitT_ext (hm p hp) (ext_updT hb), fun p hp => misT_ext (hn p hp) (ext_updT hb)⟩
    by_cases eq : q = r
    · subst eq; rw [updT_s] at hq ⊢; exact hq
    · rw [updT_n eq] at hq ⊢; exact he q b hq
  | some b =>
    obtain ⟨s2, g1, g2⟩ := hw r b hb
    rw [hst] at g1
    cases g1
    rcases g2 with ⟨g2, -⟩ | ⟨c, rfl, c1, c2, c3⟩
    · exact absurd g2 hs0
    have hu2 : usdD M c := (usd_iff hL hC c1).mpr c3
    by_cases ht : tri M c
    · refine ⟨c, mem_optL c1 ⟨c2, ht⟩, t, fun q b2 hq => ?_, hw, hm, hn⟩
      by_cases eq : q = r
      · subst eq; rw [updT_s] at hq; rw [hb]; exact hq
      · rw [updT_n eq] at hq; exact he q b2 hq
    · obtain ⟨i, i1, i2, i3, i4⟩ := tri_rep hu2 ht
      refine ⟨i, mem_optL (by omega) ⟨by rw [i2, c2], i4⟩, repl hwu hu he hw hst (Or.inr ⟨i, rfl, by omega, by rw [i2, c2], (usd_iff hL hC (by omega)).mp i4.1⟩) hm hn (fun p hp x hx e => ?_) (fun p hp x hx _ e => ?_)⟩
      · have hv : x.2 = lab c := by
          have := hm p hp x hx
          rw [e, hb] at this
          exact (Option.some.inj this).symm
        rcases hG p (Or.inl hp) x hx with ⟨j, -, z⟩ | ⟨d, -, z, z2⟩
        · rw [hv] at z; exact lab_ne_int z
        · rw [hv] at z
          rw [← lab_inj z] at z2
          exact z2 (tri_59 hu2 ht)
      · rcases hG p (Or.inr hp) x hx with ⟨j, -, z⟩ | ⟨d, -, z, z2⟩
        · rw [e] at z; exact lab_ne_int z
        · rw [e] at z
          rw [← lab_inj z] at z2
          exact z2 i3
theorem split_I {M : MC} {s0 m : Nat} {ms nv : List Nat} {u : Tr} {r : List Nat} (hC : wfC M) (hP : wfP M) (hms : ∀ p ∈ ms, p < mP M ∧ ps M p = s0) (hG : ∀ p, p ∈ ms ∨ p ∈ nv → ∀ x ∈ askL M 13 p [], hasL M (M.2 62) m (M.2 59) x.2)
    (hwu : wfT M s0 u) (hu : u r = none) (hs : srt M s0 u r = some 0) (h : Sat M s0 ms nv u) : ∃ j, j ≤ m ∧ Sat M s0 ms nv (updT u r (ilab M j m)) := by
  obtain ⟨t, he, hw, hm, hn⟩ := h
  have hst : srt M s0 t r = some 0 := srt_mono he _ _ hs
  have hc30 := hC.2.1
  have hbig : ilab M m m = BIG := if_neg (Nat.lt_irrefl m)
  have hbl : ∀ c, c < 30 → BIG ≠ lab c := fun c hc => by unfold BIG lab; omega
  have hbi : ∀ v : Int32, BIG ≠ v.toInt := fun v => by have := toInt_lt v; unfold BIG; omega
  cases hb : t r with
  | none =>
    refine ⟨m, Nat.le_refl _, updT t r (ilab M m m), fun q b hq => ?_, wfT_upd hw hb hst (Or.inl ⟨rfl, by rw [hbig]; exact hbl⟩), fun p hp => fitT_ext (hm p hp) (ext_updT hb), fun p hp => misT_ext (hn p hp) (ext_updT hb)⟩
    by_cases eq : q = r
    · subst eq; rw [updT_s] at hq ⊢; exact hq
    · rw [updT_n eq] at hq ⊢; exact he q b hq
  | some b =>
    by_cases hj : ∃ j, j < m ∧ b = (M.2 62 j).toInt
    · obtain ⟨j, j1, rfl⟩ := hj
      refine ⟨j, by omega, t, fun q b2 hq => ?_, hw, hm, hn⟩
      by_cases eq : q = r
      · subst eq
        rw [updT_s] at hq
        rw [hb]
        unfold ilab at hq
        rw [if_pos j1] at hq; exact hq
      · rw [updT_n eq] at hq; exact he q b2 hq
    · refine ⟨m, Nat.le_refl _, ?_⟩
      rw [hbig]
      refine repl hwu hu he hw hst (Or.inl ⟨rfl, hbl⟩) hm hn (fun p hp x hx e => ?_) (fun p hp x hx _ e => ?_)
      · have hv : x.2 = b := by
          have := hm p hp x hx
          rw [e, hb] at this
          exact (Option.some.inj this).symm
        obtain ⟨q1, q2⟩ := hms p hp
        obtain ⟨s2, g1, g2⟩ := askL_srt (s0 := s0) hc30 hP 13 p [] q1 (by rw [q2]; rfl) (hm p hp) x hx
        rw [e, hst] at g1
        cases g1
        rcases hG p (Or.inl hp) x hx with ⟨j, z1, z⟩ | ⟨d, d1, z, -⟩
        · exact hj ⟨j, z1, by rw [← hv]; exact z⟩
        · rcases g2 with ⟨-, v, g2⟩ | ⟨c, g2, g3, g4⟩
          · rw [z] at g2; exact lab_ne_int g2
          · have := (hC.2.2 c g3).1.2.1
            omega
      · rcases hG p (Or.inr hp) x hx with ⟨j, -, z⟩ | ⟨d, d1, z, -⟩
        · rw [e] at z; exact hbi _ z
        · rw [e] at z; exact hbl d (by omega) z
end
section
/-! look: the tree of the splits is built anew, and held against the patterns -/
theorem sT_LV {N M : MC} (h : sT N M) (s : Nat) : LV N s ↔ LV M s := by
  obtain ⟨s1, s2, -, s3, s4, s5, s6, -, -⟩ := sT_cs h
  unfold LV
  simp only [s1, s2, s3, s4, s5, s6]
theorem sT_pso {N M : MC} (h : sT N M) (a : Int) (k : Nat) : pso N a k = pso M a k := by
  obtain ⟨s1, s2, -, s3, s4, s5, s6, -, -⟩ := sT_cs h
  unfold pso
  simp only [s4, s5, s6]
theorem sT_srt {N M : MC} (h : sT N M) (s0 : Nat) (t : Tr) (r : List Nat) : srt N s0 t r = srt M s0 t r := by
  cases r with
  | nil => rfl
  | cons k r =>
    show (match t r with | some a => pso N a k | none => none) = (match t r with | some a => pso M a k | none => none)
    cases t r with
    | none => rfl
    | some a => exact sT_pso h a k
theorem sT_okA {N M : MC} (h : sT N M) (s : Nat) (a : Int) : okA N s a ↔ okA M s a := by
  obtain ⟨s1, s2, -, s3, s4, s5, s6, -, -⟩ := sT_cs h
  unfold okA usdV
  simp only [s2, s3, s4, s5, s6, sT_LV h]
theorem sT_XW {N M : MC} (h : sT N M) {s0 : Nat} {X : XS} (hX : XW M s0 X) : XW N s0 X := by
  refine ⟨hX.1, hX.2.1, fun v r t hv => ?_, fun r a hr => ?_⟩
  · rw [sT_srt h, sT_LV h]; exact hX.2.2.1 v r t hv
  · obtain ⟨s, h1, h2⟩ := hX.2.2.2 r a hr
    exact ⟨s, by rw [sT_srt h]; exact h1, (sT_okA h s a).mpr h2⟩
theorem sT_kids {N M : MC} (h : sT N M) (c : Nat) (r : List Nat) : kids N c r = kids M c r := by
  obtain ⟨s1, s2, -, s3, s4, s5, s6, -, -⟩ := sT_cs h
  unfold kids
  simp only [s4, s5, s6]
abbrev hN (M : MC) (i : Nat) : Nat := (M.2 56 i).toNatClampNeg
abbrev jN (M : MC) (i : Nat) : Nat := (M.2 57 i).toNatClampNeg
def stepX (M : MC) (m : Nat) (X : XS) (h j : Nat) : XS := match X.1[h]? with
  | some (r, t) => if t = 0 then xI X r (ilab M j m) else (match (optL M t (mC M))[j]? with
    | some c => xC M X r c
    | none => X)
  | none => X
def preX (M : MC) (m s0 : Nat) : Nat → XS
  | 0 => ([([], s0)], fun _ => none)
  | i + 1 => stepX M m (preX M m s0 i) (hN M i) (jN M i)
def okPre (M : MC) (m s0 n : Nat) : Prop := ∀ i, i < n → ∃ r t, (preX M m s0 i).1[hN M i]? = some (r, t) ∧ (preX M m s0 i).2 r = none ∧ M.2 56 i = nI (hN M i) ∧ M.2 57 i = nI (jN M i) ∧ (t = 0 → jN M i ≤ m) ∧ (t ≠ 0 → jN M i < (optL M t (mC M)).length)
theorem stepX_I {M : MC} {m : Nat} {X : XS} {h j : Nat} {r : List Nat} (hh : X.1[h]? = some (r, 0)) : stepX M m X h j = xI X r (ilab M j m) := by
  unfold stepX
  rw [hh]
  exact if_pos rfl
theorem stepX_C {M : MC} {m : Nat} {X : XS} {h j t c : Nat} {r : List Nat} (hh : X.1[h]? = some (r, t)) (ht : t ≠ 0) (hc : (optL M t (mC M))[j]? = some c) : stepX M m X h j = xC M X r c := by
  unfold stepX
  rw [hh]
  show (if t = 0 then _ else _) = _
  rw [if_neg ht, hc]
theorem ilab_ok {M : MC} {j m : Nat} : ∀ c, c < 30 → ilab M j m ≠ lab c := fun c hc => by
  unfold ilab
  split
  · exact fun e => lab_ne_int e.symm
  · unfold BIG lab; omega
theorem preX_ok {M : MC} {m s0 : Nat} (hC : wfC M) (hL : livesOk M) (hl : LV M s0) : ∀ n, okPre M m s0 n → XW M s0 (preX M m s0 n) ∧ (preX M m s0 n).1.length ≤ 1 + 2 * n := by
  intro n
  induction n with
  | zero => intro _; exact ⟨XW_0 hl, Nat.le_refl _⟩
  | succ n ih =>
    intro h
    obtain ⟨h1, h2⟩ := ih (fun i hi => h i (by omega))
    obtain ⟨r, t, a1, a2, -, -, a5, a6⟩ := h n (by omega)
    show XW M s0 (stepX M m (preX M m s0 n) (hN M n) (jN M n)) ∧ (stepX M m (preX M m s0 n) (hN M n) (jN M n)).1.length ≤ _
    by_cases ht : t = 0
    · subst ht
      rw [stepX_I a1]
      exact ⟨XW_I h1 a1 a2 ilab_ok, by show (preX M m s0 n).1.length ≤ _; omega⟩
    · obtain ⟨c, hg⟩ : ∃ c, (optL M t (mC M))[jN M n]? = some c := ⟨_, List.getElem?_eq_getElem (a6 ht)⟩
      obtain ⟨c1, c2, c3⟩ := optL_mem (List.mem_of_getElem? hg)
      rw [stepX_C a1 ht hg]
      refine ⟨XW_C hC.2.1 h1 (by rw [c2]; exact a1) a2 c1 ((usd_iff hL hC c1).mp c3.1), ?_⟩
      show ((preX M m s0 n).1 ++ kids M _ r).length ≤ _
      rw [List.length_append]
      have : ∀ c, (kids M c r).length ≤ 2 := fun c => by
        unfold kids
        rw [List.length_append]
        split <;> split <;> simp
      have := this c
      omega
abbrev msL (M : MC) : List Nat := (List.range (M.1 9).toNatClampNeg).map (fun i => (M.2 60 i).toNatClampNeg)
abbrev nvL (M : MC) : List Nat := (List.range (M.1 10).toNatClampNeg).map (fun i => (M.2 61 i).toNatClampNeg)
def wfQ (M : MC) (s0 a b : Nat) : Prop := M.1 9 = nI a ∧ a ≤ 2 ∧ M.1 10 = nI b ∧ b ≤ 8 ∧ (∀ i, i < a → ∃ p, M.2 60 i = nI p ∧ p < mP M ∧ ps M p = s0) ∧ (∀ i, i < b → ∃ p, M.2 61 i = nI p ∧ p < mP M ∧ ps M p = s0)
/-- one call of fit at the root -/
theorem fit_root {N M : MC} {X : XS} {s0 p : Nat} (hS : wfS M) (hC : wfC M) (hP : wfP M) (hT : sT N M) (hR : RepX N X) (h0 : X.1[0]? = some ([], s0)) (hp : p < mP M) (hs : ps M p = s0) :
    ((fitR N 13 p 0).1 = 0 ∧ misT M X.2 p) ∨ ((fitR N 13 p 0).1 = 1 ∧ fitT M X.2 p) ∨ ((fitR N 13 p 0).1 = 2 ∧ ¬ fitT M X.2 p ∧ ∃ r t, X.1[(fitR N 13 p 0).2]? = some (r, t) ∧ X.2 r = none ∧ ∃ x ∈ askL M 13 p [], x.1 = r) := by
  obtain ⟨s1, s2, s7, s3, s4, s5, s6, s8, s9⟩ := sT_cs hT
  have hd : pd N p < 13 := by rw [s9]; have := (hP.2.2 p hp).2.2.1.2; omega
  obtain ⟨i1, i2, i3⟩ := fit_rel (sT_wfS hT hS) (sT_wfC hT hC) (sT_wfP hT hP) hR 13 p 0 [] (by rw [s7]; exact hp) hd (by rw [s8, hs]; exact h0)
  rw [sT_askL hT] at i1 i2 i3
  have hle := fitR_le N 13 p 0
  rcases (show (fitR N 13 p 0).1 = 0 ∨ (fitR N 13 p 0).1 = 1 ∨ (fitR N 13 p 0).1 = 2 by omega) with h | h | h
  · exact Or.inl ⟨h, i2 h⟩
  · exact Or.inr (Or.inl ⟨h, i1 h⟩)
  · obtain ⟨r, t, j1, j2, x, j3, j4⟩ := i3 h
    refine Or.inr (Or.inr ⟨h, fun z => ?_, r, t, j1, j2, x, j3, j4⟩)
    have := z x j3
    rw [j4, j2] at this; cases this
theorem mis_not_fit {M : MC} {t : Tr} {p : Nat} (h : misT M t p) (h2 : fitT M t p) : False := by
  obtain ⟨x, hx, b, h3, h4⟩ := h
  rw [h2 x hx] at h3
  exact h4 (Option.some.inj h3).symm
set_option maxHeartbeats 4000000 in
set_option maxRecDepth 100000 in
theorem l_M_look4 {K : KC} {M : MC} {o : Nat → Int64} {nc ns : Nat} {d : Nat} {s0 a b : Nat} {X : XS} {x1 : Int32} (hS : wfS M) (hC : wfC M) (hP : wfP M) (hQ : wfQ M s0 a b) (hX0 : X.1[0]? = some ([], s0)) (hall : ∀ i, i < a → fitT M X.2 ((M.2 60 i).toNatClampNeg)) (hnf : ∀ i, i < b → ¬ fitT M X.2 ((M.2 61 i).toNatClampNeg)) {post : mj_O → mj_H → Prop} (k1 : ∀ N, sT N M → (∀ i, i < a → fitT M X.2 ((M.2 60 i).toNatClampNeg)) → (∀ i, i < b → misT M X.2 ((M.2 61 i).toNatClampNeg)) → post (.inl (some (.int (nI 1)))) (hp K N o, nc, ns)) (k2 : ∀ N h r t, sT N M → RepX N X → N.1 8 = nI h → X.1[h]? = some (r, t) → X.2 r = none → (∃ p, ((∃ i, i < a ∧ p = (M.2 60 i).toNatClampNeg) ∨ ∃ i, i < b ∧ p = (M.2 61 i).toNatClampNeg) ∧ ∃ x ∈ askL M 13 p [], x.1 = r) → post (.inl (some (.int (nI 2)))) (hp K N o, nc, ns)) : ∀ (n i : Nat) (N : MC), i ≤ b → b < i + n → sT N M → RepX N X → (∀ c, c < i → misT M X.2 ((M.2 61 c).toNatClampNeg)) → mj_G y_M_look b_M_look 5 (some .int) [] (d + 13) none 116 [(3, .int (nI i)), (2, .int (nI 0)), (0, .ref 38), (1, .int x1)] [] (hp K N o, nc, ns) post := by
  obtain ⟨-, q1, q2⟩ := id hS
  obtain ⟨ew9, ewa, ew10, ewb, hms, hnv⟩ := id hQ
  intro n
  induction n with
  | zero => intro i N h1 h2; omega
  | succ n ih =>
    intro i N h1 h2 hT hR hmis
    have wS := sT_wfS hT hS
    have wC := sT_wfC hT hC
    have wP := sT_wfP hT hP
    have wN := RepX_wf hR wS wC
    obtain ⟨s1, s2, s7, s3, s4, s5, s6, s8, s9⟩ := sT_cs hT
    have hnN := RepX_n hR
    have hns0 : nS N 0 = s0 := by show (N.2 52 0).toNatClampNeg = s0; rw [(hR.2.2 0 _ _ hX0).2.1, nI_clamp (by have := (hR.2.2 0 _ _ hX0).2.2.1; rw [s1] at this; omega)]
    refine G_iload_n 0 d_M_look_116 rfl ?_
    refine G_aload_n 2 d_M_look_117 rfl ?_
    refine G_gt d_M_look_118 fr_M_146 (rd_M_nevers K N o) ?_
    rw [hT.1 10 (by decide) (by decide), ew10]
    refine G_icge 147 d_M_look_121 (by decide) (fun h121 => ?_) (fun h121 => ?_)
    · have h121 := (nI_leI (by omega) (by omega)).mp h121
      refine G_iconst (v := nI 1) d_M_look_147 (by decide) ?_
      exact G_iret d_M_look_148 rfl (k1 N hT hall (fun c hc => hmis c (by omega)))
    · have h121 : ¬ _ := fun z => h121 ((nI_leI (by omega) (by omega)).mpr z)
      have hi : i < b := by omega
      obtain ⟨p, e61, hpp, hps⟩ := hnv i hi
      have hp12 := (hP.2.2 p hpp).2.2.1.2
      have hpe : p = (M.2 61 i).toNatClampNeg := by rw [e61, nI_clamp (by have := hP.2.1; omega)]
      refine G_aload_n 2 d_M_look_124 rfl ?_
      refine G_aload_n 2 d_M_look_125 rfl ?_
      refine G_gt d_M_look_126 fr_M_81 (rd_M_never K N o) ?_
      refine G_iload_n 0 d_M_look_129 rfl ?_
      refine G_ialN d_M_look_130 (ar_61 K N o) (by decide) (by omega) ?_
      rw [hT.2 61 (by decide), e61]
      refine G_iload_n 1 d_M_look_131 rfl ?_
      refine G_cvp (fun a9 A9 => ((fitR N 13 p 0).1 ≠ 2 ∧ a9 = some (.int (nI (fitR N 13 p 0).1)) ∧ A9 = (hp K N o, nc, ns)) ∨ ((fitR N 13 p 0).1 = 2 ∧ a9 = some (.int (nI 2)) ∧ A9 = (hp K (mi N 8 (nI (fitR N 13 p 0).2)) o, nc, ns))) (As := [.int (nI p), .int (nI 0)]) d_M_look_132 cv_M_132 cw_M_fit (ob_M K N o) np_M_fit (Nat.le_of_ble_eq_true rfl) (Nat.le_of_ble_eq_true rfl) (fun post2 kk => c_M_fit wS wC wP wN 13 p 0 (d + 12) (by rw [s7]; exact hpp) (by rw [hnN]; exact lt_of_get hX0) (by rw [s8, hps, hns0]) (by rw [s9]; omega) (by rw [s9]; omega) (fun z => kk _ _ (Or.inl ⟨z, rfl, rfl⟩)) (fun z => kk _ _ (Or.inr ⟨z, rfl, rfl⟩))) (fun a9 A9 h9 => by rcases h9 with ⟨-, -, rfl⟩ | ⟨-, -, rfl⟩ <;> rfl) (fun a9 A9 h9 => ?_)
      rcases fit_root hS hC hP hT hR hX0 hpp hps with ⟨z, fz⟩ | ⟨z, fz⟩ | ⟨z, fz, r2, t2, fh1, fh2, fh3⟩
      · obtain ⟨-, rfl, rfl⟩ := h9.resolve_right (fun q => absurd (z.symm.trans q.1) (by decide))
        rw [z]
        refine G_iconst (v := nI 2) d_M_look_135 (by decide) ?_
        refine G_icne 141 d_M_look_136 (by decide) (fun _ => ?_) (fun h => absurd h (by decide))
        refine G_iinc 0 (v := nI (i + 1)) (ls' := [(3, .int (nI (i + 1))), (2, .int (nI 0)), (0, .ref 38), (1, .int x1)]) d_M_look_141 rfl (nI_1 _) (by decide) rfl ?_
        refine G_goto 116 d_M_look_144 (by decide) ?_
        exact G_sub [0, 1, 2, 3] rfl (ih (i + 1) N (by omega) (by omega) (sT_trans (sT_refl _) hT) hR (fun c hc => (Nat.lt_succ_iff_lt_or_eq.mp hc).elim (hmis c) (fun q => by subst q; rw [← hpe]; exact fz)))
      · obtain ⟨-, rfl, rfl⟩ := h9.resolve_right (fun q => absurd (z.symm.trans q.1) (by decide))
        rw [z]
        refine G_iconst (v := nI 2) d_M_look_135 (by decide) ?_
        refine G_icne 141 d_M_look_136 (by decide) (fun _ => ?_) (fun h => absurd h (by decide))
        refine G_iinc 0 (v := nI (i + 1)) (ls' := [(3, .int (nI (i + 1))), (2, .int (nI 0)), (0, .ref 38), (1, .int x1)]) d_M_look_141 rfl (nI_1 _) (by decide) rfl ?_
        refine G_goto 116 d_M_look_144 (by decide) ?_
        exact G_sub [0, 1, 2, 3] rfl (ih (i + 1) N (by omega) (by omega) (sT_trans (sT_refl _) hT) hR (fun c hc => (Nat.lt_succ_iff_lt_or_eq.mp hc).elim (hmis c) (fun q => by subst q; rw [← hpe]; exact (hnf c hi (by rw [← hpe]; exact fz)).elim)))
      · rcases h9 with ⟨z2, -⟩ | ⟨-, rfl, rfl⟩
        · exact absurd z z2
        refine G_iconst (v := nI 2) d_M_look_135 (by decide) ?_
        refine G_icne 141 d_M_look_136 (by decide) (fun h => absurd h (by decide)) (fun _ => ?_)
        refine G_iconst (v := nI 2) d_M_look_139 (by decide) ?_
        exact G_iret d_M_look_140 rfl (k2 _ _ r2 t2 (sT_trans (sT_mi8 _ _) hT) hR rfl fh1 fh2 ⟨p, Or.inr ⟨i, hi, hpe⟩, fh3⟩)
set_option maxHeartbeats 4000000 in
set_option maxRecDepth 100000 in
theorem l_M_look3 {K : KC} {M : MC} {o : Nat → Int64} {nc ns : Nat} {d : Nat} {s0 a b : Nat} {X : XS} {x1 : Int32} (hS : wfS M) (hC : wfC M) (hP : wfP M) (hQ : wfQ M s0 a b) (hX0 : X.1[0]? = some ([], s0)) (hall : ∀ i, i < a → fitT M X.2 ((M.2 60 i).toNatClampNeg)) {post : mj_O → mj_H → Prop} (k0 : ∀ N, sT N M → ((∃ i, i < a ∧ misT M X.2 ((M.2 60 i).toNatClampNeg)) ∨ ∃ i, i < b ∧ fitT M X.2 ((M.2 61 i).toNatClampNeg)) → post (.inl (some (.int (nI 0)))) (hp K N o, nc, ns)) (k1 : ∀ N, sT N M → (∀ i, i < a → fitT M X.2 ((M.2 60 i).toNatClampNeg)) → (∀ i, i < b → misT M X.2 ((M.2 61 i).toNatClampNeg)) → post (.inl (some (.int (nI 1)))) (hp K N o, nc, ns)) (k2 : ∀ N h r t, sT N M → RepX N X → N.1 8 = nI h → X.1[h]? = some (r, t) → X.2 r = none → (∃ p, ((∃ i, i < a ∧ p = (M.2 60 i).toNatClampNeg) ∨ ∃ i, i < b ∧ p = (M.2 61 i).toNatClampNeg) ∧ ∃ x ∈ askL M 13 p [], x.1 = r) → post (.inl (some (.int (nI 2)))) (hp K N o, nc, ns)) : ∀ (n i : Nat) (N : MC), i ≤ b → b < i + n → sT N M → RepX N X → (∀ c, c < i → ¬ fitT M X.2 ((M.2 61 c).toNatClampNeg)) → mj_G y_M_look b_M_look 5 (some .int) [] (d + 13) none 83 [(3, .int (nI i)), (2, .int (nI 0)), (0, .ref 38), (1, .int x1)] [] (hp K N o, nc, ns) post := by
  obtain ⟨-, q1, q2⟩ := id hS
  obtain ⟨ew9, ewa, ew10, ewb, hms, hnv⟩ := id hQ
  intro n
  induction n with
  | zero => intro i N h1 h2; omega
  | succ n ih =>
    intro i N h1 h2 hT hR hnf
    have wS := sT_wfS hT hS
    have wC := sT_wfC hT hC
    have wP := sT_wfP hT hP
    have wN := RepX_wf hR wS wC
    obtain ⟨s1, s2, s7, s3, s4, s5, s6, s8, s9⟩ := sT_cs hT
    have hnN := RepX_n hR
    have hns0 : nS N 0 = s0 := by show (N.2 52 0).toNatClampNeg = s0; rw [(hR.2.2 0 _ _ hX0).2.1, nI_clamp (by have := (hR.2.2 0 _ _ hX0).2.2.1; rw [s1] at this; omega)]
    refine G_iload_n 0 d_M_look_83 rfl ?_
    refine G_aload_n 2 d_M_look_84 rfl ?_
    refine G_gt d_M_look_85 fr_M_146 (rd_M_nevers K N o) ?_
    rw [hT.1 10 (by decide) (by decide), ew10]
    refine G_icge 114 d_M_look_88 (by decide) (fun h88 => ?_) (fun h88 => ?_)
    · have h88 := (nI_leI (by omega) (by omega)).mp h88
      refine G_iconst (v := nI 0) d_M_look_114 (by decide) ?_
      refine G_istore_n (ls' := [(3, .int (nI 0)), (2, .int (nI 0)), (0, .ref 38), (1, .int x1)]) d_M_look_115 (by decide) rfl ?_
      exact G_sub [0, 1, 2, 3] rfl (l_M_look4 hS hC hP hQ hX0 hall (fun c hc => hnf c (by omega)) k1 k2 (b + 1) 0 N (by omega) (by omega) hT hR (fun c hc => absurd hc (Nat.not_lt_zero c)))
    · have h88 : ¬ _ := fun z => h88 ((nI_leI (by omega) (by omega)).mpr z)
      have hi : i < b := by omega
      obtain ⟨p, e61, hpp, hps⟩ := hnv i hi
      have hp12 := (hP.2.2 p hpp).2.2.1.2
      have hpe : p = (M.2 61 i).toNatClampNeg := by rw [e61, nI_clamp (by have := hP.2.1; omega)]
      refine G_aload_n 2 d_M_look_91 rfl ?_
      refine G_aload_n 2 d_M_look_92 rfl ?_
      refine G_gt d_M_look_93 fr_M_81 (rd_M_never K N o) ?_
      refine G_iload_n 0 d_M_look_96 rfl ?_
      refine G_ialN d_M_look_97 (ar_61 K N o) (by decide) (by omega) ?_
      rw [hT.2 61 (by decide), e61]
      refine G_iload_n 1 d_M_look_98 rfl ?_
      refine G_cvp (fun a9 A9 => ((fitR N 13 p 0).1 ≠ 2 ∧ a9 = some (.int (nI (fitR N 13 p 0).1)) ∧ A9 = (hp K N o, nc, ns)) ∨ ((fitR N 13 p 0).1 = 2 ∧ a9 = some (.int (nI 2)) ∧ A9 = (hp K (mi N 8 (nI (fitR N 13 p 0).2)) o, nc, ns))) (As := [.int (nI p), .int (nI 0)]) d_M_look_99 cv_M_132 cw_M_fit (ob_M K N o) np_M_fit (Nat.le_of_ble_eq_true rfl) (Nat.le_of_ble_eq_true rfl) (fun post2 kk => c_M_fit wS wC wP wN 13 p 0 (d + 12) (by rw [s7]; exact hpp) (by rw [hnN]; exact lt_of_get hX0) (by rw [s8, hps, hns0]) (by rw [s9]; omega) (by rw [s9]; omega) (fun z => kk _ _ (Or.inl ⟨z, rfl, rfl⟩)) (fun z => kk _ _ (Or.inr ⟨z, rfl, rfl⟩))) (fun a9 A9 h9 => by rcases h9 with ⟨-, -, rfl⟩ | ⟨-, -, rfl⟩ <;> rfl) (fun a9 A9 h9 => ?_)
      rcases fit_root hS hC hP hT hR hX0 hpp hps with ⟨z, fz⟩ | ⟨z, fz⟩ | ⟨z, fz, r2, t2, fh1, fh2, fh3⟩
      · obtain ⟨-, rfl, rfl⟩ := h9.resolve_right (fun q => absurd (z.symm.trans q.1) (by decide))
        rw [z]
        refine G_iconst (v := nI 1) d_M_look_102 (by decide) ?_
        refine G_icne 108 d_M_look_103 (by decide) (fun _ => ?_) (fun h => absurd h (by decide))
        refine G_iinc 0 (v := nI (i + 1)) (ls' := [(3, .int (nI (i + 1))), (2, .int (nI 0)), (0, .ref 38), (1, .int x1)]) d_M_look_108 rfl (nI_1 _) (by decide) rfl ?_
        refine G_goto 83 d_M_look_111 (by decide) ?_
        exact G_sub [0, 1, 2, 3] rfl (ih (i + 1) N (by omega) (by omega) hT hR (fun c hc => (Nat.lt_succ_iff_lt_or_eq.mp hc).elim (hnf c) (fun q => by subst q; rw [← hpe]; exact fun z9 => mis_not_fit fz z9)))
      · obtain ⟨-, rfl, rfl⟩ := h9.resolve_right (fun q => absurd (z.symm.trans q.1) (by decide))
        rw [z]
        refine G_iconst (v := nI 1) d_M_look_102 (by decide) ?_
        refine G_icne 108 d_M_look_103 (by decide) (fun h => absurd h (by decide)) (fun _ => ?_)
        refine G_iconst (v := nI 0) d_M_look_106 (by decide) ?_
        exact G_iret d_M_look_107 rfl (k0 N hT (Or.inr ⟨i, hi, by rw [← hpe]; exact fz⟩))
      · rcases h9 with ⟨z2, -⟩ | ⟨-, rfl, rfl⟩
        · exact absurd z z2
        refine G_iconst (v := nI 1) d_M_look_102 (by decide) ?_
        refine G_icne 108 d_M_look_103 (by decide) (fun _ => ?_) (fun h => absurd h (by decide))
        refine G_iinc 0 (v := nI (i + 1)) (ls' := [(3, .int (nI (i + 1))), (2, .int (nI 0)), (0, .ref 38), (1, .int x1)]) d_M_look_108 rfl (nI_1 _) (by decide) rfl ?_
        refine G_goto 83 d_M_look_111 (by decide) ?_
        exact G_sub [0, 1, 2, 3] rfl (ih (i + 1) (mi N 8 (nI (fitR N 13 p 0).2)) (by omega) (by omega) (sT_trans (sT_mi8 _ _) hT) hR (fun c hc => (Nat.lt_succ_iff_lt_or_eq.mp hc).elim (hnf c) (fun q => by subst q; rw [← hpe]; exact fz)))
set_option maxHeartbeats 4000000 in
set_option maxRecDepth 100000 in
theorem l_M_look2 {K : KC} {M : MC} {o : Nat → Int64} {nc ns : Nat} {d : Nat} {s0 a b : Nat} {X : XS} {x1 : Int32} (hS : wfS M) (hC : wfC M) (hP : wfP M) (hQ : wfQ M s0 a b) (hX0 : X.1[0]? = some ([], s0)) {post : mj_O → mj_H → Prop} (k0 : ∀ N, sT N M → ((∃ i, i < a ∧ misT M X.2 ((M.2 60 i).toNatClampNeg)) ∨ ∃ i, i < b ∧ fitT M X.2 ((M.2 61 i).toNatClampNeg)) → post (.inl (some (.int (nI 0)))) (hp K N o, nc, ns)) (k1 : ∀ N, sT N M → (∀ i, i < a → fitT M X.2 ((M.2 60 i).toNatClampNeg)) → (∀ i, i < b → misT M X.2 ((M.2 61 i).toNatClampNeg)) → post (.inl (some (.int (nI 1)))) (hp K N o, nc, ns)) (k2 : ∀ N h r t, sT N M → RepX N X → N.1 8 = nI h → X.1[h]? = some (r, t) → X.2 r = none → (∃ p, ((∃ i, i < a ∧ p = (M.2 60 i).toNatClampNeg) ∨ ∃ i, i < b ∧ p = (M.2 61 i).toNatClampNeg) ∧ ∃ x ∈ askL M 13 p [], x.1 = r) → post (.inl (some (.int (nI 2)))) (hp K N o, nc, ns)) : ∀ (n i : Nat) (N : MC), i ≤ a → a < i + n → sT N M → RepX N X → (∀ c, c < i → fitT M X.2 ((M.2 60 c).toNatClampNeg)) → mj_G y_M_look b_M_look 5 (some .int) [] (d + 13) none 45 [(3, .int (nI i)), (2, .int (nI 0)), (0, .ref 38), (1, .int x1)] [] (hp K N o, nc, ns) post := by
  obtain ⟨-, q1, q2⟩ := id hS
  obtain ⟨ew9, ewa, ew10, ewb, hms, hnv⟩ := id hQ
  intro n
  induction n with
  | zero => intro i N h1 h2; omega
  | succ n ih =>
    intro i N h1 h2 hT hR hfit
    have wS := sT_wfS hT hS
    have wC := sT_wfC hT hC
    have wP := sT_wfP hT hP
    have wN := RepX_wf hR wS wC
    obtain ⟨s1, s2, s7, s3, s4, s5, s6, s8, s9⟩ := sT_cs hT
    have hnN := RepX_n hR
    have hns0 : nS N 0 = s0 := by show (N.2 52 0).toNatClampNeg = s0; rw [(hR.2.2 0 _ _ hX0).2.1, nI_clamp (by have := (hR.2.2 0 _ _ hX0).2.2.1; rw [s1] at this; omega)]
    refine G_iload_n 0 d_M_look_45 rfl ?_
    refine G_aload_n 2 d_M_look_46 rfl ?_
    refine G_gt d_M_look_47 fr_M_143 (rd_M_musts K N o) ?_
    rw [hT.1 9 (by decide) (by decide), ew9]
    refine G_icge 81 d_M_look_50 (by decide) (fun h50 => ?_) (fun h50 => ?_)
    · have h50 := (nI_leI (by omega) (by omega)).mp h50
      refine G_iconst (v := nI 0) d_M_look_81 (by decide) ?_
      refine G_istore_n (ls' := [(3, .int (nI 0)), (2, .int (nI 0)), (0, .ref 38), (1, .int x1)]) d_M_look_82 (by decide) rfl ?_
      exact G_sub [0, 1, 2, 3] rfl (l_M_look3 hS hC hP hQ hX0 (fun c hc => hfit c (by omega)) k0 k1 k2 (b + 1) 0 N (by omega) (by omega) hT hR (fun c hc => absurd hc (Nat.not_lt_zero c)))
    · have h50 : ¬ _ := fun z => h50 ((nI_leI (by omega) (by omega)).mpr z)
      have hi : i < a := by omega
      obtain ⟨p, e60, hpp, hps⟩ := hms i hi
      have hp12 := (hP.2.2 p hpp).2.2.1.2
      have hpe : p = (M.2 60 i).toNatClampNeg := by rw [e60, nI_clamp (by have := hP.2.1; omega)]
      refine G_aload_n 2 d_M_look_53 rfl ?_
      refine G_aload_n 2 d_M_look_54 rfl ?_
      refine G_gt d_M_look_55 fr_M_78 (rd_M_must K N o) ?_
      refine G_iload_n 0 d_M_look_58 rfl ?_
      refine G_ialN d_M_look_59 (ar_60 K N o) (by decide) (by omega) ?_
      rw [hT.2 60 (by decide), e60]
      refine G_iload_n 1 d_M_look_60 rfl ?_
      refine G_cvp (fun a9 A9 => ((fitR N 13 p 0).1 ≠ 2 ∧ a9 = some (.int (nI (fitR N 13 p 0).1)) ∧ A9 = (hp K N o, nc, ns)) ∨ ((fitR N 13 p 0).1 = 2 ∧ a9 = some (.int (nI 2)) ∧ A9 = (hp K (mi N 8 (nI (fitR N 13 p 0).2)) o, nc, ns))) (As := [.int (nI p), .int (nI 0)]) d_M_look_61 cv_M_132 cw_M_fit (ob_M K N o) np_M_fit (Nat.le_of_ble_eq_true rfl) (Nat.le_of_ble_eq_true rfl) (fun post2 kk => c_M_fit wS wC wP wN 13 p 0 (d + 12) (by rw [s7]; exact hpp) (by rw [hnN]; exact lt_of_get hX0) (by rw [s8, hps, hns0]) (by rw [s9]; omega) (by rw [s9]; omega) (fun z => kk _ _ (Or.inl ⟨z, rfl, rfl⟩)) (fun z => kk _ _ (Or.inr ⟨z, rfl, rfl⟩))) (fun a9 A9 h9 => by rcases h9 with ⟨-, -, rfl⟩ | ⟨-, -, rfl⟩ <;> rfl) (fun a9 A9 h9 => ?_)
      rcases fit_root hS hC hP hT hR hX0 hpp hps with ⟨z, fz⟩ | ⟨z, fz⟩ | ⟨z, fz, r2, t2, fh1, fh2, fh3⟩
      · obtain ⟨-, rfl, rfl⟩ := h9.resolve_right (fun q => absurd (z.symm.trans q.1) (by decide))
        rw [z]
        refine G_istore (ls' := [(4, .int (nI 0)), (3, .int (nI i)), (2, .int (nI 0)), (0, .ref 38), (1, .int x1)]) d_M_look_64 (by decide) rfl ?_
        refine G_iload 0 d_M_look_66 rfl ?_
        refine G_iconst (v := nI 1) d_M_look_68 (by decide) ?_
        refine G_iceq 75 d_M_look_69 (by decide) (fun h => absurd h (by decide)) (fun _ => ?_)
        refine G_iload 0 d_M_look_72 rfl ?_
        exact G_iret d_M_look_74 rfl (k0 N hT (Or.inl ⟨i, hi, by rw [← hpe]; exact fz⟩))
      · obtain ⟨-, rfl, rfl⟩ := h9.resolve_right (fun q => absurd (z.symm.trans q.1) (by decide))
        rw [z]
        refine G_istore (ls' := [(4, .int (nI 1)), (3, .int (nI i)), (2, .int (nI 0)), (0, .ref 38), (1, .int x1)]) d_M_look_64 (by decide) rfl ?_
        refine G_iload 0 d_M_look_66 rfl ?_
        refine G_iconst (v := nI 1) d_M_look_68 (by decide) ?_
        refine G_iceq 75 d_M_look_69 (by decide) (fun _ => ?_) (fun h => absurd h (by decide))
        refine G_iinc 1 (v := nI (i + 1)) (ls' := [(3, .int (nI (i + 1))), (4, .int (nI 1)), (2, .int (nI 0)), (0, .ref 38), (1, .int x1)]) d_M_look_75 rfl (nI_1 _) (by decide) rfl ?_
        refine G_goto 45 d_M_look_78 (by decide) ?_
        exact G_sub [0, 2, 3, 4] rfl (ih (i + 1) N (by omega) (by omega) hT hR (fun c hc => (Nat.lt_succ_iff_lt_or_eq.mp hc).elim (hfit c) (fun q => by subst q; rw [← hpe]; exact fz)))
      · rcases h9 with ⟨z2, -⟩ | ⟨-, rfl, rfl⟩
        · exact absurd z z2
        refine G_istore (ls' := [(4, .int (nI 2)), (3, .int (nI i)), (2, .int (nI 0)), (0, .ref 38), (1, .int x1)]) d_M_look_64 (by decide) rfl ?_
        refine G_iload 0 d_M_look_66 rfl ?_
        refine G_iconst (v := nI 1) d_M_look_68 (by decide) ?_
        refine G_iceq 75 d_M_look_69 (by decide) (fun h => absurd h (by decide)) (fun _ => ?_)
        refine G_iload 0 d_M_look_72 rfl ?_
        exact G_iret d_M_look_74 rfl (k2 _ _ r2 t2 (sT_trans (sT_mi8 _ _) hT) hR rfl fh1 fh2 ⟨p, Or.inl ⟨i, hi, hpe⟩, fh3⟩)
set_option maxHeartbeats 4000000 in
set_option maxRecDepth 100000 in
theorem l_M_look1 {K : KC} {M : MC} {o : Nat → Int64} {nc ns : Nat} {d : Nat} {s0 a b n m : Nat} {x1 : Int32} (hS : wfS M) (hC : wfC M) (hP : wfP M) (hQ : wfQ M s0 a b) (hL : livesOk M) (hl : LV M s0) (hn : M.1 7 = nI n) (hn2 : n ≤ 130) (hm : M.1 11 = nI m) (hm2 : m ≤ 130) (hok : okPre M m s0 n) {post : mj_O → mj_H → Prop} (k0 : ∀ N, sT N M → ((∃ i, i < a ∧ misT M (preX M m s0 n).2 ((M.2 60 i).toNatClampNeg)) ∨ ∃ i, i < b ∧ fitT M (preX M m s0 n).2 ((M.2 61 i).toNatClampNeg)) → post (.inl (some (.int (nI 0)))) (hp K N o, nc, ns)) (k1 : ∀ N, sT N M → (∀ i, i < a → fitT M (preX M m s0 n).2 ((M.2 60 i).toNatClampNeg)) → (∀ i, i < b → misT M (preX M m s0 n).2 ((M.2 61 i).toNatClampNeg)) → post (.inl (some (.int (nI 1)))) (hp K N o, nc, ns)) (k2 : ∀ N h r t, sT N M → RepX N (preX M m s0 n) → N.1 8 = nI h → (preX M m s0 n).1[h]? = some (r, t) → (preX M m s0 n).2 r = none → (∃ p, ((∃ i, i < a ∧ p = (M.2 60 i).toNatClampNeg) ∨ ∃ i, i < b ∧ p = (M.2 61 i).toNatClampNeg) ∧ ∃ x ∈ askL M 13 p [], x.1 = r) → post (.inl (some (.int (nI 2)))) (hp K N o, nc, ns)) : ∀ (q i : Nat) (N : MC), i ≤ n → n < i + q → sT N M → RepX N (preX M m s0 i) → mj_G y_M_look b_M_look 5 (some .int) [] (d + 13) none 13 [(3, .int (nI i)), (2, .int (nI 0)), (0, .ref 38), (1, .int x1)] [] (hp K N o, nc, ns) post := by
  obtain ⟨-, q1, q2⟩ := id hS
  intro q
  induction q with
  | zero => intro i N h1 h2; omega
  | succ q ih =>
    intro i N h1 h2 hT hR
    have wS := sT_wfS hT hS
    have wC := sT_wfC hT hC
    obtain ⟨s1, s2, s7, s3, s4, s5, s6, s8, s9⟩ := sT_cs hT
    refine G_iload_n 0 d_M_look_13 rfl ?_
    refine G_aload_n 2 d_M_look_14 rfl ?_
    refine G_gt d_M_look_15 fr_M_136 (rd_M_splits K N o) ?_
    rw [hT.1 7 (by decide) (by decide), hn]
    refine G_icge 43 d_M_look_18 (by decide) (fun h18 => ?_) (fun h18 => ?_)
    · have h18 := (nI_leI (by omega) (by omega)).mp h18
      obtain rfl : i = n := by omega
      obtain ⟨xw, -⟩ := preX_ok hC hL hl i hok
      have hX0 := xw.2.1
      refine G_iconst (v := nI 0) d_M_look_43 (by decide) ?_
      refine G_istore_n (ls' := [(3, .int (nI 0)), (2, .int (nI 0)), (0, .ref 38), (1, .int x1)]) d_M_look_44 (by decide) rfl ?_
      exact G_sub [0, 1, 2, 3] rfl (l_M_look2 hS hC hP hQ hX0 k0 k1 k2 (a + 1) 0 N (by omega) (by omega) hT hR (fun c hc => absurd hc (Nat.not_lt_zero c)))
    · have h18 : ¬ _ := fun z => h18 ((nI_leI (by omega) (by omega)).mpr z)
      have hi : i < n := by omega
      obtain ⟨r, t, a1, a2, e56, e57, a5, a6⟩ := hok i hi
      obtain ⟨xw, xl⟩ := preX_ok hC hL hl i (fun c hc => hok c (by omega))
      have hlt := lt_of_get a1
      refine G_aload_n 2 d_M_look_21 rfl ?_
      refine G_aload_n 2 d_M_look_22 rfl ?_
      refine G_gt d_M_look_23 fr_M_66 (rd_M_holes K N o) ?_
      refine G_iload_n 0 d_M_look_26 rfl ?_
      refine G_ialN d_M_look_27 (ar_56 K N o) (by decide) (by omega) ?_
      rw [hT.2 56 (by decide), e56]
      refine G_aload_n 2 d_M_look_28 rfl ?_
      refine G_gt d_M_look_29 fr_M_69 (rd_M_choice K N o) ?_
      refine G_iload_n 0 d_M_look_32 rfl ?_
      refine G_ialN d_M_look_33 (ar_57 K N o) (by decide) (by omega) ?_
      rw [hT.2 57 (by decide), e57]
      refine G_cvp (fun a9 A9 => a9 = none ∧ ∃ N2 : MC, A9 = (hp K N2 o, nc, ns) ∧ sT N2 M ∧ RepX N2 (preX M m s0 (i + 1))) (As := [.int (nI (hN M i)), .int (nI (jN M i))]) d_M_look_34 cv_M_139 cw_M_fill (ob_M K N o) np_M_fill (Nat.le_of_ble_eq_true rfl) (Nat.le_of_ble_eq_true rfl) (fun post2 kk => ?_) (fun a9 A9 h9 => by obtain ⟨-, N2, rfl, -⟩ := h9; rfl) (fun a9 A9 h9 => ?_)
      · by_cases ht : t = 0
        · subst ht
          refine c_M_fillI (hN M i) (jN M i) m (by omega) (by have := a5 rfl; omega) hm2 (by rw [hT.1 11 (by decide) (by decide), hm]) (hR.2.2 _ _ _ a1).2.1 (kk _ _ ⟨rfl, _, rfl, sT_trans sT_fillI hT, ?_⟩)
          have h5 := RepX_I (j := jN M i) (m := m) (sT_XW hT xw) hR a1
          have h6 : ilab N (jN M i) m = ilab M (jN M i) m := by unfold ilab; rw [hT.2 62 (by decide)]
          rw [h6] at h5
          show RepX _ (stepX M m (preX M m s0 i) (hN M i) (jN M i))
          rw [stepX_I a1]; exact h5
        · refine c_M_fillC (hN M i) (jN M i) (preX M m s0 i).1.length t wS wC (by omega) (hR.2.2 _ _ _ a1).2.1 (by have := (hR.2.2 _ _ _ a1).2.2.1; rw [s1] at this; omega) ht (by rw [sT_optL hT, s2]; exact a6 ht) hR.1 (by omega) (fun c hc hg => kk _ _ ⟨rfl, _, rfl, sT_trans sT_fillC hT, ?_⟩)
          have hcs := (optL_mem (List.mem_of_getElem? hg)).2.1
          have h5 := RepX_C (sT_XW hT xw) hR wC a1 a2 hc hcs (by omega)
          rw [sT_optL hT, s2] at hg
          have h6 : xC N (preX M m s0 i) r c = xC M (preX M m s0 i) r c := by unfold xC; rw [sT_kids hT]
          rw [h6] at h5
          show RepX _ (stepX M m (preX M m s0 i) (hN M i) (jN M i))
          rw [stepX_C a1 ht hg]; exact h5
      obtain ⟨rfl, N2, rfl, hT2, hR2⟩ := h9
      refine G_iinc 0 (v := nI (i + 1)) (ls' := [(3, .int (nI (i + 1))), (2, .int (nI 0)), (0, .ref 38), (1, .int x1)]) d_M_look_37 rfl (nI_1 _) (by decide) rfl ?_
      refine G_goto 13 d_M_look_40 (by decide) ?_
      exact G_sub [0, 1, 2, 3] rfl (ih (i + 1) N2 (by omega) (by omega) hT2 hR2)
theorem LV_lt {M : MC} {s : Nat} (h : LV M s) : s < mS M := by
  obtain ⟨X, h1, h2⟩ := h
  exact (h2 s h1).1
theorem RepX_0 {M : MC} {s0 : Nat} (h : s0 < mS M) : RepX (nodeM (mi M 6 0) 0 (nI s0)) ([([], s0)], fun _ => none) := by
  refine ⟨rfl, (show 1 ≤ 270 by decide), fun v r t hv => ?_⟩
  have h1 : v < 1 := lt_of_get hv
  obtain rfl : v = 0 := by omega
  cases hv
  exact ⟨⟨rfl, (show 0 ≤ 3 by decide)⟩, rfl, h, Or.inl ⟨rfl, rfl⟩⟩
set_option maxHeartbeats 4000000 in
set_option maxRecDepth 100000 in
theorem c_M_look {K : KC} {M : MC} {o : Nat → Int64} {nc ns : Nat} {d : Nat} {s0 a b n m : Nat} (hS : wfS M) (hC : wfC M) (hP : wfP M) (hQ : wfQ M s0 a b) (hL : livesOk M) (hl : LV M s0) (hn : M.1 7 = nI n) (hn2 : n ≤ 130) (hm : M.1 11 = nI m) (hm2 : m ≤ 130) (hok : okPre M m s0 n) {post : mj_O → mj_H → Prop} (k0 : ∀ N, sT N M → ((∃ i, i < a ∧ misT M (preX M m s0 n).2 ((M.2 60 i).toNatClampNeg)) ∨ ∃ i, i < b ∧ fitT M (preX M m s0 n).2 ((M.2 61 i).toNatClampNeg)) → post (.inl (some (.int (nI 0)))) (hp K N o, nc, ns)) (k1 : ∀ N, sT N M → (∀ i, i < a → fitT M (preX M m s0 n).2 ((M.2 60 i).toNatClampNeg)) → (∀ i, i < b → misT M (preX M m s0 n).2 ((M.2 61 i).toNatClampNeg)) → post (.inl (some (.int (nI 1)))) (hp K N o, nc, ns)) (k2 : ∀ N h r t, sT N M → RepX N (preX M m s0 n) → N.1 8 = nI h → (preX M m s0 n).1[h]? = some (r, t) → (preX M m s0 n).2 r = none → (∃ p, ((∃ i, i < a ∧ p = (M.2 60 i).toNatClampNeg) ∨ ∃ i, i < b ∧ p = (M.2 61 i).toNatClampNeg) ∧ ∃ x ∈ askL M 13 p [], x.1 = r) → post (.inl (some (.int (nI 2)))) (hp K N o, nc, ns)) : mj_G y_M_look b_M_look 5 (some .int) [] (d + 13) none 0 [(0, .ref 38), (1, .int (nI s0))] [] (hp K M o, nc, ns) post := by
  refine G_aload_n 0 d_M_look_0 rfl ?_
  refine G_iconst (v := 0) d_M_look_1 (by decide) ?_
  refine G_pt d_M_look_2 fp_M_116 (wr_M_nodes K M o 0) ?_
  refine G_aload_n 0 d_M_look_5 rfl ?_
  refine G_iload_n 1 d_M_look_6 rfl ?_
  refine G_cv1 (some (.int (nI 0))) (hp K (nodeM (mi M 6 0) 0 (nI s0)) o, nc, ns) (As := [.int (nI s0)]) d_M_look_7 cv_M_125 cw_M_node (ob_M K (mi M 6 0) o) np_M_node (Nat.le_of_ble_eq_true rfl) (Nat.le_of_ble_eq_true rfl) (fun post2 k2 => c_M_node (nI s0) 0 rfl (by omega) k2) rfl ?_
  refine G_istore_n (ls' := [(2, .int (nI 0)), (0, .ref 38), (1, .int (nI s0))]) d_M_look_10 (by decide) rfl ?_
  refine G_iconst (v := nI 0) d_M_look_11 (by decide) ?_
  refine G_istore_n (ls' := [(3, .int (nI 0)), (2, .int (nI 0)), (0, .ref 38), (1, .int (nI s0))]) d_M_look_12 (by decide) rfl ?_
  exact G_sub [0, 1, 2, 3] rfl (l_M_look1 hS hC hP hQ hL hl hn hn2 hm hm2 hok k0 k1 k2 (n + 1) 0 _ (by omega) (by omega) (sT_trans sT_node (sT_mi6 _ _)) (RepX_0 (LV_lt hl)))
end
section
/-! has: the search -/
def coM (M : MC) : MC := (fun k => if k = 6 ∨ k = 7 ∨ k = 8 then 0 else M.1 k, fun a => if 51 ≤ a ∧ a ≤ 58 then (fun _ => 0) else M.2 a)
theorem co_of {α : Type} (f : MC → α) (hf : ∀ N, f (coM N) = f N) {N M : MC} (h : coM N = coM M) : f N = f M := by rw [← hf N, h, hf M]
theorem co_P (f : MC → Prop) (hf : ∀ N, f (coM N) = f N) {N M : MC} (h : coM N = coM M) (hM : f M) : f N := (co_of f hf h).mpr hM
theorem sT_co {N M : MC} (h : sT N M) : coM N = coM M := by
  unfold coM
  refine Prod.ext (funext fun k => ?_) (funext fun a => ?_)
  · show (if k = 6 ∨ k = 7 ∨ k = 8 then 0 else N.1 k) = (if k = 6 ∨ k = 7 ∨ k = 8 then 0 else M.1 k)
    by_cases e : k = 6 ∨ k = 7 ∨ k = 8
    · rw [if_pos e, if_pos e]
    · rw [if_neg e, if_neg e, h.1 k (by omega) (by omega)]
  · show (if 51 ≤ a ∧ a ≤ 58 then (fun _ => 0) else N.2 a) = (if 51 ≤ a ∧ a ≤ 58 then (fun _ => 0) else M.2 a)
    by_cases e : 51 ≤ a ∧ a ≤ 58
    · rw [if_pos e, if_pos e]
    · rw [if_neg e, if_neg e, h.2 a (by omega)]
theorem co_mi {M : MC} {k : Nat} {v : Int32} (h : k = 6 ∨ k = 7 ∨ k = 8) : coM (mi M k v) = coM M := by
  unfold coM
  refine Prod.ext (funext fun j => ?_) rfl
  show (if j = 6 ∨ j = 7 ∨ j = 8 then 0 else upd M.1 k v j) = (if j = 6 ∨ j = 7 ∨ j = 8 then 0 else M.1 j)
  by_cases e : j = 6 ∨ j = 7 ∨ j = 8
  · rw [if_pos e, if_pos e]
  · rw [if_neg e, if_neg e]; exact pk_un (by omega)
theorem co_ma {M : MC} {a i : Nat} {v : Int32} (h : 51 ≤ a ∧ a ≤ 58) : coM (ma M a i v) = coM M := by
  unfold coM
  refine Prod.ext rfl (funext fun b => ?_)
  show (if 51 ≤ b ∧ b ≤ 58 then (fun _ => 0) else va_up M.2 a (upd (M.2 a) i v) b) = (if 51 ≤ b ∧ b ≤ 58 then (fun _ => 0) else M.2 b)
  by_cases e : 51 ≤ b ∧ b ≤ 58
  · rw [if_pos e, if_pos e]
  · rw [if_neg e, if_neg e]; exact va_up_ne _ _ (by omega)
theorem co_wfS (N : MC) : wfS (coM N) = wfS N := rfl
theorem co_wfC (N : MC) : wfC (coM N) = wfC N := rfl
theorem co_wfP (N : MC) : wfP (coM N) = wfP N := rfl
theorem co_LV (N : MC) : LV (coM N) = LV N := rfl
theorem co_liv (N : MC) : livesOk (coM N) = livesOk N := rfl
theorem co_opt (N : MC) : optL (coM N) = optL N := rfl
theorem co_mC (N : MC) : mC (coM N) = mC N := rfl
theorem co_stepX (N : MC) : stepX (coM N) = stepX N := rfl
theorem co_askL (N : MC) : askL (coM N) = askL N := by
  funext f
  induction f with
  | zero => rfl
  | succ f ih =>
    funext p r
    show (if pk N p = 0 then [] else if pk N p = 1 then [(r, (N.2 45 p).toInt)] else (r, lab (pn N p)) :: ((if 1 ≤ cP N (pn N p) then askL (coM N) f (pf N p) (0 :: r) else []) ++ (if 2 ≤ cP N (pn N p) then askL (coM N) f (pg N p) (1 :: r) else []))) = _
    rw [ih]; rfl
theorem co_wfQ (N : MC) : wfQ (coM N) = wfQ N := rfl
theorem co_msL (N : MC) : msL (coM N) = msL N := rfl
theorem co_nvL (N : MC) : nvL (coM N) = nvL N := rfl
theorem co_fitT (N : MC) : fitT (coM N) = fitT N := by
  funext t p
  show (∀ x ∈ askL (coM N) 13 p [], _) = _
  rw [co_askL]; rfl
theorem co_misT (N : MC) : misT (coM N) = misT N := by
  funext t p
  show (∃ x ∈ askL (coM N) 13 p [], _) = _
  rw [co_askL]; rfl
theorem co_srt (N : MC) : srt (coM N) = srt N := by
  funext s t r
  cases r with
  | nil => rfl
  | cons k r => rfl
theorem co_wfT (N : MC) : wfT (coM N) = wfT N := by
  funext s t
  show (∀ r a, t r = some a → ∃ s2, srt (coM N) s t r = some s2 ∧ okA N s2 a) = _
  rw [co_srt]; rfl
theorem co_Sat (N : MC) : Sat (coM N) = Sat N := by
  funext s0 ms nv u
  show (∃ t, extT u t ∧ wfT (coM N) s0 t ∧ (∀ p ∈ ms, fitT (coM N) t p) ∧ ∀ p ∈ nv, misT (coM N) t p) = _
  rw [co_wfT, co_fitT, co_misT]; rfl
def PL (M : MC) : List (List Nat) := (msL M ++ nvL M).flatMap (fun p => (askL M 13 p []).map Prod.fst)
theorem co_PL (N : MC) : PL (coM N) = PL N := by
  unfold PL
  rw [co_askL]; rfl
/-- the prefix hangs on the written cells below n -/
def kp (N N' : MC) (n : Nat) : Prop := ∀ i, i < n → N.2 56 i = N'.2 56 i ∧ N.2 57 i = N'.2 57 i ∧ N.2 58 i = N'.2 58 i
theorem preX_kp {N N' : MC} {m s0 : Nat} (hc : coM N = coM N') : ∀ n, kp N N' n → preX N m s0 n = preX N' m s0 n := by
  intro n
  induction n with
  | zero => intro _; rfl
  | succ n ih =>
    intro h
    obtain ⟨h1, h2, -⟩ := h n (by omega)
    show stepX N m (preX N m s0 n) (hN N n) (jN N n) = stepX N' m (preX N' m s0 n) (hN N' n) (jN N' n)
    rw [ih (fun i hi => h i (by omega)), co_of stepX co_stepX hc]
    unfold hN jN
    rw [h1, h2]
theorem okPre_kp {N N' : MC} {m s0 n : Nat} (hc : coM N = coM N') (h : kp N N' n) (hok : okPre N' m s0 n) : okPre N m s0 n := by
  intro i hi
  obtain ⟨h1, h2, -⟩ := h i hi
  rw [preX_kp hc i (fun k hk => h k (by omega))]
  unfold hN jN
  rw [h1, h2, co_of optL co_opt hc, co_of mC co_mC hc]
  exact hok i hi
def oN (M : MC) (m t : Nat) : Nat := if t = 0 then m + 1 else (optL M t (mC M)).length
theorem okPre_s {N : MC} {m s0 n h t : Nat} {r : List Nat} (hok : okPre N m s0 n) (h1 : (preX N m s0 n).1[h]? = some (r, t)) (h2 : (preX N m s0 n).2 r = none) {j : Nat} (h3 : N.2 56 n = nI h) (h4 : N.2 57 n = nI j) (hb : h < 2 ^ 31) (hb2 : j < 2 ^ 31) (h5 : j < oN N m t) : okPre N m s0 (n + 1) := by
  intro i hi
  rcases Nat.lt_succ_iff_lt_or_eq.mp hi with q | rfl
  · exact hok i q
  · have e1 : hN N i = h := by unfold hN; rw [h3, nI_clamp hb]
    have e2 : jN N i = j := by unfold jN; rw [h4, nI_clamp hb2]
    rw [e1, e2]
    unfold oN at h5
    refine ⟨r, t, h1, h2, h3, h4, fun z => ?_, fun z => ?_⟩
    · rw [if_pos z] at h5; omega
    · rw [if_neg z] at h5; exact h5
theorem stepX_u {M : MC} {m h t j : Nat} {X : XS} {r : List Nat} (h1 : X.1[h]? = some (r, t)) (h5 : j < oN M m t) : ∃ a, (stepX M m X h j).2 = updT X.2 r a := by
  by_cases ht : t = 0
  · subst ht; rw [stepX_I h1]; exact ⟨_, rfl⟩
  · unfold oN at h5
    rw [if_neg ht] at h5
    rw [stepX_C h1 ht (List.getElem?_eq_getElem h5)]
    exact ⟨_, rfl⟩
theorem no_split {M : MC} {s0 m h t : Nat} {X : XS} {r : List Nat} {ms nv : List Nat} (hC : wfC M) (hP : wfP M) (hL : livesOk M) (hms : ∀ p ∈ ms, p < mP M ∧ ps M p = s0) (hG : ∀ p, p ∈ ms ∨ p ∈ nv → ∀ x ∈ askL M 13 p [], hasL M (M.2 62) m (M.2 59) x.2)
    (hX : XW M s0 X) (h1 : X.1[h]? = some (r, t)) (h2 : X.2 r = none) (hall : ∀ j, j < oN M m t → ¬ Sat M s0 ms nv (stepX M m X h j).2) : ¬ Sat M s0 ms nv X.2 := by
  intro hs
  obtain ⟨q1, q2⟩ := hX.2.2.1 h r t h1
  by_cases ht : t = 0
  · subst ht
    obtain ⟨j, j1, j2⟩ := split_I hC hP hms hG hX.2.2.2 h2 q1 hs
    refine hall j (by unfold oN; rw [if_pos rfl]; omega) ?_
    rw [stepX_I h1]; exact j2
  · obtain ⟨c, c1, c2⟩ := split_C hC hP hL hms hG hX.2.2.2 h2 q1 q2 ht hs
    obtain ⟨j, j1⟩ := List.getElem?_of_mem c1
    refine hall j (by unfold oN; rw [if_neg ht]; exact lt_of_get j1) ?_
    rw [stepX_C h1 ht j1]; exact c2
theorem oN_pos {M : MC} {m t : Nat} (hC : wfC M) (hL : livesOk M) (h : LV M t) : 0 < oN M m t := by
  unfold oN
  by_cases ht : t = 0
  · rw [if_pos ht]; omega
  · rw [if_neg ht]
    obtain ⟨-, q⟩ := LV_step h
    rcases q with q | ⟨c, c1, c2, c3⟩
    · exact absurd q ht
    have hu2 : usdD M c := (usd_iff hL hC c1).mpr c3
    by_cases htr : tri M c
    · exact List.length_pos_of_mem (mem_optL c1 ⟨c2, htr⟩)
    · obtain ⟨i, i1, i2, -, i4⟩ := tri_rep hu2 htr
      exact List.length_pos_of_mem (mem_optL (by omega) ⟨by rw [i2, c2], i4⟩)
def mu (l : List (List Nat)) (t : Tr) : Nat := (l.filter (fun r => (t r).isNone)).length
theorem mu_up {t : Tr} {r : List Nat} {a : Int} (h2 : t r = none) : ∀ l : List (List Nat), mu l (updT t r a) ≤ mu l t ∧ (r ∈ l → mu l (updT t r a) < mu l t) := by
  intro l
  induction l with
  | nil => exact ⟨Nat.le_refl _, fun h => by cases h⟩
  | cons q l ih =>
    unfold mu at *
    by_cases e : q = r
    · subst e
      have e1 : (updT t q a q).isNone = false := by rw [updT_s]; rfl
      have e2 : (t q).isNone = true := by rw [h2]; rfl
      rw [List.filter_cons_of_neg (by rw [e1]; decide), List.filter_cons_of_pos (by rw [e2])]
      rw [List.length_cons]
      exact ⟨by omega, fun _ => by omega⟩
    · have e1 : (updT t r a q).isNone = (t q).isNone := by rw [updT_n e]
      cases e2 : (t q).isNone with
      | true =>
        rw [List.filter_cons_of_pos (by rw [e1, e2]), List.filter_cons_of_pos (by rw [e2]), List.length_cons, List.length_cons]
        exact ⟨by omega, fun h => by have := ih.2 ((List.mem_cons.mp h).resolve_left (fun z => e z.symm)); omega⟩
      | false =>
        rw [List.filter_cons_of_neg (by rw [e1, e2]; decide), List.filter_cons_of_neg (by rw [e2]; decide)]
        exact ⟨ih.1, fun h => ih.2 ((List.mem_cons.mp h).resolve_left (fun z => e z.symm))⟩
theorem mu_le (l : List (List Nat)) (t : Tr) : mu l t ≤ l.length := List.length_filter_le _ _
theorem PL_len {M : MC} {s0 a b : Nat} (hP : wfP M) (hQ : wfQ M s0 a b) : (PL M).length ≤ 120 := by
  have key : ∀ l : List Nat, (∀ p ∈ l, p < mP M) → (l.flatMap (fun p => (askL M 13 p []).map Prod.fst)).length ≤ 12 * l.length := by
    intro l
    induction l with
    | nil => intro _; exact Nat.le_refl _
    | cons p l ih =>
      intro h
      have hp := h p List.mem_cons_self
      have hd := (hP.2.2 p hp).2.2.1.2
      rw [List.flatMap_cons, List.length_append, List.length_map, askL_len hP 13 p [] hp (by omega), List.length_cons]
      have := ih (fun q hq => h q (List.mem_cons_of_mem _ hq))
      omega
  obtain ⟨e9, b9, e10, b10, h1, h2⟩ := hQ
  have hl : (msL M ++ nvL M).length = a + b := by
    unfold msL nvL
    rw [List.length_append, List.length_map, List.length_map, List.length_range, List.length_range, e9, e10, nI_clamp (by omega), nI_clamp (by omega)]
  have := key (msL M ++ nvL M) (fun p hp => by
    rcases List.mem_append.mp hp with hp | hp
    · obtain ⟨i, hi, rfl⟩ := List.mem_map.mp hp
      rw [List.mem_range, e9, nI_clamp (by omega)] at hi
      obtain ⟨p, e, hp, -⟩ := h1 i hi
      have := hP.2.1
      rw [e, nI_clamp (by omega)]; exact hp
    · obtain ⟨i, hi, rfl⟩ := List.mem_map.mp hp
      rw [List.mem_range, e10, nI_clamp (by omega)] at hi
      obtain ⟨p, e, hp, -⟩ := h2 i hi
      have := hP.2.1
      rw [e, nI_clamp (by omega)]; exact hp)
  rw [hl] at this
  unfold PL
  omega
end
section
/-! has: the search, walked -/
def EV (M : MC) (s0 a b m : Nat) : Prop := wfS M ∧ wfC M ∧ wfP M ∧ wfQ M s0 a b ∧ livesOk M ∧ LV M s0 ∧ M.1 11 = nI m ∧ m ≤ 130 ∧ (∀ p, p ∈ msL M ∨ p ∈ nvL M → ∀ x ∈ askL M 13 p [], hasL M (M.2 62) m (M.2 59) x.2)
theorem msL_mem {M : MC} {s0 a b : Nat} (hQ : wfQ M s0 a b) {p : Nat} : p ∈ msL M ↔ ∃ i, i < a ∧ p = (M.2 60 i).toNatClampNeg := by
  have e : (M.1 9).toNatClampNeg = a := by rw [hQ.1, nI_clamp (by have := hQ.2.1; omega)]
  unfold msL
  rw [List.mem_map]
  exact ⟨fun ⟨i, h1, h2⟩ => ⟨i, by rw [List.mem_range, e] at h1; exact h1, h2.symm⟩, fun ⟨i, h1, h2⟩ => ⟨i, by rw [List.mem_range, e]; exact h1, h2.symm⟩⟩
theorem nvL_mem {M : MC} {s0 a b : Nat} (hQ : wfQ M s0 a b) {p : Nat} : p ∈ nvL M ↔ ∃ i, i < b ∧ p = (M.2 61 i).toNatClampNeg := by
  have e : (M.1 10).toNatClampNeg = b := by rw [hQ.2.2.1, nI_clamp (by have := hQ.2.2.2.1; omega)]
  unfold nvL
  rw [List.mem_map]
  exact ⟨fun ⟨i, h1, h2⟩ => ⟨i, by rw [List.mem_range, e] at h1; exact h1, h2.symm⟩, fun ⟨i, h1, h2⟩ => ⟨i, by rw [List.mem_range, e]; exact h1, h2.symm⟩⟩
theorem msL_ok {M : MC} {s0 a b : Nat} (hP : wfP M) (hQ : wfQ M s0 a b) : ∀ p ∈ msL M, p < mP M ∧ ps M p = s0 := by
  intro p hp
  obtain ⟨i, hi, rfl⟩ := (msL_mem hQ).mp hp
  obtain ⟨p, e, h1, h2⟩ := hQ.2.2.2.2.1 i hi
  have := hP.2.1
  rw [e, nI_clamp (by omega)]; exact ⟨h1, h2⟩
theorem nvL_ok {M : MC} {s0 a b : Nat} (hP : wfP M) (hQ : wfQ M s0 a b) : ∀ p ∈ nvL M, p < mP M ∧ ps M p = s0 := by
  intro p hp
  obtain ⟨i, hi, rfl⟩ := (nvL_mem hQ).mp hp
  obtain ⟨p, e, h1, h2⟩ := hQ.2.2.2.2.2 i hi
  have := hP.2.1
  rw [e, nI_clamp (by omega)]; exact ⟨h1, h2⟩
theorem PL_mem {M : MC} {s0 a b : Nat} (hQ : wfQ M s0 a b) {p : Nat} (h : (∃ i, i < a ∧ p = (M.2 60 i).toNatClampNeg) ∨ ∃ i, i < b ∧ p = (M.2 61 i).toNatClampNeg) {x : List Nat × Int} (hx : x ∈ askL M 13 p []) : x.1 ∈ PL M := by
  unfold PL
  rw [List.mem_flatMap]
  refine ⟨p, List.mem_append.mpr (h.imp (msL_mem hQ).mpr (nvL_mem hQ).mpr), List.mem_map.mpr ⟨x, hx, rfl⟩⟩
theorem sT_kp {N' N : MC} (h : sT N' N) (n : Nat) : kp N' N n := fun i _ => by
  rw [h.2 56 (by decide), h.2 57 (by decide), h.2 58 (by decide)]; exact ⟨rfl, rfl, rfl⟩
set_option maxHeartbeats 600000 in
set_option maxRecDepth 100000 in
theorem c_look2 {K : KC} {M : MC} {o : Nat → Int64} {nc ns : Nat} {N : MC} {d : Nat} {s0 a b n m : Nat} (hE : EV M s0 a b m) (hc : coM N = coM M) (hn : N.1 7 = nI n) (hn2 : n ≤ 130) (hok : okPre N m s0 n) {post : mj_O → mj_H → Prop}
    (k0 : ∀ N', coM N' = coM M → N'.1 7 = nI n → kp N' N n → ¬ Sat M s0 (msL M) (nvL M) (preX N m s0 n).2 → post (.inl (some (.int (nI 0)))) (hp K N' o, nc, ns))
    (k1 : ∀ N', coM N' = coM M → Sat M s0 (msL M) (nvL M) (preX N m s0 n).2 → post (.inl (some (.int (nI 1)))) (hp K N' o, nc, ns))
    (k2 : ∀ N' h r t, coM N' = coM M → N'.1 7 = nI n → kp N' N n → N'.1 8 = nI h → N'.2 52 h = nI t → h < 270 → t < 12 → (preX N m s0 n).1[h]? = some (r, t) → (preX N m s0 n).2 r = none → r ∈ PL M → post (.inl (some (.int (nI 2)))) (hp K N' o, nc, ns)) : mj_G y_M_look b_M_look 5 (some .int) [] (d + 13) none 0 [(0, .ref 38), (1, .int (nI s0))] [] (hp K N o, nc, ns) post := by
  obtain ⟨hS, hC, hP, hQ, hL, hl, hm, hm2, hG⟩ := hE
  have wS := co_P wfS co_wfS hc hS
  have wC := co_P wfC co_wfC hc hC
  have wP := co_P wfP co_wfP hc hP
  have wQ : wfQ N s0 a b := co_P (fun N => wfQ N s0 a b) (fun N => rfl) hc hQ
  have wL := co_P livesOk co_liv hc hL
  have wl : LV N s0 := co_P (fun N => LV N s0) (fun N => rfl) hc hl
  have e60 : N.2 60 = M.2 60 := co_of (fun N => N.2 60) (fun _ => rfl) hc
  have e61 : N.2 61 = M.2 61 := co_of (fun N => N.2 61) (fun _ => rfl) hc
  have em : N.1 11 = nI m := (co_of (fun N => N.1 11) (fun _ => rfl) hc).trans hm
  have eF : fitT N = fitT M := co_of fitT co_fitT hc
  have eS : misT N = misT M := co_of misT co_misT hc
  have eA : askL N = askL M := co_of askL co_askL hc
  have e7 : ∀ N', sT N' N → N'.1 7 = nI n := fun N' h => (h.1 7 (by decide) (by decide)).trans hn
  obtain ⟨xw, xl⟩ := preX_ok wC wL wl n hok
  refine c_M_look wS wC wP wQ wL wl hn hn2 em hm2 hok (fun N' hT h => ?_) (fun N' hT h1 h2 => ?_) (fun N' h r t hT hR h8 hg hnn hx => ?_)
  · refine k0 N' ((sT_co hT).trans hc) (e7 N' hT) (sT_kp hT n) (fun ⟨t, he, hw, hm', hn'⟩ => ?_)
    rw [e60, e61, eF, eS] at h
    rcases h with ⟨i, hi, h⟩ | ⟨i, hi, h⟩
    · exact mis_not_fit (misT_ext h he) (hm' _ ((msL_mem hQ).mpr ⟨i, hi, rfl⟩))
    · exact mis_not_fit (hn' _ ((nvL_mem hQ).mpr ⟨i, hi, rfl⟩)) (fitT_ext h he)
  · rw [e60, eF] at h1
    rw [e61, eS] at h2
    refine k1 N' ((sT_co hT).trans hc) ⟨(preX N m s0 n).2, fun r a h => h, ?_, fun p hp => ?_, fun p hp => ?_⟩
    · rw [← co_of wfT co_wfT hc]; exact xw.2.2.2
    · obtain ⟨i, hi, rfl⟩ := (msL_mem hQ).mp hp
      exact h1 i hi
    · obtain ⟨i, hi, rfl⟩ := (nvL_mem hQ).mp hp
      exact h2 i hi
  · obtain ⟨p, hp, x, hx, rfl⟩ := hx
    rw [e60, e61] at hp
    rw [eA] at hx
    obtain ⟨-, g1, g2, -⟩ := hR.2.2 h _ _ hg
    have := (sT_cs hT).1
    have h12 := wS.2.2
    have h270 := hR.2.1
    have hlt := lt_of_get hg
    exact k2 N' h _ t ((sT_co hT).trans hc) (e7 N' hT) (sT_kp hT n) h8 g1 (by omega) (by omega) hg hnn (PL_mem hQ hp hx)
theorem c_M_optionsN {K : KC} {M : MC} {o : Nat → Int64} {nc ns : Nat} {d : Nat} (m t : Nat) (ht : t < 12) (hS : wfS M) (hC : wfC M) (hm : M.1 11 = nI m) {post : mj_O → mj_H → Prop} (k : post (.inl (some (.int (nI (oN M m t))))) (hp K M o, nc, ns)) : mj_G y_M_options b_M_options 4 (some .int) [] (d + 2) none 0 [(0, .ref 38), (1, .int (nI t))] [] (hp K M o, nc, ns) post := by
  unfold oN at k
  by_cases e : t = 0
  · subst e
    rw [if_pos rfl] at k
    exact c_M_options0 m hm k
  · rw [if_neg e] at k
    exact c_M_options t ht e hS hC k
theorem c_opt2 {K : KC} {M : MC} {o : Nat → Int64} {nc ns : Nat} {N : MC} {d : Nat} {s0 a b m t : Nat} (hE : EV M s0 a b m) (hc : coM N = coM M) (ht : t < 12) {post : mj_O → mj_H → Prop} (k : post (.inl (some (.int (nI (oN M m t))))) (hp K N o, nc, ns)) : mj_G y_M_options b_M_options 4 (some .int) [] (d + 2) none 0 [(0, .ref 38), (1, .int (nI t))] [] (hp K N o, nc, ns) post := by
  refine c_M_optionsN m t ht (co_P wfS co_wfS hc hE.1) (co_P wfC co_wfC hc hE.2.1) ((co_of (fun N => N.1 11) (fun _ => rfl) hc).trans hE.2.2.2.2.2.2.1) ?_
  rw [co_of (fun Q => oN Q m t) (fun _ => rfl) hc]; exact k
set_option maxHeartbeats 600000 in
set_option maxRecDepth 100000 in
theorem l_M_hasJ {K : KC} {M : MC} {o : Nat → Int64} {nc ns : Nat} {d : Nat} {s0 a b n m : Nat} (hE : EV M s0 a b m) (hn : n < 120) {X : XS} {N0 : MC} {h t : Nat} {r : List Nat} (hXW : XW M s0 X) (hX1 : X.1[h]? = some (r, t)) (hX2 : X.2 r = none) (ho : oN M m t < 2 ^ 30) {post : mj_O → mj_H → Prop}
    (IH : ∀ N j, j < oN M m t → coM N = coM M → N.1 7 = nI (n + 1) → kp N N0 n → N.2 56 n = nI h → N.2 57 n = nI j → (∀ N', coM N' = coM M → Sat M s0 (msL M) (nvL M) (stepX M m X h j).2 → post (.inl (some (.int 1))) (hp K N' o, nc, ns)) → (∀ N', coM N' = coM M → N'.1 7 = nI (n + 1) → kp N' N (n + 1) → ¬ Sat M s0 (msL M) (nvL M) (stepX M m X h j).2 → mj_G y_M_has b_M_has 3 (some .boolean) [] (d + 14) none 176 [(0, .ref 38), (1, .int (nI s0))] [] (hp K N' o, nc, ns) post) → mj_G y_M_has b_M_has 3 (some .boolean) [] (d + 14) none 100 [(0, .ref 38), (1, .int (nI s0))] [] (hp K N o, nc, ns) post)
    (k1 : ∀ N', coM N' = coM M → Sat M s0 (msL M) (nvL M) X.2 → post (.inl (some (.int 1))) (hp K N' o, nc, ns)) (kk : ∀ N', coM N' = coM M → N'.1 7 = nI n → kp N' N0 n → ¬ Sat M s0 (msL M) (nvL M) X.2 → mj_G y_M_has b_M_has 3 (some .boolean) [] (d + 14) none 176 [(0, .ref 38), (1, .int (nI s0))] [] (hp K N' o, nc, ns) post) :
    ∀ q j N, j < oN M m t → oN M m t ≤ j + q → coM N = coM M → N.1 7 = nI (n + 1) → kp N N0 n → N.2 56 n = nI h → N.2 57 n = nI j → N.2 58 n = nI (oN M m t) → (∀ c, c < j → ¬ Sat M s0 (msL M) (nvL M) (stepX M m X h c).2) → mj_G y_M_has b_M_has 3 (some .boolean) [] (d + 14) none 100 [(0, .ref 38), (1, .int (nI s0))] [] (hp K N o, nc, ns) post := by
  obtain ⟨hS, hC, hP, hQ, hL, hl, hm, hm2, hG⟩ := hE
  intro q
  induction q with
  | zero => intro j N h1 h2; omega
  | succ q ih =>
    intro j N hj1 hj2 hc h7 hk g56 g57 g58 hall
    refine IH N j hj1 hc h7 hk g56 g57 (fun N' hc' hs => k1 N' hc' ?_) (fun N2 hc2 h72 hk2 hns => ?_)
    · obtain ⟨a, e⟩ := stepX_u (m := m) hX1 hj1
      rw [e] at hs
      exact Sat_up hX2 hs
    · refine G_aload_n 0 d_M_has_176 rfl ?_
      refine G_gt d_M_has_177 fr_M_136 (rd_M_splits K N2 o) ?_
      rw [h72]
      refine G_ifle 223 d_M_has_180 (by decide) (fun h180 => False.elim (nI_nle (n := n + 1) (by omega) (by omega) h180)) (fun h180 => ?_)
      refine G_aload_n 0 d_M_has_183 rfl ?_
      refine G_gt d_M_has_184 fr_M_69 (rd_M_choice K N2 o) ?_
      refine G_aload_n 0 d_M_has_187 rfl ?_
      refine G_gt d_M_has_188 fr_M_136 (rd_M_splits K N2 o) ?_
      rw [h72]
      refine G_iconst (v := 1) d_M_has_191 (by decide) ?_
      refine G_isub d_M_has_192 ?_
      rw [nI_pred]
      refine G_ialN d_M_has_193 (ar_57 K N2 o) (by decide) (by omega) ?_
      rw [(hk2 n (by omega)).2.1, g57]
      refine G_iconst (v := 1) d_M_has_194 (by decide) ?_
      refine G_iadd d_M_has_195 ?_
      rw [nI_1]
      refine G_aload_n 0 d_M_has_196 rfl ?_
      refine G_gt d_M_has_197 fr_M_72 (rd_M_choices K N2 o) ?_
      refine G_aload_n 0 d_M_has_200 rfl ?_
      refine G_gt d_M_has_201 fr_M_136 (rd_M_splits K N2 o) ?_
      rw [h72]
      refine G_iconst (v := 1) d_M_has_204 (by decide) ?_
      refine G_isub d_M_has_205 ?_
      rw [nI_pred]
      refine G_ialN d_M_has_206 (ar_58 K N2 o) (by decide) (by omega) ?_
      rw [(hk2 n (by omega)).2.2, g58]
      refine G_icne 223 d_M_has_207 (by decide) (fun h207 => ?_) (fun h207 => ?_)
      · have h207 := (nI_ne (by omega) (by omega)).mp h207
        refine G_aload_n 0 d_M_has_223 rfl ?_
        refine G_gt d_M_has_224 fr_M_136 (rd_M_splits K N2 o) ?_
        rw [h72]
        refine G_ifne 232 d_M_has_227 (by decide) (fun h227 => ?_) (fun h227 => False.elim (nI_ne0 (n := n + 1) (by omega) (by omega) h227))
        refine G_aload_n 0 d_M_has_232 rfl ?_
        refine G_gt d_M_has_233 fr_M_69 (rd_M_choice K N2 o) ?_
        refine G_aload_n 0 d_M_has_236 rfl ?_
        refine G_gt d_M_has_237 fr_M_136 (rd_M_splits K N2 o) ?_
        rw [h72]
        refine G_iconst (v := 1) d_M_has_240 (by decide) ?_
        refine G_isub d_M_has_241 ?_
        rw [nI_pred]
        refine G_dup2 d_M_has_242 rfl rfl ?_
        refine G_ialN d_M_has_243 (ar_57 K N2 o) (by decide) (by omega) ?_
        rw [(hk2 n (by omega)).2.1, g57]
        refine G_iconst (v := 1) d_M_has_244 (by decide) ?_
        refine G_iadd d_M_has_245 ?_
        rw [nI_1]
        refine G_iasN d_M_has_246 (ar_57 K N2 o) (by decide) (by omega) (aw_57 K N2 o n (nI (j + 1))) ?_
        refine G_goto 100 d_M_has_247 (by decide) ?_
        exact ih (j + 1) (ma N2 57 n (nI (j + 1))) (by omega) (by omega) ((co_ma (by omega)).trans hc2) h72 (fun i hi => ⟨((hk2 i (by omega)).1).trans (hk i hi).1, (ma_old (by omega)).trans (((hk2 i (by omega)).2.1).trans (hk i hi).2.1), ((hk2 i (by omega)).2.2).trans (hk i hi).2.2⟩) (((hk2 n (by omega)).1).trans g56) pk_us (((hk2 n (by omega)).2.2).trans g58) (fun c hc3 => (Nat.lt_succ_iff_lt_or_eq.mp hc3).elim (hall c) (fun z => by subst z; exact hns))
      · have h207 : j + 1 = oN M m t := (nI_eq (by omega) (by omega)).mp h207
        refine G_aload_n 0 d_M_has_210 rfl ?_
        refine G_dup d_M_has_211 rfl ?_
        refine G_gt d_M_has_212 fr_M_136 (rd_M_splits K N2 o) ?_
        rw [h72]
        refine G_iconst (v := 1) d_M_has_215 (by decide) ?_
        refine G_isub d_M_has_216 ?_
        rw [nI_pred]
        refine G_pt d_M_has_217 fp_M_136 (wr_M_splits K N2 o (nI n)) ?_
        refine G_goto 176 d_M_has_220 (by decide) ?_
        exact kk (mi N2 7 (nI n)) ((co_mi (by omega)).trans hc2) rfl (fun i hi => ⟨((hk2 i (by omega)).1).trans (hk i hi).1, ((hk2 i (by omega)).2.1).trans (hk i hi).2.1, ((hk2 i (by omega)).2.2).trans (hk i hi).2.2⟩) (no_split hC hP hL (msL_ok hP hQ) hG hXW hX1 hX2 (fun c hc3 => (Nat.lt_succ_iff_lt_or_eq.mp (show c < j + 1 by omega)).elim (hall c) (fun z => by subst z; exact hns)))
set_option maxHeartbeats 600000 in
set_option maxRecDepth 100000 in
theorem l_M_dfs {K : KC} {M : MC} {o : Nat → Int64} {nc ns : Nat} {d : Nat} {s0 a b m : Nat} (hE : EV M s0 a b m) {post : mj_O → mj_H → Prop} : ∀ (w n : Nat) (N : MC), n + w ≤ 121 → mu (PL M) (preX N m s0 n).2 < w → coM N = coM M → N.1 7 = nI n → okPre N m s0 n →
    (∀ N', coM N' = coM M → Sat M s0 (msL M) (nvL M) (preX N m s0 n).2 → post (.inl (some (.int 1))) (hp K N' o, nc, ns)) → (∀ N', coM N' = coM M → N'.1 7 = nI n → kp N' N n → ¬ Sat M s0 (msL M) (nvL M) (preX N m s0 n).2 → mj_G y_M_has b_M_has 3 (some .boolean) [] (d + 14) none 176 [(0, .ref 38), (1, .int (nI s0))] [] (hp K N' o, nc, ns) post) → mj_G y_M_has b_M_has 3 (some .boolean) [] (d + 14) none 100 [(0, .ref 38), (1, .int (nI s0))] [] (hp K N o, nc, ns) post := by
  obtain ⟨hS, hC, hP, hQ, hL, hl, hm, hm2, hG⟩ := id hE
  intro w
  induction w with
  | zero => intro n N hb hmu; omega
  | succ w ih =>
    intro n N hb hmu hc h7 hok k1 kk
    obtain ⟨xw, xl⟩ := preX_ok (co_P wfC co_wfC hc hC) (co_P livesOk co_liv hc hL) (co_P (fun N => LV N s0) (fun N => rfl) hc hl) n hok
    refine G_aload_n 0 d_M_has_100 rfl ?_
    refine G_iload_n 1 d_M_has_101 rfl ?_
    refine G_cvp (fun a9 A9 => (a9 = some (.int (nI 0)) ∧ ∃ N' : MC, A9 = (hp K N' o, nc, ns) ∧ coM N' = coM M ∧ N'.1 7 = nI n ∧ kp N' N n ∧ ¬ Sat M s0 (msL M) (nvL M) (preX N m s0 n).2) ∨ (a9 = some (.int (nI 1)) ∧ ∃ N' : MC, A9 = (hp K N' o, nc, ns) ∧ coM N' = coM M ∧ Sat M s0 (msL M) (nvL M) (preX N m s0 n).2) ∨ (a9 = some (.int (nI 2)) ∧ ∃ (N' : MC) (h : Nat) (r : List Nat) (t : Nat), A9 = (hp K N' o, nc, ns) ∧ coM N' = coM M ∧ N'.1 7 = nI n ∧ kp N' N n ∧ N'.1 8 = nI h ∧ N'.2 52 h = nI t ∧ h < 270 ∧ t < 12 ∧ (preX N m s0 n).1[h]? = some (r, t) ∧ (preX N m s0 n).2 r = none ∧ r ∈ PL M)) (As := [.int (nI s0)]) d_M_has_102 cv_M_156 cw_M_look (ob_M K N o) np_M_look (Nat.le_of_ble_eq_true rfl) (Nat.le_of_ble_eq_true rfl) (fun post2 kq => c_look2 hE hc h7 (by omega) hok (fun N' q1 q2 q3 q4 => kq _ _ (Or.inl ⟨rfl, N', rfl, q1, q2, q3, q4⟩)) (fun N' q1 q2 => kq _ _ (Or.inr (Or.inl ⟨rfl, N', rfl, q1, q2⟩))) (fun N' h r t q1 q2 q3 q4 q5 q6 q7 q8 q9 q10 => kq _ _ (Or.inr (Or.inr ⟨rfl, N', h, r, t, rfl, q1, q2, q3, q4, q5, q6, q7, q8, q9, q10⟩)))) (fun a9 A9 h9 => by rcases h9 with ⟨-, N', rfl, -⟩ | ⟨-, N', rfl, -⟩ | ⟨-, N', h, r, t, rfl, -⟩ <;> rfl) (fun a9 A9 h9 => ?_)
    rcases h9 with ⟨rfl, N', rfl, hc1, h71, hk1, hns⟩ | ⟨rfl, N', rfl, hc1, hs⟩ | ⟨rfl, N', h, r, t, rfl, hc1, h71, hk1, h8, h52, h270, t12, hX1, hX2, hrP⟩
    · refine G_istore_n (ls' := [(2, .int (nI 0)), (0, .ref 38), (1, .int (nI s0))]) d_M_has_105 (by decide) rfl ?_
      refine G_iload_n 0 d_M_has_106 rfl ?_
      refine G_iconst (v := 1) d_M_has_107 (by decide) ?_
      refine G_icne 113 d_M_has_108 (by decide) (fun _ => ?_) (fun h => absurd h (by decide))
      refine G_iload_n 0 d_M_has_113 rfl ?_
      refine G_iconst (v := 2) d_M_has_114 (by decide) ?_
      refine G_icne 176 d_M_has_115 (by decide) (fun _ => ?_) (fun h => absurd h (by decide))
      exact G_sub [1, 2] rfl (kk N' hc1 h71 hk1 hns)
    · refine G_istore_n (ls' := [(2, .int (nI 1)), (0, .ref 38), (1, .int (nI s0))]) d_M_has_105 (by decide) rfl ?_
      refine G_iload_n 0 d_M_has_106 rfl ?_
      refine G_iconst (v := 1) d_M_has_107 (by decide) ?_
      refine G_icne 113 d_M_has_108 (by decide) (fun h => absurd h (by decide)) (fun _ => ?_)
      refine G_iconst (v := 1) d_M_has_111 (by decide) ?_
      exact G_zret d_M_has_112 rfl rfl (k1 N' hc1 hs)
    · have hmu1 := (mu_up (a := 0) hX2 (PL M)).2 hrP
      have wS := co_P wfS co_wfS hc1 hS
      have wC := co_P wfC co_wfC hc1 hC
      have hoE : oN N' m t = oN M m t := co_of (fun Q => oN Q m t) (fun _ => rfl) hc1
      have em : N'.1 11 = nI m := (co_of (fun N => N.1 11) (fun _ => rfl) hc1).trans hm
      refine G_istore_n (ls' := [(2, .int (nI 2)), (0, .ref 38), (1, .int (nI s0))]) d_M_has_105 (by decide) rfl ?_
      refine G_iload_n 0 d_M_has_106 rfl ?_
      refine G_iconst (v := 1) d_M_has_107 (by decide) ?_
      refine G_icne 113 d_M_has_108 (by decide) (fun _ => ?_) (fun h => absurd h (by decide))
      refine G_iload_n 0 d_M_has_113 rfl ?_
      refine G_iconst (v := 2) d_M_has_114 (by decide) ?_
      refine G_icne 176 d_M_has_115 (by decide) (fun h => absurd h (by decide)) (fun _ => ?_)
      refine G_aload_n 1 d_M_has_118 rfl ?_
      refine G_gt d_M_has_119 fr_M_66 (rd_M_holes K (N') o) ?_
      refine G_aload_n 1 d_M_has_122 rfl ?_
      refine G_gt d_M_has_123 fr_M_136 (rd_M_splits K (N') o) ?_
      rw [show (N').1 7 = nI n from h71]
      refine G_aload_n 1 d_M_has_126 rfl ?_
      refine G_gt d_M_has_127 fr_M_129 (rd_M_hole K (N') o) ?_
      rw [show (N').1 8 = nI h from h8]
      refine G_iasN d_M_has_130 (ar_56 K (N') o) (by decide) (by omega) (aw_56 K (N') o n (nI h)) ?_
      refine G_aload_n 1 d_M_has_131 rfl ?_
      refine G_gt d_M_has_132 fr_M_69 (rd_M_choice K (ma (N') 56 n (nI h)) o) ?_
      refine G_aload_n 1 d_M_has_135 rfl ?_
      refine G_gt d_M_has_136 fr_M_136 (rd_M_splits K (ma (N') 56 n (nI h)) o) ?_
      rw [show (ma (N') 56 n (nI h)).1 7 = nI n from h71]
      refine G_iconst (v := nI 0) d_M_has_139 (by decide) ?_
      refine G_iasN d_M_has_140 (ar_57 K (ma (N') 56 n (nI h)) o) (by decide) (by omega) (aw_57 K (ma (N') 56 n (nI h)) o n (nI 0)) ?_
      refine G_aload_n 1 d_M_has_141 rfl ?_
      refine G_gt d_M_has_142 fr_M_72 (rd_M_choices K (ma (ma (N') 56 n (nI h)) 57 n (nI 0)) o) ?_
      refine G_aload_n 1 d_M_has_145 rfl ?_
      refine G_gt d_M_has_146 fr_M_136 (rd_M_splits K (ma (ma (N') 56 n (nI h)) 57 n (nI 0)) o) ?_
      rw [show (ma (ma (N') 56 n (nI h)) 57 n (nI 0)).1 7 = nI n from h71]
      refine G_aload_n 1 d_M_has_149 rfl ?_
      refine G_aload_n 1 d_M_has_150 rfl ?_
      refine G_gt d_M_has_151 fr_M_54 (rd_M_nodeSort K (ma (ma (N') 56 n (nI h)) 57 n (nI 0)) o) ?_
      refine G_aload_n 1 d_M_has_154 rfl ?_
      refine G_gt d_M_has_155 fr_M_129 (rd_M_hole K (ma (ma (N') 56 n (nI h)) 57 n (nI 0)) o) ?_
      rw [show (ma (ma (N') 56 n (nI h)) 57 n (nI 0)).1 8 = nI h from h8]
      refine G_ialN d_M_has_158 (ar_52 K (ma (ma (N') 56 n (nI h)) 57 n (nI 0)) o) (by decide) (by omega) ?_
      rw [show (ma (ma (N') 56 n (nI h)) 57 n (nI 0)).2 52 h = nI t from h52]
      refine G_cv1 (some (.int (nI (oN M m t)))) (hp K (ma (ma (N') 56 n (nI h)) 57 n (nI 0)) o, nc, ns) (As := [.int (nI t)]) d_M_has_159 cv_M_159 cw_M_options (ob_M K (ma (ma (N') 56 n (nI h)) 57 n (nI 0)) o) np_M_options (Nat.le_of_ble_eq_true rfl) (Nat.le_of_ble_eq_true rfl) (fun post2 k2 => c_opt2 hE (t := t) ((co_ma (by omega)).trans ((co_ma (by omega)).trans hc1)) t12 k2) rfl ?_
      refine G_iasN d_M_has_162 (ar_58 K (ma (ma (N') 56 n (nI h)) 57 n (nI 0)) o) (by decide) (by omega) (aw_58 K (ma (ma (N') 56 n (nI h)) 57 n (nI 0)) o n (nI (oN M m t))) ?_
      refine G_aload_n 1 d_M_has_163 rfl ?_
      refine G_dup d_M_has_164 rfl ?_
      refine G_gt d_M_has_165 fr_M_136 (rd_M_splits K (ma (ma (ma (N') 56 n (nI h)) 57 n (nI 0)) 58 n (nI (oN M m t))) o) ?_
      rw [show (ma (ma (ma (N') 56 n (nI h)) 57 n (nI 0)) 58 n (nI (oN M m t))).1 7 = nI n from h71]
      refine G_iconst (v := 1) d_M_has_168 (by decide) ?_
      refine G_iadd d_M_has_169 ?_
      rw [nI_1]
      refine G_pt d_M_has_170 fp_M_136 (wr_M_splits K (ma (ma (ma (N') 56 n (nI h)) 57 n (nI 0)) 58 n (nI (oN M m t))) o (nI (n + 1))) ?_
      refine G_goto 100 d_M_has_173 (by decide) ?_
      have hlv : LV M t := by
        have := (xw.2.2.1 h r t hX1).2
        rw [co_of LV co_LV hc] at this; exact this
      have hXM : XW M s0 (preX N m s0 n) := co_P (fun Q => XW Q s0 (preX N m s0 n)) (fun Q => by show XW (coM Q) s0 _ = XW Q s0 _; unfold XW; rw [co_srt, co_LV, co_wfT]) hc.symm xw
      have ho : oN M m t ≤ 131 := by
        unfold oN; split
        · omega
        · have := optL_len M t (mC M); have := hC.2.1; omega
      refine G_sub [1, 2] rfl (l_M_hasJ (N0 := N) hE (by omega) hXM hX1 hX2 (by omega) (fun N1 j j1 j2 j3 j4 j5 j6 p1 pk => ?_) k1 kk (oN M m t + 1) 0 (mi (ma (ma (ma (N') 56 n (nI h)) 57 n (nI 0)) 58 n (nI (oN M m t))) 7 (nI (n + 1))) (oN_pos hC hL hlv) (by omega) ((co_mi (by omega)).trans ((co_ma (by omega)).trans ((co_ma (by omega)).trans ((co_ma (by omega)).trans hc1)))) rfl (fun i hi => ?_) (by simp [ma, mi, va_up, upd]) (by simp [ma, mi, va_up, upd]) (by simp [ma, mi, va_up, upd]) (fun c hc => absurd hc (Nat.not_lt_zero c)))
      · have hcc := j2.trans hc.symm
        have e1 := preX_kp (m := m) (s0 := s0) hcc n j4
        have e2 : preX N1 m s0 (n + 1) = stepX M m (preX N m s0 n) h j := by
          show stepX N1 m (preX N1 m s0 n) (hN N1 n) (jN N1 n) = _
          unfold hN jN
          rw [e1, j5, j6, nI_clamp (by omega), nI_clamp (by omega), co_of stepX co_stepX j2]
        obtain ⟨a9, e3⟩ := stepX_u (m := m) (M := M) hX1 j1
        have hmu := (mu_up (a := a9) hX2 (PL M)).2 hrP
        refine ih (n + 1) N1 (by omega) (by rw [e2, e3]; omega) j2 j3 (okPre_s (okPre_kp hcc j4 hok) (by rw [e1]; exact hX1) (by rw [e1]; exact hX2) j5 j6 (by omega) (by omega) ?_) (by rw [e2]; exact p1) (by rw [e2]; exact pk)
        rw [co_of (fun Q => oN Q m t) (fun _ => rfl) j2]; exact j1
      · have hne : i ≠ n := by omega
        have q : ∀ b, (mi (ma (ma (ma (N') 56 n (nI h)) 57 n (nI 0)) 58 n (nI (oN M m t))) 7 (nI (n + 1))).2 b i = N'.2 b i := fun b => by
          show (ma (ma (ma N' 56 n (nI h)) 57 n (nI 0)) 58 n (nI (oN M m t))).2 b i = _
          rw [ma_old hne, ma_old hne, ma_old hne]
        exact ⟨(q 56).trans (hk1 i hi).1, (q 57).trans (hk1 i hi).2.1, (q 58).trans (hk1 i hi).2.2⟩
end
section
/-! has, as a whole; what it leaves as it was -/
def coH (M : MC) : MC := (fun k => if k = 6 ∨ k = 7 ∨ k = 8 ∨ k = 11 then 0 else M.1 k, fun a => if (50 ≤ a ∧ a ≤ 59) ∨ a = 62 then (fun _ => 0) else M.2 a)
theorem cH_of {α : Type} (f : MC → α) (hf : ∀ N, f (coH N) = f N) {N M : MC} (h : coH N = coH M) : f N = f M := by rw [← hf N, h, hf M]
theorem cH_P (f : MC → Prop) (hf : ∀ N, f (coH N) = f N) {N M : MC} (h : coH N = coH M) (hM : f M) : f N := (cH_of f hf h).mpr hM
theorem coH_coM (N : MC) : coH (coM N) = coH N := by
  unfold coH coM
  refine Prod.ext (funext fun k => ?_) (funext fun a => ?_)
  · show (if k = 6 ∨ k = 7 ∨ k = 8 ∨ k = 11 then 0 else (if k = 6 ∨ k = 7 ∨ k = 8 then 0 else N.1 k)) = (if k = 6 ∨ k = 7 ∨ k = 8 ∨ k = 11 then 0 else N.1 k)
    by_cases e : k = 6 ∨ k = 7 ∨ k = 8 ∨ k = 11
    · rw [if_pos e, if_pos e]
    · rw [if_neg e, if_neg e, if_neg (by omega)]
  · show (if (50 ≤ a ∧ a ≤ 59) ∨ a = 62 then (fun _ => 0) else (if 51 ≤ a ∧ a ≤ 58 then (fun _ => 0) else N.2 a)) = (if (50 ≤ a ∧ a ≤ 59) ∨ a = 62 then (fun _ => 0) else N.2 a)
    by_cases e : (50 ≤ a ∧ a ≤ 59) ∨ a = 62
    · rw [if_pos e, if_pos e]
    · rw [if_neg e, if_neg e, if_neg (by omega)]
theorem cH_co {N M : MC} (h : coM N = coM M) : coH N = coH M := co_of coH coH_coM h
theorem cH_mi {M : MC} {k : Nat} {v : Int32} (h : k = 6 ∨ k = 7 ∨ k = 8 ∨ k = 11) : coH (mi M k v) = coH M := by
  unfold coH
  refine Prod.ext (funext fun j => ?_) rfl
  show (if j = 6 ∨ j = 7 ∨ j = 8 ∨ j = 11 then 0 else upd M.1 k v j) = (if j = 6 ∨ j = 7 ∨ j = 8 ∨ j = 11 then 0 else M.1 j)
  by_cases e : j = 6 ∨ j = 7 ∨ j = 8 ∨ j = 11
  · rw [if_pos e, if_pos e]
  · rw [if_neg e, if_neg e]; exact pk_un (by omega)
theorem cH_up {M : MC} {a : Nat} {f : Nat → Int32} (h : (50 ≤ a ∧ a ≤ 59) ∨ a = 62) : coH (M.1, va_up M.2 a f) = coH M := by
  unfold coH
  refine Prod.ext rfl (funext fun b => ?_)
  show (if (50 ≤ b ∧ b ≤ 59) ∨ b = 62 then (fun _ => 0) else va_up M.2 a f b) = (if (50 ≤ b ∧ b ≤ 59) ∨ b = 62 then (fun _ => 0) else M.2 b)
  by_cases e : (50 ≤ b ∧ b ≤ 59) ∨ b = 62
  · rw [if_pos e, if_pos e]
  · rw [if_neg e, if_neg e]; exact va_up_ne _ _ (by omega)
theorem cH_setL {M : MC} {L : Nat → Int32} : coH (setL M L) = coH M := cH_up (Or.inl (by omega))
theorem cH_setG {M : MC} {I S : Nat → Int32} {m : Nat} : coH (setG M I m S) = coH M :=
  (cH_up (M := (upd M.1 11 (nI m), va_up M.2 62 I)) (Or.inl (by omega))).trans ((cH_up (M := (upd M.1 11 (nI m), M.2)) (Or.inr rfl)).trans (cH_mi (by omega)))
theorem cH_askL (N : MC) : askL (coH N) = askL N := by
  funext f
  induction f with
  | zero => rfl
  | succ f ih =>
    funext p r
    show (if pk N p = 0 then [] else if pk N p = 1 then [(r, (N.2 45 p).toInt)] else (r, lab (pn N p)) :: ((if 1 ≤ cP N (pn N p) then askL (coH N) f (pf N p) (0 :: r) else []) ++ (if 2 ≤ cP N (pn N p) then askL (coH N) f (pg N p) (1 :: r) else []))) = _
    rw [ih]; rfl
theorem cH_fitT (N : MC) : fitT (coH N) = fitT N := by
  funext t p
  show (∀ x ∈ askL (coH N) 13 p [], _) = _
  rw [cH_askL]; rfl
theorem cH_misT (N : MC) : misT (coH N) = misT N := by
  funext t p
  show (∃ x ∈ askL (coH N) 13 p [], _) = _
  rw [cH_askL]; rfl
theorem cH_srt (N : MC) : srt (coH N) = srt N := by
  funext s t r
  cases r with
  | nil => rfl
  | cons k r => rfl
theorem cH_wfT (N : MC) : wfT (coH N) = wfT N := by
  funext s t
  show (∀ r a, t r = some a → ∃ s2, srt (coH N) s t r = some s2 ∧ okA N s2 a) = _
  rw [cH_srt]; rfl
theorem cH_Sat (N : MC) : Sat (coH N) = Sat N := by
  funext s0 ms nv u
  show (∃ t, extT u t ∧ wfT (coH N) s0 t ∧ (∀ p ∈ ms, fitT (coH N) t p) ∧ ∀ p ∈ nv, misT (coH N) t p) = _
  rw [cH_wfT, cH_fitT, cH_misT]; rfl
def HAS (M : MC) (s0 : Nat) : Prop := LV M s0 ∧ Sat M s0 (msL M) (nvL M) (fun _ => none)
theorem setG_self (M : MC) : mi M 11 0 = setG M (M.2 62) 0 (M.2 59) := by
  have e : va_up (va_up M.2 62 (M.2 62)) 59 (M.2 59) = M.2 := funext fun a => by
    by_cases h : a = 59
    · rw [h, va_up_self]
    · rw [va_up_ne _ _ h]
      by_cases h2 : a = 62
      · rw [h2, va_up_self]
      · rw [va_up_ne _ _ h2]
  unfold setG
  rw [e]; rfl
set_option maxHeartbeats 600000 in
set_option maxRecDepth 100000 in
theorem l_M_has1 {K : KC} {o : Nat → Int64} {nc ns : Nat} {d s0 : Nat} {B : MC} (hC : wfC B) (I : Nat → Int32) {post : mj_O → mj_H → Prop} (k : ∀ (S : Nat → Int32) (i : Nat), mj_G y_M_has b_M_has 3 (some .boolean) [] (d + 14) none 43 [(2, .int (nI i)), (0, .ref 38), (1, .int (nI s0))] [] (hp K (setG B I 0 S) o, nc, ns) post) : ∀ (q i : Nat) (S : Nat → Int32), i ≤ mC B → mC B < i + q → mj_G y_M_has b_M_has 3 (some .boolean) [] (d + 14) none 22 [(2, .int (nI i)), (0, .ref 38), (1, .int (nI s0))] [] (hp K (setG B I 0 S) o, nc, ns) post := by
  have hc30 := hC.2.1
  intro q
  induction q with
  | zero => intro i S h1 h2; omega
  | succ q ih =>
    intro i S h1 h2
    refine G_iload_n 0 d_M_has_22 rfl ?_
    refine G_aload_n 1 d_M_has_23 rfl ?_
    refine G_gt d_M_has_24 fr_M_97 (rd_M_cons K (setG B I 0 S) o) ?_
    rw [show (setG B I 0 S).1 2 = nI (mC B) from hC.1]
    refine G_icge 43 d_M_has_27 (by decide) (fun h27 => ?_) (fun h27 => ?_)
    · have h27 := (nI_leI (by omega) (by omega)).mp h27
      exact k S _
    · have h27 : ¬ _ := fun z => h27 ((nI_leI (by omega) (by omega)).mpr z)
      refine G_aload_n 1 d_M_has_30 rfl ?_
      refine G_gt d_M_has_31 fr_M_75 (rd_M_stands K (setG B I 0 S) o) ?_
      refine G_iload_n 0 d_M_has_34 rfl ?_
      refine G_iconst (v := 0) d_M_has_35 (by decide) ?_
      refine G_zasN d_M_has_36 (ar_59 K (setG B I 0 S) o) (by decide) (by omega) rfl (aw_59 K (setG B I 0 S) o i 0) ?_
      rw [setG_59]
      refine G_iinc 0 (v := nI (i + 1)) (ls' := [(2, .int (nI (i + 1))), (0, .ref 38), (1, .int (nI s0))]) d_M_has_37 rfl (nI_1 _) (by decide) rfl ?_
      refine G_goto 22 d_M_has_40 (by decide) ?_
      exact ih (i + 1) _ (by omega) (by omega)
set_option maxHeartbeats 600000 in
set_option maxRecDepth 100000 in
theorem l_M_has3 {K : KC} {o : Nat → Int64} {nc ns : Nat} {d s0 a b : Nat} {B : MC} (hS : wfS B) (hC : wfC B) (hP : wfP B) (hQ : wfQ B s0 a b) {post : mj_O → mj_H → Prop} (k : ∀ (I : Nat → Int32) (m : Nat) (S : Nat → Int32), m ≤ 120 → (∀ c, c < a → ∀ x ∈ labL B 13 ((B.2 60 c).toNatClampNeg), hasL B I m S x) → (∀ c, c < b → ∀ x ∈ labL B 13 ((B.2 61 c).toNatClampNeg), hasL B I m S x) → mj_G y_M_has b_M_has 3 (some .boolean) [] (d + 14) none 100 [(0, .ref 38), (1, .int (nI s0))] [] (hp K (mi (setG B I m S) 7 (nI 0)) o, nc, ns) post) : ∀ (q i : Nat) (I : Nat → Int32) (m : Nat) (S : Nat → Int32), i ≤ b → b < i + q → m ≤ 24 + 12 * i → (∀ c, c < a → ∀ x ∈ labL B 13 ((B.2 60 c).toNatClampNeg), hasL B I m S x) → (∀ c, c < i → ∀ x ∈ labL B 13 ((B.2 61 c).toNatClampNeg), hasL B I m S x) → mj_G y_M_has b_M_has 3 (some .boolean) [] (d + 14) none 71 [(2, .int (nI i)), (0, .ref 38), (1, .int (nI s0))] [] (hp K (setG B I m S) o, nc, ns) post := by
  obtain ⟨ew9, ewa, ew10, ewb, hms, hnv⟩ := id hQ
  intro q
  induction q with
  | zero => intro i I m S h1 h2; omega
  | succ q ih =>
    intro i I m S h1 h2 h3 hh0 hh
    refine G_iload_n 0 d_M_has_71 rfl ?_
    refine G_aload_n 1 d_M_has_72 rfl ?_
    refine G_gt d_M_has_73 fr_M_146 (rd_M_nevers K (setG B I m S) o) ?_
    rw [show (setG B I m S).1 10 = nI b from ew10]
    refine G_icge 95 d_M_has_76 (by decide) (fun h76 => ?_) (fun h76 => ?_)
    · have h76 := (nI_leI (by omega) (by omega)).mp h76
      refine G_aload_n 1 d_M_has_95 rfl ?_
      refine G_iconst (v := nI 0) d_M_has_96 (by decide) ?_
      refine G_pt d_M_has_97 fp_M_136 (wr_M_splits K (setG B I m S) o (nI 0)) ?_
      exact G_sub [1, 2] rfl (k I m S (by omega) hh0 (fun c hc => hh c (by omega)))
    · have h76 : ¬ _ := fun z => h76 ((nI_leI (by omega) (by omega)).mpr z)
      have hi : i < b := by omega
      obtain ⟨p, e61, hpp, hps⟩ := hnv i hi
      have hp12 := (hP.2.2 p hpp).2.2.1.2
      have hpe : p = (B.2 61 i).toNatClampNeg := by rw [e61, nI_clamp (by have := hP.2.1; omega)]
      refine G_aload_n 1 d_M_has_79 rfl ?_
      refine G_aload_n 1 d_M_has_80 rfl ?_
      refine G_gt d_M_has_81 fr_M_81 (rd_M_never K (setG B I m S) o) ?_
      refine G_iload_n 0 d_M_has_84 rfl ?_
      refine G_ialN d_M_has_85 (ar_61 K (setG B I m S) o) (by decide) (by omega) ?_
      rw [show (setG B I m S).2 61 i = nI p from e61]
      refine G_cvp (fun a9 A9 => a9 = none ∧ ∃ (I2 : Nat → Int32) (m2 : Nat) (S2 : Nat → Int32), gth B 13 p I m S I2 m2 S2 ∧ A9 = (hp K (setG B I2 m2 S2) o, nc, ns)) (As := [.int (nI p)]) d_M_has_86 cv_M_149 cw_M_gather (ob_M K _ o) np_M_gather (Nat.le_of_ble_eq_true rfl) (Nat.le_of_ble_eq_true rfl) (fun post2 kk => c_M_gather hS hC hP 13 p (d + 13) I m S hpp (by omega) (by omega) (by omega) (fun I2 m2 S2 hg => kk _ _ ⟨rfl, I2, m2, S2, hg, rfl⟩)) (fun a9 A9 h9 => by obtain ⟨-, I2, m2, S2, -, rfl⟩ := h9; rfl) (fun a9 A9 h9 => ?_)
      obtain ⟨rfl, I2, m2, S2, ⟨g1, g2, g3, g4, g5⟩, rfl⟩ := h9
      refine G_iinc 0 (v := nI (i + 1)) (ls' := [(2, .int (nI (i + 1))), (0, .ref 38), (1, .int (nI s0))]) d_M_has_89 rfl (nI_1 _) (by decide) rfl ?_
      refine G_goto 71 d_M_has_92 (by decide) ?_
      exact ih (i + 1) I2 m2 S2 (by omega) (by omega) (by omega) (fun c hc x hx => hasL_mono (hh0 c hc x hx) g1 g3 g4) (fun c hc x hx => (Nat.lt_succ_iff_lt_or_eq.mp hc).elim (fun z => hasL_mono (hh c z x hx) g1 g3 g4) (fun z => by subst z; rw [← hpe] at hx; exact g5 x hx))
set_option maxHeartbeats 600000 in
set_option maxRecDepth 100000 in
theorem l_M_has2 {K : KC} {o : Nat → Int64} {nc ns : Nat} {d s0 a b : Nat} {B : MC} (hS : wfS B) (hC : wfC B) (hP : wfP B) (hQ : wfQ B s0 a b) {post : mj_O → mj_H → Prop} (k : ∀ (I : Nat → Int32) (m : Nat) (S : Nat → Int32), m ≤ 120 → (∀ c, c < a → ∀ x ∈ labL B 13 ((B.2 60 c).toNatClampNeg), hasL B I m S x) → (∀ c, c < b → ∀ x ∈ labL B 13 ((B.2 61 c).toNatClampNeg), hasL B I m S x) → mj_G y_M_has b_M_has 3 (some .boolean) [] (d + 14) none 100 [(0, .ref 38), (1, .int (nI s0))] [] (hp K (mi (setG B I m S) 7 (nI 0)) o, nc, ns) post) : ∀ (q i : Nat) (I : Nat → Int32) (m : Nat) (S : Nat → Int32), i ≤ a → a < i + q → m ≤ 12 * i → (∀ c, c < i → ∀ x ∈ labL B 13 ((B.2 60 c).toNatClampNeg), hasL B I m S x) → mj_G y_M_has b_M_has 3 (some .boolean) [] (d + 14) none 45 [(2, .int (nI i)), (0, .ref 38), (1, .int (nI s0))] [] (hp K (setG B I m S) o, nc, ns) post := by
  obtain ⟨ew9, ewa, ew10, ewb, hms, hnv⟩ := id hQ
  intro q
  induction q with
  | zero => intro i I m S h1 h2; omega
  | succ q ih =>
    intro i I m S h1 h2 h3 hh
    refine G_iload_n 0 d_M_has_45 rfl ?_
    refine G_aload_n 1 d_M_has_46 rfl ?_
    refine G_gt d_M_has_47 fr_M_143 (rd_M_musts K (setG B I m S) o) ?_
    rw [show (setG B I m S).1 9 = nI a from ew9]
    refine G_icge 69 d_M_has_50 (by decide) (fun h50 => ?_) (fun h50 => ?_)
    · have h50 := (nI_leI (by omega) (by omega)).mp h50
      refine G_iconst (v := nI 0) d_M_has_69 (by decide) ?_
      refine G_istore_n (ls' := [(2, .int (nI 0)), (0, .ref 38), (1, .int (nI s0))]) d_M_has_70 (by decide) rfl ?_
      exact G_sub [0, 1, 2] rfl (l_M_has3 hS hC hP hQ k (b + 1) 0 I m S (by omega) (by omega) (by omega) (fun c hc => hh c (by omega)) (fun c hc => absurd hc (Nat.not_lt_zero c)))
    · have h50 : ¬ _ := fun z => h50 ((nI_leI (by omega) (by omega)).mpr z)
      have hi : i < a := by omega
      obtain ⟨p, e60, hpp, hps⟩ := hms i hi
      have hp12 := (hP.2.2 p hpp).2.2.1.2
      have hpe : p = (B.2 60 i).toNatClampNeg := by rw [e60, nI_clamp (by have := hP.2.1; omega)]
      refine G_aload_n 1 d_M_has_53 rfl ?_
      refine G_aload_n 1 d_M_has_54 rfl ?_
      refine G_gt d_M_has_55 fr_M_78 (rd_M_must K (setG B I m S) o) ?_
      refine G_iload_n 0 d_M_has_58 rfl ?_
      refine G_ialN d_M_has_59 (ar_60 K (setG B I m S) o) (by decide) (by omega) ?_
      rw [show (setG B I m S).2 60 i = nI p from e60]
      refine G_cvp (fun a9 A9 => a9 = none ∧ ∃ (I2 : Nat → Int32) (m2 : Nat) (S2 : Nat → Int32), gth B 13 p I m S I2 m2 S2 ∧ A9 = (hp K (setG B I2 m2 S2) o, nc, ns)) (As := [.int (nI p)]) d_M_has_60 cv_M_149 cw_M_gather (ob_M K _ o) np_M_gather (Nat.le_of_ble_eq_true rfl) (Nat.le_of_ble_eq_true rfl) (fun post2 kk => c_M_gather hS hC hP 13 p (d + 13) I m S hpp (by omega) (by omega) (by omega) (fun I2 m2 S2 hg => kk _ _ ⟨rfl, I2, m2, S2, hg, rfl⟩)) (fun a9 A9 h9 => by obtain ⟨-, I2, m2, S2, -, rfl⟩ := h9; rfl) (fun a9 A9 h9 => ?_)
      obtain ⟨rfl, I2, m2, S2, ⟨g1, g2, g3, g4, g5⟩, rfl⟩ := h9
      refine G_iinc 0 (v := nI (i + 1)) (ls' := [(2, .int (nI (i + 1))), (0, .ref 38), (1, .int (nI s0))]) d_M_has_63 rfl (nI_1 _) (by decide) rfl ?_
      refine G_goto 45 d_M_has_66 (by decide) ?_
      exact ih (i + 1) I2 m2 S2 (by omega) (by omega) (by omega) (fun c hc x hx => (Nat.lt_succ_iff_lt_or_eq.mp hc).elim (fun z => hasL_mono (hh c z x hx) g1 g3 g4) (fun z => by subst z; rw [← hpe] at hx; exact g5 x hx))
set_option maxHeartbeats 600000 in
set_option maxRecDepth 100000 in
theorem l_M_hasE {K : KC} {o : Nat → Int64} {nc ns : Nat} {d s0 : Nat} {N' : MC} (h7 : N'.1 7 = nI 0) {post : mj_O → mj_H → Prop} (k : post (.inl (some (.int 0))) (hp K N' o, nc, ns)) : mj_G y_M_has b_M_has 3 (some .boolean) [] (d + 14) none 176 [(0, .ref 38), (1, .int (nI s0))] [] (hp K N' o, nc, ns) post := by
  refine G_aload_n 0 d_M_has_176 rfl ?_
  refine G_gt d_M_has_177 fr_M_136 (rd_M_splits K (N') o) ?_
  rw [show N'.1 7 = 0 from h7]
  refine G_ifle 223 d_M_has_180 (by decide) (fun _ => ?_) (fun h => absurd h (by decide))
  refine G_aload_n 0 d_M_has_223 rfl ?_
  refine G_gt d_M_has_224 fr_M_136 (rd_M_splits K (N') o) ?_
  rw [show N'.1 7 = 0 from h7]
  refine G_ifne 232 d_M_has_227 (by decide) (fun h => absurd h (by decide)) (fun _ => ?_)
  refine G_iconst (v := 0) d_M_has_230 (by decide) ?_
  exact G_zret d_M_has_231 rfl rfl k
set_option maxHeartbeats 600000 in
set_option maxRecDepth 100000 in
theorem l_M_hasD {K : KC} {M : MC} {o : Nat → Int64} {nc ns : Nat} {d s0 a b m : Nat} {L I S : Nat → Int32} (hS : wfS M) (hC : wfC M) (hP : wfP M) (hQ : wfQ M s0 a b) (hl : LV M s0) (hL : ∀ c, c < mS M → (L c = 1 ∧ LV M c) ∨ (L c = 0 ∧ ¬ LV M c)) (hm : m ≤ 120)
    (h0 : ∀ c, c < a → ∀ x ∈ labL (setL M L) 13 ((M.2 60 c).toNatClampNeg), hasL (setL M L) I m S x) (h1 : ∀ c, c < b → ∀ x ∈ labL (setL M L) 13 ((M.2 61 c).toNatClampNeg), hasL (setL M L) I m S x) {post : mj_O → mj_H → Prop}
    (k1 : ∀ N', coH N' = coH M → HAS M s0 → post (.inl (some (.int 1))) (hp K N' o, nc, ns)) (k0 : ∀ N', coH N' = coH M → ¬ HAS M s0 → post (.inl (some (.int 0))) (hp K N' o, nc, ns)) : mj_G y_M_has b_M_has 3 (some .boolean) [] (d + 14) none 100 [(0, .ref 38), (1, .int (nI s0))] [] (hp K (mi (setG (setL M L) I m S) 7 (nI 0)) o, nc, ns) post := by
  have hc : coH (mi (setG (setL M L) I m S) 7 (nI 0)) = coH M := (cH_mi (by omega)).trans (cH_setG.trans cH_setL)
  generalize hB : mi (setG (setL M L) I m S) 7 (nI 0) = B at hc
  have e7 : B.1 7 = nI 0 := by rw [← hB]; rfl
  have e11 : B.1 11 = nI m := by rw [← hB]; rfl
  have e50 : B.2 50 = L := by rw [← hB]; rfl
  have e59 : B.2 59 = S := by rw [← hB]; rfl
  have e62 : B.2 62 = I := by rw [← hB]; rfl
  have eLV : LV B = LV M := cH_of LV (fun _ => rfl) hc
  have emC : mC B = mC M := cH_of mC (fun _ => rfl) hc
  have emS : mS B = mS M := cH_of mS (fun _ => rfl) hc
  have ems : msL B = msL M := cH_of msL (fun _ => rfl) hc
  have env : nvL B = nvL M := cH_of nvL (fun _ => rfl) hc
  have eSat : Sat B = Sat M := cH_of Sat cH_Sat hc
  have ehl : hasL B = hasL (setL M L) := by
    funext I m S x
    show ((∃ i, i < m ∧ x = (I i).toInt) ∨ (∃ c, c < mC B ∧ x = lab c ∧ S c ≠ 0)) = _
    rw [emC]; rfl
  have eask : askL B = askL (setL M L) := cH_of askL cH_askL (hc.trans cH_setL.symm)
  have hQB : wfQ B s0 a b := cH_P (fun N => wfQ N s0 a b) (fun _ => rfl) hc hQ
  have hE : EV B s0 a b m := by
    refine ⟨cH_P wfS (fun _ => rfl) hc hS, cH_P wfC (fun _ => rfl) hc hC, cH_P wfP (fun _ => rfl) hc hP, hQB, fun c h => ?_, by rw [eLV]; exact hl, e11, by omega, fun p hp x hx => ?_⟩
    · rw [e50, eLV]
      rw [emS] at h
      exact hL c h
    · rw [ehl, e62, e59]
      rw [eask] at hx
      rw [ems, env] at hp
      rcases hp with hp | hp
      · obtain ⟨i, hi, rfl⟩ := (msL_mem hQ).mp hp
        exact h0 i hi _ (askL_lab _ _ _ _ hx)
      · obtain ⟨i, hi, rfl⟩ := (nvL_mem hQ).mp hp
        exact h1 i hi _ (askL_lab _ _ _ _ hx)
  have hmu := mu_le (PL B) (fun _ => none)
  have hpl := PL_len hE.2.2.1 hQB
  refine l_M_dfs hE 121 0 B (by omega) (show mu (PL B) (fun _ => none) < 121 by omega) rfl e7 (fun i hi => absurd hi (Nat.not_lt_zero i)) (fun N' hc' hs => k1 N' ((cH_co hc').trans hc) ?_) (fun N' hc' h7 _ hs => l_M_hasE h7 (k0 N' ((cH_co hc').trans hc) (fun z => hs ?_)))
  · rw [eSat, ems, env] at hs
    exact ⟨hl, hs⟩
  · rw [eSat, ems, env]
    exact z.2
set_option maxHeartbeats 600000 in
set_option maxRecDepth 100000 in
theorem c_M_has {K : KC} {M : MC} {o : Nat → Int64} {nc ns : Nat} {d s0 a b : Nat} (hS : wfS M) (hC : wfC M) (hP : wfP M) (hQ : wfQ M s0 a b) (hs : s0 < mS M) {post : mj_O → mj_H → Prop}
    (k1 : ∀ N', coH N' = coH M → HAS M s0 → post (.inl (some (.int 1))) (hp K N' o, nc, ns)) (k0 : ∀ N', coH N' = coH M → ¬ HAS M s0 → post (.inl (some (.int 0))) (hp K N' o, nc, ns)) : mj_G y_M_has b_M_has 3 (some .boolean) [] (d + 14) none 0 [(0, .ref 38), (1, .int (nI s0))] [] (hp K M o, nc, ns) post := by
  have q12 := hS.2.2
  refine G_aload_n 0 d_M_has_0 rfl ?_
  refine G_cvp (fun a9 A9 => a9 = none ∧ ∃ L : Nat → Int32, (∀ a, a < mS M → (L a = 1 ∧ LV M a) ∨ (L a = 0 ∧ ¬ LV M a)) ∧ A9 = (hp K (setL M L) o, nc, ns)) (As := []) d_M_has_1 cv_M_153 cw_M_live (ob_M K M o) np_M_live (Nat.le_of_ble_eq_true rfl) (Nat.le_of_ble_eq_true rfl) (fun post2 kk => c_M_live hS hC (fun L hL => kk _ _ ⟨rfl, L, hL, rfl⟩)) (fun a9 A9 h9 => by obtain ⟨-, L, -, rfl⟩ := h9; rfl) (fun a9 A9 h9 => ?_)
  obtain ⟨rfl, L, hL, rfl⟩ := h9
  have cS0 := cH_setL (M := M) (L := L)
  refine G_aload_n 0 d_M_has_4 rfl ?_
  refine G_gt d_M_has_5 fr_M_47 (rd_M_lives K (setL M L) o) ?_
  refine G_iload_n 1 d_M_has_8 rfl ?_
  refine G_zalN d_M_has_9 (ar_50 K (setL M L) o) (by decide) (by omega) ?_
  rw [show (setL M L).2 50 s0 = L s0 from rfl]
  refine G_ifne 15 d_M_has_10 (by decide) (fun h10 => ?_) (fun h10 => ?_)
  · refine G_aload_n 0 d_M_has_15 rfl ?_
    refine G_iconst (v := 0) d_M_has_16 (by decide) ?_
    refine G_pt d_M_has_17 fp_M_119 (wr_M_intMany K (setL M L) o 0) ?_
    refine G_iconst (v := nI 0) d_M_has_20 (by decide) ?_
    refine G_istore_n (ls' := [(2, .int (nI 0)), (0, .ref 38), (1, .int (nI s0))]) d_M_has_21 (by decide) rfl ?_
    have hlv : LV M s0 := (hL s0 hs).elim (fun z => z.2) (fun z => absurd z.1 h10)
    rw [setG_self (setL M L)]
    refine G_sub [0, 1, 2] rfl (l_M_has1 (B := setL M L) hC _ (fun S i => ?_) (mC M + 1) 0 _ (by omega) (by show mC M < _; omega))
    refine G_iconst (v := nI 0) d_M_has_43 (by decide) ?_
    refine G_istore_n (ls' := [(2, .int (nI 0)), (0, .ref 38), (1, .int (nI s0))]) d_M_has_44 (by decide) rfl ?_
    exact G_sub [0, 1, 2] rfl (l_M_has2 (B := setL M L) (cH_P wfS (fun _ => rfl) cS0 hS) (cH_P wfC (fun _ => rfl) cS0 hC) (cH_P wfP (fun _ => rfl) cS0 hP) (cH_P (fun N => wfQ N s0 a b) (fun _ => rfl) cS0 hQ) (fun I m S hm h0 h1 => l_M_hasD hS hC hP hQ hlv hL hm h0 h1 k1 k0) (a + 1) 0 _ 0 S (by omega) (by omega) (by omega) (fun c hc => absurd hc (Nat.not_lt_zero c)))
  · refine G_iconst (v := 0) d_M_has_13 (by decide) ?_
    exact G_zret d_M_has_14 rfl rfl (k0 _ cS0 (fun z => (hL s0 hs).elim (fun y => absurd (y.1.symm.trans h10) (by decide)) (fun y => y.2 z.1)))
end
section
/-! the reference's plain methods -/
def iS (M : MC) (x : Int32) : Prop := 0 ≤ x ∧ x < M.1 1
def iP (M : MC) (x : Int32) : Prop := 0 ≤ x ∧ x < M.1 3
theorem ix_of {x : Int32} {n : Nat} (hn : n < 2 ^ 31) (h : 0 ≤ x ∧ x < nI n) : ∃ j, j < n ∧ x = nI j := by
  rcases pk_ix x hn with q | q | q
  · exact absurd h.1 (Int32.not_le.mpr q)
  · exact absurd h.2 (Int32.not_lt.mpr q)
  · exact q
theorem iS_of {M : MC} {x : Int32} (hS : wfS M) (h : iS M x) : ∃ j, j < mS M ∧ x = nI j := by
  unfold iS at h
  rw [hS.1] at h
  exact ix_of (by have := hS.2.2; omega) h
theorem iP_of {M : MC} {x : Int32} (hP : wfP M) (h : iP M x) : ∃ j, j < mP M ∧ x = nI j := by
  unfold iP at h
  rw [hP.1] at h
  exact ix_of (by have := hP.2.1; omega) h
theorem iP_nI {M : MC} {p : Nat} (hP : wfP M) (h : p < mP M) : iP M (nI p) := by
  unfold iP
  have := hP.2.1
  rw [hP.1]
  exact ⟨nI_pos' (by omega), nI_lt h (by omega)⟩
theorem iS_nI {M : MC} {p : Nat} (hS : wfS M) (h : p < mS M) : iS M (nI p) := by
  unfold iS
  have := hS.2.2
  rw [hS.1]
  exact ⟨nI_pos' (by omega), nI_lt h (by omega)⟩
set_option maxHeartbeats 600000 in
set_option maxRecDepth 100000 in
theorem c_M_thrown {K : KC} {M : MC} {o : Nat → Int64} {nc ns : Nat} {d : Nat} {post : mj_O → mj_H → Prop} (k : post (.inl (some (.int (M.1 0)))) (hp K M o, nc, ns)) : mj_G y_M_thrown b_M_thrown 1 (some .int) [] d none 0 [(0, .ref 38)] [] (hp K M o, nc, ns) post := by
  refine G_aload_n 0 d_M_thrown_0 rfl ?_
  refine G_gt d_M_thrown_1 fr_M_87 (rd_M_thrown K M o) ?_
  exact G_iret d_M_thrown_4 rfl k
set_option maxHeartbeats 600000 in
set_option maxRecDepth 100000 in
theorem c_M_sort {K : KC} {M : MC} {o : Nat → Int64} {nc ns : Nat} {d : Nat} (hS : wfS M) {post : mj_O → mj_H → Prop} (k1 : mS M = 12 → post (.inl (some (.int 0))) (hp K (mi M 0 1) o, nc, ns)) (k0 : mS M ≠ 12 → post (.inl (some (.int (nI (mS M))))) (hp K (mi (mi M 0 0) 1 (nI (mS M + 1))) o, nc, ns)) : mj_G y_M_sort b_M_sort 1 (some .int) [] d none 0 [(0, .ref 38)] [] (hp K M o, nc, ns) post := by
  have q12 := hS.2.2
  refine G_aload_n 0 d_M_sort_0 rfl ?_
  refine G_aload_n 0 d_M_sort_1 rfl ?_
  refine G_gt d_M_sort_2 fr_M_7 (rd_M_sorts K M o) ?_
  rw [show M.1 1 = nI (mS M) from hS.1]
  refine G_bipush (v := nI 12) d_M_sort_5 (by decide) ?_
  refine G_icne 14 d_M_sort_7 (by decide) (fun h7 => ?_) (fun h7 => ?_)
  · have h7 := (nI_ne (by omega) (by omega)).mp h7
    refine G_iconst (v := 0) d_M_sort_14 (by decide) ?_
    refine G_pt d_M_sort_15 fp_M_87 (wr_M_thrown K M o 0) ?_
    refine G_aload_n 0 d_M_sort_18 rfl ?_
    refine G_gt d_M_sort_19 fr_M_87 (rd_M_thrown K (mi M 0 0) o) ?_
    rw [show (mi M 0 0).1 0 = 0 from rfl]
    refine G_ifle 27 d_M_sort_22 (by decide) (fun _ => ?_) (fun h => absurd h (by decide))
    refine G_aload_n 0 d_M_sort_27 rfl ?_
    refine G_dup d_M_sort_28 rfl ?_
    refine G_gt d_M_sort_29 fr_M_7 (rd_M_sorts K (mi M 0 0) o) ?_
    rw [show (mi M 0 0).1 1 = nI (mS M) from hS.1]
    refine G_iconst (v := 1) d_M_sort_32 (by decide) ?_
    refine G_iadd d_M_sort_33 ?_
    rw [nI_1]
    refine G_pt d_M_sort_34 fp_M_7 (wr_M_sorts K (mi M 0 0) o (nI (mS M + 1))) ?_
    refine G_aload_n 0 d_M_sort_37 rfl ?_
    refine G_gt d_M_sort_38 fr_M_7 (rd_M_sorts K (mi (mi M 0 0) 1 (nI (mS M + 1))) o) ?_
    rw [show (mi (mi M 0 0) 1 (nI (mS M + 1))).1 1 = nI (mS M + 1) from rfl]
    refine G_iconst (v := 1) d_M_sort_41 (by decide) ?_
    refine G_isub d_M_sort_42 ?_
    rw [nI_pred]
    exact G_iret d_M_sort_43 rfl (k0 h7)
  · have h7 := (nI_eq (by omega) (by omega)).mp h7
    refine G_iconst (v := 1) d_M_sort_10 (by decide) ?_
    refine G_goto 15 d_M_sort_11 (by decide) ?_
    refine G_pt d_M_sort_15 fp_M_87 (wr_M_thrown K M o 1) ?_
    refine G_aload_n 0 d_M_sort_18 rfl ?_
    refine G_gt d_M_sort_19 fr_M_87 (rd_M_thrown K (mi M 0 1) o) ?_
    rw [show (mi M 0 1).1 0 = 1 from rfl]
    refine G_ifle 27 d_M_sort_22 (by decide) (fun h => absurd h (by decide)) (fun _ => ?_)
    refine G_iconst (v := 0) d_M_sort_25 (by decide) ?_
    exact G_iret d_M_sort_26 rfl (k1 h7)
set_option maxHeartbeats 600000 in
set_option maxRecDepth 100000 in
theorem c_M_any {K : KC} {M : MC} {o : Nat → Int64} {nc ns : Nat} {d : Nat} (x : Int32) (hP : wfP M) {post : mj_O → mj_H → Prop} (k1 : ¬ iS M x → post (.inl (some (.int 0))) (hp K (mi M 0 1) o, nc, ns)) (k2 : iS M x → mP M = 200 → post (.inl (some (.int 0))) (hp K (mi M 0 2) o, nc, ns)) (k0 : iS M x → mP M ≠ 200 → post (.inl (some (.int (nI (mP M))))) (hp K (patM (mi M 0 0) (mP M) 0 x 0 0 0 0) o, nc, ns)) : mj_G y_M_any b_M_any 2 (some .int) [] (d + 1) none 0 [(0, .ref 38), (1, .int x)] [] (hp K M o, nc, ns) post := by
  have q200 := hP.2.1
  refine G_aload_n 0 d_M_any_0 rfl ?_
  refine G_aload_n 0 d_M_any_1 rfl ?_
  refine G_iload_n 1 d_M_any_2 rfl ?_
  refine G_cvB (iS M x) (As := [.int x]) d_M_any_3 cv_M_93 cw_M_isSort (ob_M K M o) np_M_isSort (Nat.le_of_ble_eq_true rfl) (Nat.le_of_ble_eq_true rfl) (fun post2 k1 k0 => c_M_isSort x k1 k0) (fun u3 => ?_) (fun u3 => ?_)
  · refine G_ifne 13 d_M_any_6 (by decide) (fun _ => ?_) (fun h => absurd h (by decide))
    refine G_aload_n 0 d_M_any_13 rfl ?_
    refine G_gt d_M_any_14 fr_M_90 (rd_M_patterns K M o) ?_
    rw [show M.1 3 = nI (mP M) from hP.1]
    refine G_sipush (v := nI 200) d_M_any_17 (by decide) ?_
    refine G_icne 27 d_M_any_20 (by decide) (fun h20 => ?_) (fun h20 => ?_)
    · have h20 := (nI_ne (by omega) (by omega)).mp h20
      refine G_iconst (v := 0) d_M_any_27 (by decide) ?_
      refine G_pt d_M_any_28 fp_M_87 (wr_M_thrown K M o 0) ?_
      refine G_aload_n 0 d_M_any_31 rfl ?_
      refine G_gt d_M_any_32 fr_M_87 (rd_M_thrown K (mi M 0 0) o) ?_
      rw [show (mi M 0 0).1 0 = 0 from rfl]
      refine G_ifle 42 d_M_any_35 (by decide) (fun _ => ?_) (fun h => absurd h (by decide))
      refine G_aload_n 0 d_M_any_42 rfl ?_
      refine G_iconst (v := 0) d_M_any_43 (by decide) ?_
      refine G_iload_n 1 d_M_any_44 rfl ?_
      refine G_iconst (v := 0) d_M_any_45 (by decide) ?_
      refine G_iconst (v := 0) d_M_any_46 (by decide) ?_
      refine G_iconst (v := 0) d_M_any_47 (by decide) ?_
      refine G_iconst (v := 0) d_M_any_48 (by decide) ?_
      refine G_cv1 (some (.int (nI (mP M)))) (hp K (patM (mi M 0 0) (mP M) 0 x 0 0 0 0) o, nc, ns) (As := [.int 0, .int x, .int 0, .int 0, .int 0, .int 0]) d_M_any_49 cv_M_100 cw_M_pattern (ob_M K (mi M 0 0) o) np_M_pattern (Nat.le_of_ble_eq_true rfl) (Nat.le_of_ble_eq_true rfl) (fun post2 k2 => c_M_pattern (M := mi M 0 0) 0 x 0 0 0 0 (mP M) hP.1 (by omega) k2) rfl ?_
      exact G_iret d_M_any_52 rfl (k0 u3 h20)
    · have h20 := (nI_eq (by omega) (by omega)).mp h20
      refine G_iconst (v := 2) d_M_any_23 (by decide) ?_
      refine G_goto 28 d_M_any_24 (by decide) ?_
      refine G_pt d_M_any_28 fp_M_87 (wr_M_thrown K M o 2) ?_
      refine G_aload_n 0 d_M_any_31 rfl ?_
      refine G_gt d_M_any_32 fr_M_87 (rd_M_thrown K (mi M 0 2) o) ?_
      rw [show (mi M 0 2).1 0 = 2 from rfl]
      refine G_ifle 42 d_M_any_35 (by decide) (fun h => absurd h (by decide)) (fun _ => ?_)
      refine G_iconst (v := 0) d_M_any_38 (by decide) ?_
      refine G_goto 52 d_M_any_39 (by decide) ?_
      exact G_iret d_M_any_52 rfl (k2 u3 h20)
  · refine G_ifne 13 d_M_any_6 (by decide) (fun h => absurd h (by decide)) (fun _ => ?_)
    refine G_iconst (v := 1) d_M_any_9 (by decide) ?_
    refine G_goto 28 d_M_any_10 (by decide) ?_
    refine G_pt d_M_any_28 fp_M_87 (wr_M_thrown K M o 1) ?_
    refine G_aload_n 0 d_M_any_31 rfl ?_
    refine G_gt d_M_any_32 fr_M_87 (rd_M_thrown K (mi M 0 1) o) ?_
    rw [show (mi M 0 1).1 0 = 1 from rfl]
    refine G_ifle 42 d_M_any_35 (by decide) (fun h => absurd h (by decide)) (fun _ => ?_)
    refine G_iconst (v := 0) d_M_any_38 (by decide) ?_
    refine G_goto 52 d_M_any_39 (by decide) ?_
    exact G_iret d_M_any_52 rfl (k1 u3)
set_option maxHeartbeats 600000 in
set_option maxRecDepth 100000 in
theorem c_M_number {K : KC} {M : MC} {o : Nat → Int64} {nc ns : Nat} {d : Nat} (x : Int32) (hP : wfP M) {post : mj_O → mj_H → Prop} (k1 : mP M = 200 → post (.inl (some (.int 0))) (hp K (mi M 0 1) o, nc, ns)) (k0 : mP M ≠ 200 → post (.inl (some (.int (nI (mP M))))) (hp K (patM (mi M 0 0) (mP M) 1 0 x 0 0 1) o, nc, ns)) : mj_G y_M_number b_M_number 2 (some .int) [] (d + 1) none 0 [(0, .ref 38), (1, .int x)] [] (hp K M o, nc, ns) post := by
  have q200 := hP.2.1
  refine G_aload_n 0 d_M_number_0 rfl ?_
  refine G_aload_n 0 d_M_number_1 rfl ?_
  refine G_gt d_M_number_2 fr_M_90 (rd_M_patterns K M o) ?_
  rw [show M.1 3 = nI (mP M) from hP.1]
  refine G_sipush (v := nI 200) d_M_number_5 (by decide) ?_
  refine G_icne 15 d_M_number_8 (by decide) (fun h8 => ?_) (fun h8 => ?_)
  · have h8 := (nI_ne (by omega) (by omega)).mp h8
    refine G_iconst (v := 0) d_M_number_15 (by decide) ?_
    refine G_pt d_M_number_16 fp_M_87 (wr_M_thrown K M o 0) ?_
    refine G_aload_n 0 d_M_number_19 rfl ?_
    refine G_gt d_M_number_20 fr_M_87 (rd_M_thrown K (mi M 0 0) o) ?_
    rw [show (mi M 0 0).1 0 = 0 from rfl]
    refine G_ifle 30 d_M_number_23 (by decide) (fun _ => ?_) (fun h => absurd h (by decide))
    refine G_aload_n 0 d_M_number_30 rfl ?_
    refine G_iconst (v := 1) d_M_number_31 (by decide) ?_
    refine G_iconst (v := 0) d_M_number_32 (by decide) ?_
    refine G_iload_n 1 d_M_number_33 rfl ?_
    refine G_iconst (v := 0) d_M_number_34 (by decide) ?_
    refine G_iconst (v := 0) d_M_number_35 (by decide) ?_
    refine G_iconst (v := 1) d_M_number_36 (by decide) ?_
    refine G_cv1 (some (.int (nI (mP M)))) (hp K (patM (mi M 0 0) (mP M) 1 0 x 0 0 1) o, nc, ns) (As := [.int 1, .int 0, .int x, .int 0, .int 0, .int 1]) d_M_number_37 cv_M_100 cw_M_pattern (ob_M K (mi M 0 0) o) np_M_pattern (Nat.le_of_ble_eq_true rfl) (Nat.le_of_ble_eq_true rfl) (fun post2 k2 => c_M_pattern (M := mi M 0 0) 1 0 x 0 0 1 (mP M) hP.1 (by omega) k2) rfl ?_
    exact G_iret d_M_number_40 rfl (k0 h8)
  · have h8 := (nI_eq (by omega) (by omega)).mp h8
    refine G_iconst (v := 1) d_M_number_11 (by decide) ?_
    refine G_goto 16 d_M_number_12 (by decide) ?_
    refine G_pt d_M_number_16 fp_M_87 (wr_M_thrown K M o 1) ?_
    refine G_aload_n 0 d_M_number_19 rfl ?_
    refine G_gt d_M_number_20 fr_M_87 (rd_M_thrown K (mi M 0 1) o) ?_
    rw [show (mi M 0 1).1 0 = 1 from rfl]
    refine G_ifle 30 d_M_number_23 (by decide) (fun h => absurd h (by decide)) (fun _ => ?_)
    refine G_iconst (v := 0) d_M_number_26 (by decide) ?_
    refine G_goto 40 d_M_number_27 (by decide) ?_
    exact G_iret d_M_number_40 rfl (k1 h8)
set_option maxHeartbeats 600000 in
set_option maxRecDepth 100000 in
theorem c_M_begin {K : KC} {M : MC} {o : Nat → Int64} {nc ns : Nat} {d : Nat} (x : Int32) {post : mj_O → mj_H → Prop} (k1 : ¬ iS M x → post (.inl none) (hp K (mi M 0 1) o, nc, ns)) (k0 : iS M x → post (.inl none) (hp K (mi (mi (mi M 0 0) 4 (nI 0)) 5 x) o, nc, ns)) : mj_G y_M_begin b_M_begin 2 none [] (d + 1) none 0 [(0, .ref 38), (1, .int x)] [] (hp K M o, nc, ns) post := by
  refine G_aload_n 0 d_M_begin_0 rfl ?_
  refine G_aload_n 0 d_M_begin_1 rfl ?_
  refine G_iload_n 1 d_M_begin_2 rfl ?_
  refine G_cvB (iS M x) (As := [.int x]) d_M_begin_3 cv_M_93 cw_M_isSort (ob_M K M o) np_M_isSort (Nat.le_of_ble_eq_true rfl) (Nat.le_of_ble_eq_true rfl) (fun post2 k1 k0 => c_M_isSort x k1 k0) (fun u3 => ?_) (fun u3 => ?_)
  · refine G_ifeq 13 d_M_begin_6 (by decide) (fun h => absurd h (by decide)) (fun _ => ?_)
    refine G_iconst (v := 0) d_M_begin_9 (by decide) ?_
    refine G_goto 14 d_M_begin_10 (by decide) ?_
    refine G_pt d_M_begin_14 fp_M_87 (wr_M_thrown K M o 0) ?_
    refine G_aload_n 0 d_M_begin_17 rfl ?_
    refine G_gt d_M_begin_18 fr_M_87 (rd_M_thrown K (mi M 0 0) o) ?_
    rw [show (mi M 0 0).1 0 = 0 from rfl]
    refine G_ifle 25 d_M_begin_21 (by decide) (fun _ => ?_) (fun h => absurd h (by decide))
    refine G_aload_n 0 d_M_begin_25 rfl ?_
    refine G_iconst (v := nI 0) d_M_begin_26 (by decide) ?_
    refine G_pt d_M_begin_27 fp_M_107 (wr_M_clauses K (mi M 0 0) o (nI 0)) ?_
    refine G_aload_n 0 d_M_begin_30 rfl ?_
    refine G_iload_n 1 d_M_begin_31 rfl ?_
    refine G_pt d_M_begin_32 fp_M_110 (wr_M_clauseSort K (mi (mi M 0 0) 4 (nI 0)) o x) ?_
    exact G_ret d_M_begin_35 rfl (k0 u3)
  · refine G_ifeq 13 d_M_begin_6 (by decide) (fun _ => ?_) (fun h => absurd h (by decide))
    refine G_iconst (v := 1) d_M_begin_13 (by decide) ?_
    refine G_pt d_M_begin_14 fp_M_87 (wr_M_thrown K M o 1) ?_
    refine G_aload_n 0 d_M_begin_17 rfl ?_
    refine G_gt d_M_begin_18 fr_M_87 (rd_M_thrown K (mi M 0 1) o) ?_
    rw [show (mi M 0 1).1 0 = 1 from rfl]
    refine G_ifle 25 d_M_begin_21 (by decide) (fun h => absurd h (by decide)) (fun _ => ?_)
    exact G_ret d_M_begin_24 rfl (k1 u3)
def aL (M : MC) (x1 x2 : Int32) : Prop := iP M x1 ∧ iP M x2 ∧ M.2 44 x1.toNatClampNeg = M.2 44 x2.toNatClampNeg
set_option maxHeartbeats 600000 in
set_option maxRecDepth 100000 in
theorem c_M_areLike {K : KC} {M : MC} {o : Nat → Int64} {nc ns : Nat} {d : Nat} (x1 x2 : Int32) (hP : wfP M) {post : mj_O → mj_H → Prop} (k1 : aL M x1 x2 → post (.inl (some (.int 1))) (hp K M o, nc, ns)) (k0 : ¬ aL M x1 x2 → post (.inl (some (.int 0))) (hp K M o, nc, ns)) : mj_G y_M_areLike b_M_areLike 3 (some .boolean) [] (d + 1) none 0 [(0, .ref 38), (1, .int x1), (2, .int x2)] [] (hp K M o, nc, ns) post := by
  refine G_aload_n 0 d_M_areLike_0 rfl ?_
  refine G_iload_n 1 d_M_areLike_1 rfl ?_
  refine G_cvB (iP M x1) (As := [.int x1]) d_M_areLike_2 cv_M_104 cw_M_isPattern (ob_M K M o) np_M_isPattern (Nat.le_of_ble_eq_true rfl) (Nat.le_of_ble_eq_true rfl) (fun post2 k1 k0 => c_M_isPattern x1 k1 k0) (fun u2 => ?_) (fun u2 => ?_)
  · refine G_ifeq 35 d_M_areLike_5 (by decide) (fun h => absurd h (by decide)) (fun _ => ?_)
    refine G_aload_n 0 d_M_areLike_8 rfl ?_
    refine G_iload_n 2 d_M_areLike_9 rfl ?_
    refine G_cvB (iP M x2) (As := [.int x2]) d_M_areLike_10 cv_M_104 cw_M_isPattern (ob_M K M o) np_M_isPattern (Nat.le_of_ble_eq_true rfl) (Nat.le_of_ble_eq_true rfl) (fun post2 k1 k0 => c_M_isPattern x2 k1 k0) (fun u10 => ?_) (fun u10 => ?_)
    · obtain ⟨p1, hp1, rfl⟩ := iP_of hP u2
      have q200 := hP.2.1
      obtain ⟨p2, hp2, rfl⟩ := iP_of hP u10
      have q200 := hP.2.1
      refine G_ifeq 35 d_M_areLike_13 (by decide) (fun h => absurd h (by decide)) (fun _ => ?_)
      refine G_aload_n 0 d_M_areLike_16 rfl ?_
      refine G_gt d_M_areLike_17 fr_M_29 (rd_M_sortOf K M o) ?_
      refine G_iload_n 1 d_M_areLike_20 rfl ?_
      refine G_ialN d_M_areLike_21 (ar_44 K M o) (by decide) (by omega) ?_
      refine G_aload_n 0 d_M_areLike_22 rfl ?_
      refine G_gt d_M_areLike_23 fr_M_29 (rd_M_sortOf K M o) ?_
      refine G_iload_n 2 d_M_areLike_26 rfl ?_
      refine G_ialN d_M_areLike_27 (ar_44 K M o) (by decide) (by omega) ?_
      refine G_icne 35 d_M_areLike_28 (by decide) (fun h28 => ?_) (fun h28 => ?_)
      · refine G_iconst (v := 0) d_M_areLike_35 (by decide) ?_
        exact G_zret d_M_areLike_36 rfl rfl (k0 (fun z => h28 (by have z := z.2.2; rw [nI_clamp (by omega), nI_clamp (by omega)] at z; exact z)))
      · refine G_iconst (v := 1) d_M_areLike_31 (by decide) ?_
        refine G_goto 36 d_M_areLike_32 (by decide) ?_
        exact G_zret d_M_areLike_36 rfl rfl (k1 ⟨u2, u10, by rw [nI_clamp (by omega), nI_clamp (by omega)]; exact h28⟩)
    · refine G_ifeq 35 d_M_areLike_13 (by decide) (fun _ => ?_) (fun h => absurd h (by decide))
      refine G_iconst (v := 0) d_M_areLike_35 (by decide) ?_
      exact G_zret d_M_areLike_36 rfl rfl (k0 (fun z => u10 z.2.1))
  · refine G_ifeq 35 d_M_areLike_5 (by decide) (fun _ => ?_) (fun h => absurd h (by decide))
    refine G_iconst (v := 0) d_M_areLike_35 (by decide) ?_
    exact G_zret d_M_areLike_36 rfl rfl (k0 (fun z => u2 z.1))
def rC (M : MC) (x1 x2 x3 x4 : Int32) : Prop := ¬ x1 ≤ 0 ∧ iS M x1 ∧ ¬ x2 < 0 ∧ ¬ 2 < x2 ∧ (x2 < 1 ∨ iS M x3) ∧ (x2 < 2 ∨ iS M x4)
def conM (M : MC) (n : Nat) (x1 x2 x3 x4 : Int32) : MC := mi (ma (ma (ma (ma M 39 n x1) 40 n x2) 41 n x3) 42 n x4) 2 (nI (n + 1))
set_option maxHeartbeats 600000 in
set_option maxRecDepth 100000 in
theorem c_M_con {K : KC} {M : MC} {o : Nat → Int64} {nc ns : Nat} {d : Nat} (x1 x2 x3 x4 : Int32) (hC : wfC M) {post : mj_O → mj_H → Prop} (k1 : ¬ rC M x1 x2 x3 x4 → post (.inl (some (.int 0))) (hp K (mi M 0 1) o, nc, ns)) (k2 : rC M x1 x2 x3 x4 → mC M = 30 → post (.inl (some (.int 0))) (hp K (mi M 0 2) o, nc, ns)) (k0 : rC M x1 x2 x3 x4 → mC M ≠ 30 → post (.inl (some (.int (nI (mC M))))) (hp K (conM (mi M 0 0) (mC M) x1 x2 x3 x4) o, nc, ns)) : mj_G y_M_con b_M_con 6 (some .int) [] (d + 1) none 0 [(0, .ref 38), (1, .int x1), (2, .int x2), (3, .int x3), (4, .int x4)] [] (hp K M o, nc, ns) post := by
  have q30 := hC.2.1
  refine G_iload_n 1 d_M_con_0 rfl ?_
  refine G_ifle 52 d_M_con_1 (by decide) (fun h1 => ?_) (fun h1 => ?_)
  · refine G_iconst (v := 0) d_M_con_52 (by decide) ?_
    refine G_istore (ls' := [(5, .int 0), (0, .ref 38), (1, .int x1), (2, .int x2), (3, .int x3), (4, .int x4)]) d_M_con_53 (by decide) rfl ?_
    refine G_aload_n 1 d_M_con_55 rfl ?_
    refine G_iload 0 d_M_con_56 rfl ?_
    refine G_ifne 65 d_M_con_58 (by decide) (fun h => absurd h (by decide)) (fun _ => ?_)
    refine G_iconst (v := 1) d_M_con_61 (by decide) ?_
    refine G_goto 79 d_M_con_62 (by decide) ?_
    refine G_pt d_M_con_79 fp_M_87 (wr_M_thrown K M o 1) ?_
    refine G_aload_n 1 d_M_con_82 rfl ?_
    refine G_gt d_M_con_83 fr_M_87 (rd_M_thrown K (mi M 0 1) o) ?_
    rw [show (mi M 0 1).1 0 = 1 from rfl]
    refine G_ifle 91 d_M_con_86 (by decide) (fun h => absurd h (by decide)) (fun _ => ?_)
    refine G_iconst (v := 0) d_M_con_89 (by decide) ?_
    exact G_iret d_M_con_90 rfl (k1 (fun z => z.1 h1))
  · refine G_aload_n 0 d_M_con_4 rfl ?_
    refine G_iload_n 1 d_M_con_5 rfl ?_
    refine G_cvB (iS M x1) (As := [.int x1]) d_M_con_6 cv_M_93 cw_M_isSort (ob_M K M o) np_M_isSort (Nat.le_of_ble_eq_true rfl) (Nat.le_of_ble_eq_true rfl) (fun post2 k1 k0 => c_M_isSort x1 k1 k0) (fun u6 => ?_) (fun u6 => ?_)
    · refine G_ifeq 52 d_M_con_9 (by decide) (fun h => absurd h (by decide)) (fun _ => ?_)
      refine G_iload_n 2 d_M_con_12 rfl ?_
      refine G_iflt 52 d_M_con_13 (by decide) (fun h13 => ?_) (fun h13 => ?_)
      · refine G_iconst (v := 0) d_M_con_52 (by decide) ?_
        refine G_istore (ls' := [(5, .int 0), (0, .ref 38), (1, .int x1), (2, .int x2), (3, .int x3), (4, .int x4)]) d_M_con_53 (by decide) rfl ?_
        refine G_aload_n 1 d_M_con_55 rfl ?_
        refine G_iload 0 d_M_con_56 rfl ?_
        refine G_ifne 65 d_M_con_58 (by decide) (fun h => absurd h (by decide)) (fun _ => ?_)
        refine G_iconst (v := 1) d_M_con_61 (by decide) ?_
        refine G_goto 79 d_M_con_62 (by decide) ?_
        refine G_pt d_M_con_79 fp_M_87 (wr_M_thrown K M o 1) ?_
        refine G_aload_n 1 d_M_con_82 rfl ?_
        refine G_gt d_M_con_83 fr_M_87 (rd_M_thrown K (mi M 0 1) o) ?_
        rw [show (mi M 0 1).1 0 = 1 from rfl]
        refine G_ifle 91 d_M_con_86 (by decide) (fun h => absurd h (by decide)) (fun _ => ?_)
        refine G_iconst (v := 0) d_M_con_89 (by decide) ?_
        exact G_iret d_M_con_90 rfl (k1 (fun z => z.2.2.1 h13))
      · refine G_iload_n 2 d_M_con_16 rfl ?_
        refine G_iconst (v := 2) d_M_con_17 (by decide) ?_
        refine G_icgt 52 d_M_con_18 (by decide) (fun h18 => ?_) (fun h18 => ?_)
        · refine G_iconst (v := 0) d_M_con_52 (by decide) ?_
          refine G_istore (ls' := [(5, .int 0), (0, .ref 38), (1, .int x1), (2, .int x2), (3, .int x3), (4, .int x4)]) d_M_con_53 (by decide) rfl ?_
          refine G_aload_n 1 d_M_con_55 rfl ?_
          refine G_iload 0 d_M_con_56 rfl ?_
          refine G_ifne 65 d_M_con_58 (by decide) (fun h => absurd h (by decide)) (fun _ => ?_)
          refine G_iconst (v := 1) d_M_con_61 (by decide) ?_
          refine G_goto 79 d_M_con_62 (by decide) ?_
          refine G_pt d_M_con_79 fp_M_87 (wr_M_thrown K M o 1) ?_
          refine G_aload_n 1 d_M_con_82 rfl ?_
          refine G_gt d_M_con_83 fr_M_87 (rd_M_thrown K (mi M 0 1) o) ?_
          rw [show (mi M 0 1).1 0 = 1 from rfl]
          refine G_ifle 91 d_M_con_86 (by decide) (fun h => absurd h (by decide)) (fun _ => ?_)
          refine G_iconst (v := 0) d_M_con_89 (by decide) ?_
          exact G_iret d_M_con_90 rfl (k1 (fun z => z.2.2.2.1 h18))
        · refine G_iload_n 2 d_M_con_21 rfl ?_
          refine G_iconst (v := 1) d_M_con_22 (by decide) ?_
          refine G_iclt 34 d_M_con_23 (by decide) (fun h23 => ?_) (fun h23 => ?_)
          · refine G_iload_n 2 d_M_con_34 rfl ?_
            refine G_iconst (v := 2) d_M_con_35 (by decide) ?_
            refine G_iclt 48 d_M_con_36 (by decide) (fun h36 => ?_) (fun h36 => ?_)
            · refine G_iconst (v := 1) d_M_con_48 (by decide) ?_
              refine G_goto 53 d_M_con_49 (by decide) ?_
              refine G_istore (ls' := [(5, .int 1), (0, .ref 38), (1, .int x1), (2, .int x2), (3, .int x3), (4, .int x4)]) d_M_con_53 (by decide) rfl ?_
              refine G_aload_n 1 d_M_con_55 rfl ?_
              refine G_iload 0 d_M_con_56 rfl ?_
              refine G_ifne 65 d_M_con_58 (by decide) (fun _ => ?_) (fun h => absurd h (by decide))
              refine G_aload_n 1 d_M_con_65 rfl ?_
              refine G_gt d_M_con_66 fr_M_97 (rd_M_cons K M o) ?_
              rw [show M.1 2 = nI (mC M) from hC.1]
              refine G_bipush (v := nI 30) d_M_con_69 (by decide) ?_
              refine G_icne 78 d_M_con_71 (by decide) (fun h71 => ?_) (fun h71 => ?_)
              · have h71 := (nI_ne (by omega) (by omega)).mp h71
                refine G_iconst (v := 0) d_M_con_78 (by decide) ?_
                refine G_pt d_M_con_79 fp_M_87 (wr_M_thrown K M o 0) ?_
                refine G_aload_n 1 d_M_con_82 rfl ?_
                refine G_gt d_M_con_83 fr_M_87 (rd_M_thrown K (mi M 0 0) o) ?_
                rw [show (mi M 0 0).1 0 = 0 from rfl]
                refine G_ifle 91 d_M_con_86 (by decide) (fun _ => ?_) (fun h => absurd h (by decide))
                refine G_aload_n 1 d_M_con_91 rfl ?_
                refine G_gt d_M_con_92 fr_M_13 (rd_M_conSort K (mi M 0 0) o) ?_
                refine G_aload_n 1 d_M_con_95 rfl ?_
                refine G_gt d_M_con_96 fr_M_97 (rd_M_cons K (mi M 0 0) o) ?_
                rw [show (mi M 0 0).1 2 = nI (mC M) from hC.1]
                refine G_iload_n 2 d_M_con_99 rfl ?_
                refine G_iasN d_M_con_100 (ar_39 K (mi M 0 0) o) (by decide) (by omega) (aw_39 K (mi M 0 0) o (mC M) x1) ?_
                refine G_aload_n 1 d_M_con_101 rfl ?_
                refine G_gt d_M_con_102 fr_M_17 (rd_M_conParts K (ma (mi M 0 0) 39 (mC M) x1) o) ?_
                refine G_aload_n 1 d_M_con_105 rfl ?_
                refine G_gt d_M_con_106 fr_M_97 (rd_M_cons K (ma (mi M 0 0) 39 (mC M) x1) o) ?_
                rw [show (ma (mi M 0 0) 39 (mC M) x1).1 2 = nI (mC M) from hC.1]
                refine G_iload_n 3 d_M_con_109 rfl ?_
                refine G_iasN d_M_con_110 (ar_40 K (ma (mi M 0 0) 39 (mC M) x1) o) (by decide) (by omega) (aw_40 K (ma (mi M 0 0) 39 (mC M) x1) o (mC M) x2) ?_
                refine G_aload_n 1 d_M_con_111 rfl ?_
                refine G_gt d_M_con_112 fr_M_20 (rd_M_conFirst K (ma (ma (mi M 0 0) 39 (mC M) x1) 40 (mC M) x2) o) ?_
                refine G_aload_n 1 d_M_con_115 rfl ?_
                refine G_gt d_M_con_116 fr_M_97 (rd_M_cons K (ma (ma (mi M 0 0) 39 (mC M) x1) 40 (mC M) x2) o) ?_
                rw [show (ma (ma (mi M 0 0) 39 (mC M) x1) 40 (mC M) x2).1 2 = nI (mC M) from hC.1]
                refine G_iload_n 4 d_M_con_119 rfl ?_
                refine G_iasN d_M_con_120 (ar_41 K (ma (ma (mi M 0 0) 39 (mC M) x1) 40 (mC M) x2) o) (by decide) (by omega) (aw_41 K (ma (ma (mi M 0 0) 39 (mC M) x1) 40 (mC M) x2) o (mC M) x3) ?_
                refine G_aload_n 1 d_M_con_121 rfl ?_
                refine G_gt d_M_con_122 fr_M_23 (rd_M_conSecond K (ma (ma (ma (mi M 0 0) 39 (mC M) x1) 40 (mC M) x2) 41 (mC M) x3) o) ?_
                refine G_aload_n 1 d_M_con_125 rfl ?_
                refine G_gt d_M_con_126 fr_M_97 (rd_M_cons K (ma (ma (ma (mi M 0 0) 39 (mC M) x1) 40 (mC M) x2) 41 (mC M) x3) o) ?_
                rw [show (ma (ma (ma (mi M 0 0) 39 (mC M) x1) 40 (mC M) x2) 41 (mC M) x3).1 2 = nI (mC M) from hC.1]
                refine G_iload 5 d_M_con_129 rfl ?_
                refine G_iasN d_M_con_131 (ar_42 K (ma (ma (ma (mi M 0 0) 39 (mC M) x1) 40 (mC M) x2) 41 (mC M) x3) o) (by decide) (by omega) (aw_42 K (ma (ma (ma (mi M 0 0) 39 (mC M) x1) 40 (mC M) x2) 41 (mC M) x3) o (mC M) x4) ?_
                refine G_aload_n 1 d_M_con_132 rfl ?_
                refine G_dup d_M_con_133 rfl ?_
                refine G_gt d_M_con_134 fr_M_97 (rd_M_cons K (ma (ma (ma (ma (mi M 0 0) 39 (mC M) x1) 40 (mC M) x2) 41 (mC M) x3) 42 (mC M) x4) o) ?_
                rw [show (ma (ma (ma (ma (mi M 0 0) 39 (mC M) x1) 40 (mC M) x2) 41 (mC M) x3) 42 (mC M) x4).1 2 = nI (mC M) from hC.1]
                refine G_iconst (v := 1) d_M_con_137 (by decide) ?_
                refine G_iadd d_M_con_138 ?_
                rw [nI_1]
                refine G_pt d_M_con_139 fp_M_97 (wr_M_cons K (ma (ma (ma (ma (mi M 0 0) 39 (mC M) x1) 40 (mC M) x2) 41 (mC M) x3) 42 (mC M) x4) o (nI (mC M + 1))) ?_
                refine G_aload_n 1 d_M_con_142 rfl ?_
                refine G_gt d_M_con_143 fr_M_97 (rd_M_cons K (mi (ma (ma (ma (ma (mi M 0 0) 39 (mC M) x1) 40 (mC M) x2) 41 (mC M) x3) 42 (mC M) x4) 2 (nI (mC M + 1))) o) ?_
                rw [show (mi (ma (ma (ma (ma (mi M 0 0) 39 (mC M) x1) 40 (mC M) x2) 41 (mC M) x3) 42 (mC M) x4) 2 (nI (mC M + 1))).1 2 = nI (mC M + 1) from rfl]
                refine G_iconst (v := 1) d_M_con_146 (by decide) ?_
                refine G_isub d_M_con_147 ?_
                rw [nI_pred]
                exact G_iret d_M_con_148 rfl (k0 ⟨h1, u6, h13, h18, Or.inl h23, Or.inl h36⟩ h71)
              · have h71 := (nI_eq (by omega) (by omega)).mp h71
                refine G_iconst (v := 2) d_M_con_74 (by decide) ?_
                refine G_goto 79 d_M_con_75 (by decide) ?_
                refine G_pt d_M_con_79 fp_M_87 (wr_M_thrown K M o 2) ?_
                refine G_aload_n 1 d_M_con_82 rfl ?_
                refine G_gt d_M_con_83 fr_M_87 (rd_M_thrown K (mi M 0 2) o) ?_
                rw [show (mi M 0 2).1 0 = 2 from rfl]
                refine G_ifle 91 d_M_con_86 (by decide) (fun h => absurd h (by decide)) (fun _ => ?_)
                refine G_iconst (v := 0) d_M_con_89 (by decide) ?_
                exact G_iret d_M_con_90 rfl (k2 ⟨h1, u6, h13, h18, Or.inl h23, Or.inl h36⟩ h71)
            · refine G_aload_n 0 d_M_con_39 rfl ?_
              refine G_iload 4 d_M_con_40 rfl ?_
              refine G_cvB (iS M x4) (As := [.int x4]) d_M_con_42 cv_M_93 cw_M_isSort (ob_M K M o) np_M_isSort (Nat.le_of_ble_eq_true rfl) (Nat.le_of_ble_eq_true rfl) (fun post2 k1 k0 => c_M_isSort x4 k1 k0) (fun u42 => ?_) (fun u42 => ?_)
              · refine G_ifeq 52 d_M_con_45 (by decide) (fun h => absurd h (by decide)) (fun _ => ?_)
                refine G_iconst (v := 1) d_M_con_48 (by decide) ?_
                refine G_goto 53 d_M_con_49 (by decide) ?_
                refine G_istore (ls' := [(5, .int 1), (0, .ref 38), (1, .int x1), (2, .int x2), (3, .int x3), (4, .int x4)]) d_M_con_53 (by decide) rfl ?_
                refine G_aload_n 1 d_M_con_55 rfl ?_
                refine G_iload 0 d_M_con_56 rfl ?_
                refine G_ifne 65 d_M_con_58 (by decide) (fun _ => ?_) (fun h => absurd h (by decide))
                refine G_aload_n 1 d_M_con_65 rfl ?_
                refine G_gt d_M_con_66 fr_M_97 (rd_M_cons K M o) ?_
                rw [show M.1 2 = nI (mC M) from hC.1]
                refine G_bipush (v := nI 30) d_M_con_69 (by decide) ?_
                refine G_icne 78 d_M_con_71 (by decide) (fun h71 => ?_) (fun h71 => ?_)
                · have h71 := (nI_ne (by omega) (by omega)).mp h71
                  refine G_iconst (v := 0) d_M_con_78 (by decide) ?_
                  refine G_pt d_M_con_79 fp_M_87 (wr_M_thrown K M o 0) ?_
                  refine G_aload_n 1 d_M_con_82 rfl ?_
                  refine G_gt d_M_con_83 fr_M_87 (rd_M_thrown K (mi M 0 0) o) ?_
                  rw [show (mi M 0 0).1 0 = 0 from rfl]
                  refine G_ifle 91 d_M_con_86 (by decide) (fun _ => ?_) (fun h => absurd h (by decide))
                  refine G_aload_n 1 d_M_con_91 rfl ?_
                  refine G_gt d_M_con_92 fr_M_13 (rd_M_conSort K (mi M 0 0) o) ?_
                  refine G_aload_n 1 d_M_con_95 rfl ?_
                  refine G_gt d_M_con_96 fr_M_97 (rd_M_cons K (mi M 0 0) o) ?_
                  rw [show (mi M 0 0).1 2 = nI (mC M) from hC.1]
                  refine G_iload_n 2 d_M_con_99 rfl ?_
                  refine G_iasN d_M_con_100 (ar_39 K (mi M 0 0) o) (by decide) (by omega) (aw_39 K (mi M 0 0) o (mC M) x1) ?_
                  refine G_aload_n 1 d_M_con_101 rfl ?_
                  refine G_gt d_M_con_102 fr_M_17 (rd_M_conParts K (ma (mi M 0 0) 39 (mC M) x1) o) ?_
                  refine G_aload_n 1 d_M_con_105 rfl ?_
                  refine G_gt d_M_con_106 fr_M_97 (rd_M_cons K (ma (mi M 0 0) 39 (mC M) x1) o) ?_
                  rw [show (ma (mi M 0 0) 39 (mC M) x1).1 2 = nI (mC M) from hC.1]
                  refine G_iload_n 3 d_M_con_109 rfl ?_
                  refine G_iasN d_M_con_110 (ar_40 K (ma (mi M 0 0) 39 (mC M) x1) o) (by decide) (by omega) (aw_40 K (ma (mi M 0 0) 39 (mC M) x1) o (mC M) x2) ?_
                  refine G_aload_n 1 d_M_con_111 rfl ?_
                  refine G_gt d_M_con_112 fr_M_20 (rd_M_conFirst K (ma (ma (mi M 0 0) 39 (mC M) x1) 40 (mC M) x2) o) ?_
                  refine G_aload_n 1 d_M_con_115 rfl ?_
                  refine G_gt d_M_con_116 fr_M_97 (rd_M_cons K (ma (ma (mi M 0 0) 39 (mC M) x1) 40 (mC M) x2) o) ?_
                  rw [show (ma (ma (mi M 0 0) 39 (mC M) x1) 40 (mC M) x2).1 2 = nI (mC M) from hC.1]
                  refine G_iload_n 4 d_M_con_119 rfl ?_
                  refine G_iasN d_M_con_120 (ar_41 K (ma (ma (mi M 0 0) 39 (mC M) x1) 40 (mC M) x2) o) (by decide) (by omega) (aw_41 K (ma (ma (mi M 0 0) 39 (mC M) x1) 40 (mC M) x2) o (mC M) x3) ?_
                  refine G_aload_n 1 d_M_con_121 rfl ?_
                  refine G_gt d_M_con_122 fr_M_23 (rd_M_conSecond K (ma (ma (ma (mi M 0 0) 39 (mC M) x1) 40 (mC M) x2) 41 (mC M) x3) o) ?_
                  refine G_aload_n 1 d_M_con_125 rfl ?_
                  refine G_gt d_M_con_126 fr_M_97 (rd_M_cons K (ma (ma (ma (mi M 0 0) 39 (mC M) x1) 40 (mC M) x2) 41 (mC M) x3) o) ?_
                  rw [show (ma (ma (ma (mi M 0 0) 39 (mC M) x1) 40 (mC M) x2) 41 (mC M) x3).1 2 = nI (mC M) from hC.1]
                  refine G_iload 5 d_M_con_129 rfl ?_
                  refine G_iasN d_M_con_131 (ar_42 K (ma (ma (ma (mi M 0 0) 39 (mC M) x1) 40 (mC M) x2) 41 (mC M) x3) o) (by decide) (by omega) (aw_42 K (ma (ma (ma (mi M 0 0) 39 (mC M) x1) 40 (mC M) x2) 41 (mC M) x3) o (mC M) x4) ?_
                  refine G_aload_n 1 d_M_con_132 rfl ?_
                  refine G_dup d_M_con_133 rfl ?_
                  refine G_gt d_M_con_134 fr_M_97 (rd_M_cons K (ma (ma (ma (ma (mi M 0 0) 39 (mC M) x1) 40 (mC M) x2) 41 (mC M) x3) 42 (mC M) x4) o) ?_
                  rw [show (ma (ma (ma (ma (mi M 0 0) 39 (mC M) x1) 40 (mC M) x2) 41 (mC M) x3) 42 (mC M) x4).1 2 = nI (mC M) from hC.1]
                  refine G_iconst (v := 1) d_M_con_137 (by decide) ?_
                  refine G_iadd d_M_con_138 ?_
                  rw [nI_1]
                  refine G_pt d_M_con_139 fp_M_97 (wr_M_cons K (ma (ma (ma (ma (mi M 0 0) 39 (mC M) x1) 40 (mC M) x2) 41 (mC M) x3) 42 (mC M) x4) o (nI (mC M + 1))) ?_
                  refine G_aload_n 1 d_M_con_142 rfl ?_
                  refine G_gt d_M_con_143 fr_M_97 (rd_M_cons K (mi (ma (ma (ma (ma (mi M 0 0) 39 (mC M) x1) 40 (mC M) x2) 41 (mC M) x3) 42 (mC M) x4) 2 (nI (mC M + 1))) o) ?_
                  rw [show (mi (ma (ma (ma (ma (mi M 0 0) 39 (mC M) x1) 40 (mC M) x2) 41 (mC M) x3) 42 (mC M) x4) 2 (nI (mC M + 1))).1 2 = nI (mC M + 1) from rfl]
                  refine G_iconst (v := 1) d_M_con_146 (by decide) ?_
                  refine G_isub d_M_con_147 ?_
                  rw [nI_pred]
                  exact G_iret d_M_con_148 rfl (k0 ⟨h1, u6, h13, h18, Or.inl h23, Or.inr u42⟩ h71)
                · have h71 := (nI_eq (by omega) (by omega)).mp h71
                  refine G_iconst (v := 2) d_M_con_74 (by decide) ?_
                  refine G_goto 79 d_M_con_75 (by decide) ?_
                  refine G_pt d_M_con_79 fp_M_87 (wr_M_thrown K M o 2) ?_
                  refine G_aload_n 1 d_M_con_82 rfl ?_
                  refine G_gt d_M_con_83 fr_M_87 (rd_M_thrown K (mi M 0 2) o) ?_
                  rw [show (mi M 0 2).1 0 = 2 from rfl]
                  refine G_ifle 91 d_M_con_86 (by decide) (fun h => absurd h (by decide)) (fun _ => ?_)
                  refine G_iconst (v := 0) d_M_con_89 (by decide) ?_
                  exact G_iret d_M_con_90 rfl (k2 ⟨h1, u6, h13, h18, Or.inl h23, Or.inr u42⟩ h71)
              · refine G_ifeq 52 d_M_con_45 (by decide) (fun _ => ?_) (fun h => absurd h (by decide))
                refine G_iconst (v := 0) d_M_con_52 (by decide) ?_
                refine G_istore (ls' := [(5, .int 0), (0, .ref 38), (1, .int x1), (2, .int x2), (3, .int x3), (4, .int x4)]) d_M_con_53 (by decide) rfl ?_
                refine G_aload_n 1 d_M_con_55 rfl ?_
                refine G_iload 0 d_M_con_56 rfl ?_
                refine G_ifne 65 d_M_con_58 (by decide) (fun h => absurd h (by decide)) (fun _ => ?_)
                refine G_iconst (v := 1) d_M_con_61 (by decide) ?_
                refine G_goto 79 d_M_con_62 (by decide) ?_
                refine G_pt d_M_con_79 fp_M_87 (wr_M_thrown K M o 1) ?_
                refine G_aload_n 1 d_M_con_82 rfl ?_
                refine G_gt d_M_con_83 fr_M_87 (rd_M_thrown K (mi M 0 1) o) ?_
                rw [show (mi M 0 1).1 0 = 1 from rfl]
                refine G_ifle 91 d_M_con_86 (by decide) (fun h => absurd h (by decide)) (fun _ => ?_)
                refine G_iconst (v := 0) d_M_con_89 (by decide) ?_
                exact G_iret d_M_con_90 rfl (k1 (fun z => z.2.2.2.2.2.elim h36 u42))
          · refine G_aload_n 0 d_M_con_26 rfl ?_
            refine G_iload_n 3 d_M_con_27 rfl ?_
            refine G_cvB (iS M x3) (As := [.int x3]) d_M_con_28 cv_M_93 cw_M_isSort (ob_M K M o) np_M_isSort (Nat.le_of_ble_eq_true rfl) (Nat.le_of_ble_eq_true rfl) (fun post2 k1 k0 => c_M_isSort x3 k1 k0) (fun u28 => ?_) (fun u28 => ?_)
            · refine G_ifeq 52 d_M_con_31 (by decide) (fun h => absurd h (by decide)) (fun _ => ?_)
              refine G_iload_n 2 d_M_con_34 rfl ?_
              refine G_iconst (v := 2) d_M_con_35 (by decide) ?_
              refine G_iclt 48 d_M_con_36 (by decide) (fun h36 => ?_) (fun h36 => ?_)
              · refine G_iconst (v := 1) d_M_con_48 (by decide) ?_
                refine G_goto 53 d_M_con_49 (by decide) ?_
                refine G_istore (ls' := [(5, .int 1), (0, .ref 38), (1, .int x1), (2, .int x2), (3, .int x3), (4, .int x4)]) d_M_con_53 (by decide) rfl ?_
                refine G_aload_n 1 d_M_con_55 rfl ?_
                refine G_iload 0 d_M_con_56 rfl ?_
                refine G_ifne 65 d_M_con_58 (by decide) (fun _ => ?_) (fun h => absurd h (by decide))
                refine G_aload_n 1 d_M_con_65 rfl ?_
                refine G_gt d_M_con_66 fr_M_97 (rd_M_cons K M o) ?_
                rw [show M.1 2 = nI (mC M) from hC.1]
                refine G_bipush (v := nI 30) d_M_con_69 (by decide) ?_
                refine G_icne 78 d_M_con_71 (by decide) (fun h71 => ?_) (fun h71 => ?_)
                · have h71 := (nI_ne (by omega) (by omega)).mp h71
                  refine G_iconst (v := 0) d_M_con_78 (by decide) ?_
                  refine G_pt d_M_con_79 fp_M_87 (wr_M_thrown K M o 0) ?_
                  refine G_aload_n 1 d_M_con_82 rfl ?_
                  refine G_gt d_M_con_83 fr_M_87 (rd_M_thrown K (mi M 0 0) o) ?_
                  rw [show (mi M 0 0).1 0 = 0 from rfl]
                  refine G_ifle 91 d_M_con_86 (by decide) (fun _ => ?_) (fun h => absurd h (by decide))
                  refine G_aload_n 1 d_M_con_91 rfl ?_
                  refine G_gt d_M_con_92 fr_M_13 (rd_M_conSort K (mi M 0 0) o) ?_
                  refine G_aload_n 1 d_M_con_95 rfl ?_
                  refine G_gt d_M_con_96 fr_M_97 (rd_M_cons K (mi M 0 0) o) ?_
                  rw [show (mi M 0 0).1 2 = nI (mC M) from hC.1]
                  refine G_iload_n 2 d_M_con_99 rfl ?_
                  refine G_iasN d_M_con_100 (ar_39 K (mi M 0 0) o) (by decide) (by omega) (aw_39 K (mi M 0 0) o (mC M) x1) ?_
                  refine G_aload_n 1 d_M_con_101 rfl ?_
                  refine G_gt d_M_con_102 fr_M_17 (rd_M_conParts K (ma (mi M 0 0) 39 (mC M) x1) o) ?_
                  refine G_aload_n 1 d_M_con_105 rfl ?_
                  refine G_gt d_M_con_106 fr_M_97 (rd_M_cons K (ma (mi M 0 0) 39 (mC M) x1) o) ?_
                  rw [show (ma (mi M 0 0) 39 (mC M) x1).1 2 = nI (mC M) from hC.1]
                  refine G_iload_n 3 d_M_con_109 rfl ?_
                  refine G_iasN d_M_con_110 (ar_40 K (ma (mi M 0 0) 39 (mC M) x1) o) (by decide) (by omega) (aw_40 K (ma (mi M 0 0) 39 (mC M) x1) o (mC M) x2) ?_
                  refine G_aload_n 1 d_M_con_111 rfl ?_
                  refine G_gt d_M_con_112 fr_M_20 (rd_M_conFirst K (ma (ma (mi M 0 0) 39 (mC M) x1) 40 (mC M) x2) o) ?_
                  refine G_aload_n 1 d_M_con_115 rfl ?_
                  refine G_gt d_M_con_116 fr_M_97 (rd_M_cons K (ma (ma (mi M 0 0) 39 (mC M) x1) 40 (mC M) x2) o) ?_
                  rw [show (ma (ma (mi M 0 0) 39 (mC M) x1) 40 (mC M) x2).1 2 = nI (mC M) from hC.1]
                  refine G_iload_n 4 d_M_con_119 rfl ?_
                  refine G_iasN d_M_con_120 (ar_41 K (ma (ma (mi M 0 0) 39 (mC M) x1) 40 (mC M) x2) o) (by decide) (by omega) (aw_41 K (ma (ma (mi M 0 0) 39 (mC M) x1) 40 (mC M) x2) o (mC M) x3) ?_
                  refine G_aload_n 1 d_M_con_121 rfl ?_
                  refine G_gt d_M_con_122 fr_M_23 (rd_M_conSecond K (ma (ma (ma (mi M 0 0) 39 (mC M) x1) 40 (mC M) x2) 41 (mC M) x3) o) ?_
                  refine G_aload_n 1 d_M_con_125 rfl ?_
                  refine G_gt d_M_con_126 fr_M_97 (rd_M_cons K (ma (ma (ma (mi M 0 0) 39 (mC M) x1) 40 (mC M) x2) 41 (mC M) x3) o) ?_
                  rw [show (ma (ma (ma (mi M 0 0) 39 (mC M) x1) 40 (mC M) x2) 41 (mC M) x3).1 2 = nI (mC M) from hC.1]
                  refine G_iload 5 d_M_con_129 rfl ?_
                  refine G_iasN d_M_con_131 (ar_42 K (ma (ma (ma (mi M 0 0) 39 (mC M) x1) 40 (mC M) x2) 41 (mC M) x3) o) (by decide) (by omega) (aw_42 K (ma (ma (ma (mi M 0 0) 39 (mC M) x1) 40 (mC M) x2) 41 (mC M) x3) o (mC M) x4) ?_
                  refine G_aload_n 1 d_M_con_132 rfl ?_
                  refine G_dup d_M_con_133 rfl ?_
                  refine G_gt d_M_con_134 fr_M_97 (rd_M_cons K (ma (ma (ma (ma (mi M 0 0) 39 (mC M) x1) 40 (mC M) x2) 41 (mC M) x3) 42 (mC M) x4) o) ?_
                  rw [show (ma (ma (ma (ma (mi M 0 0) 39 (mC M) x1) 40 (mC M) x2) 41 (mC M) x3) 42 (mC M) x4).1 2 = nI (mC M) from hC.1]
                  refine G_iconst (v := 1) d_M_con_137 (by decide) ?_
                  refine G_iadd d_M_con_138 ?_
                  rw [nI_1]
                  refine G_pt d_M_con_139 fp_M_97 (wr_M_cons K (ma (ma (ma (ma (mi M 0 0) 39 (mC M) x1) 40 (mC M) x2) 41 (mC M) x3) 42 (mC M) x4) o (nI (mC M + 1))) ?_
                  refine G_aload_n 1 d_M_con_142 rfl ?_
                  refine G_gt d_M_con_143 fr_M_97 (rd_M_cons K (mi (ma (ma (ma (ma (mi M 0 0) 39 (mC M) x1) 40 (mC M) x2) 41 (mC M) x3) 42 (mC M) x4) 2 (nI (mC M + 1))) o) ?_
                  rw [show (mi (ma (ma (ma (ma (mi M 0 0) 39 (mC M) x1) 40 (mC M) x2) 41 (mC M) x3) 42 (mC M) x4) 2 (nI (mC M + 1))).1 2 = nI (mC M + 1) from rfl]
                  refine G_iconst (v := 1) d_M_con_146 (by decide) ?_
                  refine G_isub d_M_con_147 ?_
                  rw [nI_pred]
                  exact G_iret d_M_con_148 rfl (k0 ⟨h1, u6, h13, h18, Or.inr u28, Or.inl h36⟩ h71)
                · have h71 := (nI_eq (by omega) (by omega)).mp h71
                  refine G_iconst (v := 2) d_M_con_74 (by decide) ?_
                  refine G_goto 79 d_M_con_75 (by decide) ?_
                  refine G_pt d_M_con_79 fp_M_87 (wr_M_thrown K M o 2) ?_
                  refine G_aload_n 1 d_M_con_82 rfl ?_
                  refine G_gt d_M_con_83 fr_M_87 (rd_M_thrown K (mi M 0 2) o) ?_
                  rw [show (mi M 0 2).1 0 = 2 from rfl]
                  refine G_ifle 91 d_M_con_86 (by decide) (fun h => absurd h (by decide)) (fun _ => ?_)
                  refine G_iconst (v := 0) d_M_con_89 (by decide) ?_
                  exact G_iret d_M_con_90 rfl (k2 ⟨h1, u6, h13, h18, Or.inr u28, Or.inl h36⟩ h71)
              · refine G_aload_n 0 d_M_con_39 rfl ?_
                refine G_iload 4 d_M_con_40 rfl ?_
                refine G_cvB (iS M x4) (As := [.int x4]) d_M_con_42 cv_M_93 cw_M_isSort (ob_M K M o) np_M_isSort (Nat.le_of_ble_eq_true rfl) (Nat.le_of_ble_eq_true rfl) (fun post2 k1 k0 => c_M_isSort x4 k1 k0) (fun u42 => ?_) (fun u42 => ?_)
                · refine G_ifeq 52 d_M_con_45 (by decide) (fun h => absurd h (by decide)) (fun _ => ?_)
                  refine G_iconst (v := 1) d_M_con_48 (by decide) ?_
                  refine G_goto 53 d_M_con_49 (by decide) ?_
                  refine G_istore (ls' := [(5, .int 1), (0, .ref 38), (1, .int x1), (2, .int x2), (3, .int x3), (4, .int x4)]) d_M_con_53 (by decide) rfl ?_
                  refine G_aload_n 1 d_M_con_55 rfl ?_
                  refine G_iload 0 d_M_con_56 rfl ?_
                  refine G_ifne 65 d_M_con_58 (by decide) (fun _ => ?_) (fun h => absurd h (by decide))
                  refine G_aload_n 1 d_M_con_65 rfl ?_
                  refine G_gt d_M_con_66 fr_M_97 (rd_M_cons K M o) ?_
                  rw [show M.1 2 = nI (mC M) from hC.1]
                  refine G_bipush (v := nI 30) d_M_con_69 (by decide) ?_
                  refine G_icne 78 d_M_con_71 (by decide) (fun h71 => ?_) (fun h71 => ?_)
                  · have h71 := (nI_ne (by omega) (by omega)).mp h71
                    refine G_iconst (v := 0) d_M_con_78 (by decide) ?_
                    refine G_pt d_M_con_79 fp_M_87 (wr_M_thrown K M o 0) ?_
                    refine G_aload_n 1 d_M_con_82 rfl ?_
                    refine G_gt d_M_con_83 fr_M_87 (rd_M_thrown K (mi M 0 0) o) ?_
                    rw [show (mi M 0 0).1 0 = 0 from rfl]
                    refine G_ifle 91 d_M_con_86 (by decide) (fun _ => ?_) (fun h => absurd h (by decide))
                    refine G_aload_n 1 d_M_con_91 rfl ?_
                    refine G_gt d_M_con_92 fr_M_13 (rd_M_conSort K (mi M 0 0) o) ?_
                    refine G_aload_n 1 d_M_con_95 rfl ?_
                    refine G_gt d_M_con_96 fr_M_97 (rd_M_cons K (mi M 0 0) o) ?_
                    rw [show (mi M 0 0).1 2 = nI (mC M) from hC.1]
                    refine G_iload_n 2 d_M_con_99 rfl ?_
                    refine G_iasN d_M_con_100 (ar_39 K (mi M 0 0) o) (by decide) (by omega) (aw_39 K (mi M 0 0) o (mC M) x1) ?_
                    refine G_aload_n 1 d_M_con_101 rfl ?_
                    refine G_gt d_M_con_102 fr_M_17 (rd_M_conParts K (ma (mi M 0 0) 39 (mC M) x1) o) ?_
                    refine G_aload_n 1 d_M_con_105 rfl ?_
                    refine G_gt d_M_con_106 fr_M_97 (rd_M_cons K (ma (mi M 0 0) 39 (mC M) x1) o) ?_
                    rw [show (ma (mi M 0 0) 39 (mC M) x1).1 2 = nI (mC M) from hC.1]
                    refine G_iload_n 3 d_M_con_109 rfl ?_
                    refine G_iasN d_M_con_110 (ar_40 K (ma (mi M 0 0) 39 (mC M) x1) o) (by decide) (by omega) (aw_40 K (ma (mi M 0 0) 39 (mC M) x1) o (mC M) x2) ?_
                    refine G_aload_n 1 d_M_con_111 rfl ?_
                    refine G_gt d_M_con_112 fr_M_20 (rd_M_conFirst K (ma (ma (mi M 0 0) 39 (mC M) x1) 40 (mC M) x2) o) ?_
                    refine G_aload_n 1 d_M_con_115 rfl ?_
                    refine G_gt d_M_con_116 fr_M_97 (rd_M_cons K (ma (ma (mi M 0 0) 39 (mC M) x1) 40 (mC M) x2) o) ?_
                    rw [show (ma (ma (mi M 0 0) 39 (mC M) x1) 40 (mC M) x2).1 2 = nI (mC M) from hC.1]
                    refine G_iload_n 4 d_M_con_119 rfl ?_
                    refine G_iasN d_M_con_120 (ar_41 K (ma (ma (mi M 0 0) 39 (mC M) x1) 40 (mC M) x2) o) (by decide) (by omega) (aw_41 K (ma (ma (mi M 0 0) 39 (mC M) x1) 40 (mC M) x2) o (mC M) x3) ?_
                    refine G_aload_n 1 d_M_con_121 rfl ?_
                    refine G_gt d_M_con_122 fr_M_23 (rd_M_conSecond K (ma (ma (ma (mi M 0 0) 39 (mC M) x1) 40 (mC M) x2) 41 (mC M) x3) o) ?_
                    refine G_aload_n 1 d_M_con_125 rfl ?_
                    refine G_gt d_M_con_126 fr_M_97 (rd_M_cons K (ma (ma (ma (mi M 0 0) 39 (mC M) x1) 40 (mC M) x2) 41 (mC M) x3) o) ?_
                    rw [show (ma (ma (ma (mi M 0 0) 39 (mC M) x1) 40 (mC M) x2) 41 (mC M) x3).1 2 = nI (mC M) from hC.1]
                    refine G_iload 5 d_M_con_129 rfl ?_
                    refine G_iasN d_M_con_131 (ar_42 K (ma (ma (ma (mi M 0 0) 39 (mC M) x1) 40 (mC M) x2) 41 (mC M) x3) o) (by decide) (by omega) (aw_42 K (ma (ma (ma (mi M 0 0) 39 (mC M) x1) 40 (mC M) x2) 41 (mC M) x3) o (mC M) x4) ?_
                    refine G_aload_n 1 d_M_con_132 rfl ?_
                    refine G_dup d_M_con_133 rfl ?_
                    refine G_gt d_M_con_134 fr_M_97 (rd_M_cons K (ma (ma (ma (ma (mi M 0 0) 39 (mC M) x1) 40 (mC M) x2) 41 (mC M) x3) 42 (mC M) x4) o) ?_
                    rw [show (ma (ma (ma (ma (mi M 0 0) 39 (mC M) x1) 40 (mC M) x2) 41 (mC M) x3) 42 (mC M) x4).1 2 = nI (mC M) from hC.1]
                    refine G_iconst (v := 1) d_M_con_137 (by decide) ?_
                    refine G_iadd d_M_con_138 ?_
                    rw [nI_1]
                    refine G_pt d_M_con_139 fp_M_97 (wr_M_cons K (ma (ma (ma (ma (mi M 0 0) 39 (mC M) x1) 40 (mC M) x2) 41 (mC M) x3) 42 (mC M) x4) o (nI (mC M + 1))) ?_
                    refine G_aload_n 1 d_M_con_142 rfl ?_
                    refine G_gt d_M_con_143 fr_M_97 (rd_M_cons K (mi (ma (ma (ma (ma (mi M 0 0) 39 (mC M) x1) 40 (mC M) x2) 41 (mC M) x3) 42 (mC M) x4) 2 (nI (mC M + 1))) o) ?_
                    rw [show (mi (ma (ma (ma (ma (mi M 0 0) 39 (mC M) x1) 40 (mC M) x2) 41 (mC M) x3) 42 (mC M) x4) 2 (nI (mC M + 1))).1 2 = nI (mC M + 1) from rfl]
                    refine G_iconst (v := 1) d_M_con_146 (by decide) ?_
                    refine G_isub d_M_con_147 ?_
                    rw [nI_pred]
                    exact G_iret d_M_con_148 rfl (k0 ⟨h1, u6, h13, h18, Or.inr u28, Or.inr u42⟩ h71)
                  · have h71 := (nI_eq (by omega) (by omega)).mp h71
                    refine G_iconst (v := 2) d_M_con_74 (by decide) ?_
                    refine G_goto 79 d_M_con_75 (by decide) ?_
                    refine G_pt d_M_con_79 fp_M_87 (wr_M_thrown K M o 2) ?_
                    refine G_aload_n 1 d_M_con_82 rfl ?_
                    refine G_gt d_M_con_83 fr_M_87 (rd_M_thrown K (mi M 0 2) o) ?_
                    rw [show (mi M 0 2).1 0 = 2 from rfl]
                    refine G_ifle 91 d_M_con_86 (by decide) (fun h => absurd h (by decide)) (fun _ => ?_)
                    refine G_iconst (v := 0) d_M_con_89 (by decide) ?_
                    exact G_iret d_M_con_90 rfl (k2 ⟨h1, u6, h13, h18, Or.inr u28, Or.inr u42⟩ h71)
                · refine G_ifeq 52 d_M_con_45 (by decide) (fun _ => ?_) (fun h => absurd h (by decide))
                  refine G_iconst (v := 0) d_M_con_52 (by decide) ?_
                  refine G_istore (ls' := [(5, .int 0), (0, .ref 38), (1, .int x1), (2, .int x2), (3, .int x3), (4, .int x4)]) d_M_con_53 (by decide) rfl ?_
                  refine G_aload_n 1 d_M_con_55 rfl ?_
                  refine G_iload 0 d_M_con_56 rfl ?_
                  refine G_ifne 65 d_M_con_58 (by decide) (fun h => absurd h (by decide)) (fun _ => ?_)
                  refine G_iconst (v := 1) d_M_con_61 (by decide) ?_
                  refine G_goto 79 d_M_con_62 (by decide) ?_
                  refine G_pt d_M_con_79 fp_M_87 (wr_M_thrown K M o 1) ?_
                  refine G_aload_n 1 d_M_con_82 rfl ?_
                  refine G_gt d_M_con_83 fr_M_87 (rd_M_thrown K (mi M 0 1) o) ?_
                  rw [show (mi M 0 1).1 0 = 1 from rfl]
                  refine G_ifle 91 d_M_con_86 (by decide) (fun h => absurd h (by decide)) (fun _ => ?_)
                  refine G_iconst (v := 0) d_M_con_89 (by decide) ?_
                  exact G_iret d_M_con_90 rfl (k1 (fun z => z.2.2.2.2.2.elim h36 u42))
            · refine G_ifeq 52 d_M_con_31 (by decide) (fun _ => ?_) (fun h => absurd h (by decide))
              refine G_iconst (v := 0) d_M_con_52 (by decide) ?_
              refine G_istore (ls' := [(5, .int 0), (0, .ref 38), (1, .int x1), (2, .int x2), (3, .int x3), (4, .int x4)]) d_M_con_53 (by decide) rfl ?_
              refine G_aload_n 1 d_M_con_55 rfl ?_
              refine G_iload 0 d_M_con_56 rfl ?_
              refine G_ifne 65 d_M_con_58 (by decide) (fun h => absurd h (by decide)) (fun _ => ?_)
              refine G_iconst (v := 1) d_M_con_61 (by decide) ?_
              refine G_goto 79 d_M_con_62 (by decide) ?_
              refine G_pt d_M_con_79 fp_M_87 (wr_M_thrown K M o 1) ?_
              refine G_aload_n 1 d_M_con_82 rfl ?_
              refine G_gt d_M_con_83 fr_M_87 (rd_M_thrown K (mi M 0 1) o) ?_
              rw [show (mi M 0 1).1 0 = 1 from rfl]
              refine G_ifle 91 d_M_con_86 (by decide) (fun h => absurd h (by decide)) (fun _ => ?_)
              refine G_iconst (v := 0) d_M_con_89 (by decide) ?_
              exact G_iret d_M_con_90 rfl (k1 (fun z => z.2.2.2.2.1.elim h23 u28))
    · refine G_ifeq 52 d_M_con_9 (by decide) (fun _ => ?_) (fun h => absurd h (by decide))
      refine G_iconst (v := 0) d_M_con_52 (by decide) ?_
      refine G_istore (ls' := [(5, .int 0), (0, .ref 38), (1, .int x1), (2, .int x2), (3, .int x3), (4, .int x4)]) d_M_con_53 (by decide) rfl ?_
      refine G_aload_n 1 d_M_con_55 rfl ?_
      refine G_iload 0 d_M_con_56 rfl ?_
      refine G_ifne 65 d_M_con_58 (by decide) (fun h => absurd h (by decide)) (fun _ => ?_)
      refine G_iconst (v := 1) d_M_con_61 (by decide) ?_
      refine G_goto 79 d_M_con_62 (by decide) ?_
      refine G_pt d_M_con_79 fp_M_87 (wr_M_thrown K M o 1) ?_
      refine G_aload_n 1 d_M_con_82 rfl ?_
      refine G_gt d_M_con_83 fr_M_87 (rd_M_thrown K (mi M 0 1) o) ?_
      rw [show (mi M 0 1).1 0 = 1 from rfl]
      refine G_ifle 91 d_M_con_86 (by decide) (fun h => absurd h (by decide)) (fun _ => ?_)
      refine G_iconst (v := 0) d_M_con_89 (by decide) ?_
      exact G_iret d_M_con_90 rfl (k1 (fun z => u6 z.2.1))
end
section
/-! the reference's methods that ask -/
def coR (M : MC) : MC := (fun k => if 6 ≤ k ∧ k ≤ 11 then 0 else M.1 k, fun a => if 50 ≤ a then (fun _ => 0) else M.2 a)
theorem cR_of {α : Type} (f : MC → α) (hf : ∀ N, f (coR N) = f N) {N M : MC} (h : coR N = coR M) : f N = f M := by rw [← hf N, h, hf M]
theorem cR_P (f : MC → Prop) (hf : ∀ N, f (coR N) = f N) {N M : MC} (h : coR N = coR M) (hM : f M) : f N := (cR_of f hf h).mpr hM
theorem coR_coH (N : MC) : coR (coH N) = coR N := by
  unfold coR coH
  refine Prod.ext (funext fun k => ?_) (funext fun a => ?_)
  · show (if 6 ≤ k ∧ k ≤ 11 then 0 else (if k = 6 ∨ k = 7 ∨ k = 8 ∨ k = 11 then 0 else N.1 k)) = (if 6 ≤ k ∧ k ≤ 11 then 0 else N.1 k)
    by_cases e : 6 ≤ k ∧ k ≤ 11
    · rw [if_pos e, if_pos e]
    · rw [if_neg e, if_neg e, if_neg (by omega)]
  · show (if 50 ≤ a then (fun _ => 0) else (if (50 ≤ a ∧ a ≤ 59) ∨ a = 62 then (fun _ => 0) else N.2 a)) = (if 50 ≤ a then (fun _ => 0) else N.2 a)
    by_cases e : 50 ≤ a
    · rw [if_pos e, if_pos e]
    · rw [if_neg e, if_neg e, if_neg (by omega)]
theorem cR_H {N M : MC} (h : coH N = coH M) : coR N = coR M := cH_of coR coR_coH h
theorem cR_mi {M : MC} {k : Nat} {v : Int32} (h : 6 ≤ k ∧ k ≤ 11) : coR (mi M k v) = coR M := by
  unfold coR
  refine Prod.ext (funext fun j => ?_) rfl
  show (if 6 ≤ j ∧ j ≤ 11 then 0 else upd M.1 k v j) = (if 6 ≤ j ∧ j ≤ 11 then 0 else M.1 j)
  by_cases e : 6 ≤ j ∧ j ≤ 11
  · rw [if_pos e, if_pos e]
  · rw [if_neg e, if_neg e]; exact pk_un (by omega)
theorem cR_up {M : MC} {a : Nat} {f : Nat → Int32} (h : 50 ≤ a) : coR (M.1, va_up M.2 a f) = coR M := by
  unfold coR
  refine Prod.ext rfl (funext fun b => ?_)
  show (if 50 ≤ b then (fun _ => 0) else va_up M.2 a f b) = (if 50 ≤ b then (fun _ => 0) else M.2 b)
  by_cases e : 50 ≤ b
  · rw [if_pos e, if_pos e]
  · rw [if_neg e, if_neg e]; exact va_up_ne _ _ (by omega)
theorem cR_ma {M : MC} {a i : Nat} {v : Int32} (h : 50 ≤ a) : coR (ma M a i v) = coR M := cR_up h
theorem cR_setL {M : MC} {L : Nat → Int32} : coR (setL M L) = coR M := cR_up (by omega)
theorem cR_askL (N : MC) : askL (coR N) = askL N := by
  funext f
  induction f with
  | zero => rfl
  | succ f ih =>
    funext p r
    show (if pk N p = 0 then [] else if pk N p = 1 then [(r, (N.2 45 p).toInt)] else (r, lab (pn N p)) :: ((if 1 ≤ cP N (pn N p) then askL (coR N) f (pf N p) (0 :: r) else []) ++ (if 2 ≤ cP N (pn N p) then askL (coR N) f (pg N p) (1 :: r) else []))) = _
    rw [ih]; rfl
theorem cR_fitT (N : MC) : fitT (coR N) = fitT N := by
  funext t p
  show (∀ x ∈ askL (coR N) 13 p [], _) = _
  rw [cR_askL]; rfl
theorem cR_misT (N : MC) : misT (coR N) = misT N := by
  funext t p
  show (∃ x ∈ askL (coR N) 13 p [], _) = _
  rw [cR_askL]; rfl
theorem cR_srt (N : MC) : srt (coR N) = srt N := by
  funext s t r
  cases r with
  | nil => rfl
  | cons k r => rfl
theorem cR_wfT (N : MC) : wfT (coR N) = wfT N := by
  funext s t
  show (∀ r a, t r = some a → ∃ s2, srt (coR N) s t r = some s2 ∧ okA N s2 a) = _
  rw [cR_srt]; rfl
theorem cR_Sat (N : MC) : Sat (coR N) = Sat N := by
  funext s0 ms nv u
  show (∃ t, extT u t ∧ wfT (coR N) s0 t ∧ (∀ p ∈ ms, fitT (coR N) t p) ∧ ∀ p ∈ nv, misT (coR N) t p) = _
  rw [cR_wfT, cR_fitT, cR_misT]; rfl
def HASL (M : MC) (s0 : Nat) (ms nv : List Nat) : Prop := LV M s0 ∧ Sat M s0 ms nv (fun _ => none)
theorem cR_HASL (N : MC) : HASL (coR N) = HASL N := by
  funext s0 ms nv
  show (LV N s0 ∧ Sat (coR N) s0 ms nv (fun _ => none)) = _
  rw [cR_Sat]; rfl
abbrev cl (M : MC) (i : Nat) : Nat := (M.2 49 i).toNatClampNeg
def wfK (M : MC) (cs k : Nat) : Prop := M.1 4 = nI k ∧ k ≤ 8 ∧ M.1 5 = nI cs ∧ cs < mS M ∧ ∀ i, i < k → M.2 49 i = nI (cl M i) ∧ cl M i < mP M ∧ ps M (cl M i) = cs
def REACH (M : MC) (cs i : Nat) : Prop := HASL M cs ((List.range 1).map (fun _ => cl M i)) ((List.range i).map (cl M))
def OPENS (M : MC) (cs k : Nat) : Prop := HASL M cs ((List.range 0).map (fun _ => 0)) ((List.range k).map (cl M))
theorem map_range_eq {f g : Nat → Nat} {n : Nat} (h : ∀ i, i < n → f i = g i) : (List.range n).map f = (List.range n).map g := List.map_congr_left (fun i hi => h i (List.mem_range.mp hi))
theorem c_has2 {K : KC} {M : MC} {o : Nat → Int64} {nc ns : Nat} {N : MC} {d s0 a b : Nat} {f g : Nat → Nat} (hS : wfS M) (hC : wfC M) (hP : wfP M) (hc : coR N = coR M) (hs : s0 < mS M) (h9 : N.1 9 = nI a) (ha : a ≤ 2) (h10 : N.1 10 = nI b) (hb : b ≤ 8) (hf : ∀ i, i < a → N.2 60 i = nI (f i) ∧ f i < mP M ∧ ps M (f i) = s0) (hg : ∀ i, i < b → N.2 61 i = nI (g i) ∧ g i < mP M ∧ ps M (g i) = s0) {post : mj_O → mj_H → Prop}
    (k1 : ∀ N', coR N' = coR M → HASL M s0 ((List.range a).map f) ((List.range b).map g) → post (.inl (some (.int 1))) (hp K N' o, nc, ns)) (k0 : ∀ N', coR N' = coR M → ¬ HASL M s0 ((List.range a).map f) ((List.range b).map g) → post (.inl (some (.int 0))) (hp K N' o, nc, ns)) : mj_G y_M_has b_M_has 3 (some .boolean) [] (d + 14) none 0 [(0, .ref 38), (1, .int (nI s0))] [] (hp K N o, nc, ns) post := by
  have h200 := hP.2.1
  have emP : mP N = mP M := cR_of mP (fun _ => rfl) hc
  have eps : ps N = ps M := cR_of ps (fun _ => rfl) hc
  have hQ : wfQ N s0 a b := by
    refine ⟨h9, ha, h10, hb, fun i hi => ⟨f i, ?_⟩, fun i hi => ⟨g i, ?_⟩⟩
    · rw [emP, eps]; exact hf i hi
    · rw [emP, eps]; exact hg i hi
  have em : msL N = (List.range a).map f := by
    unfold msL
    rw [h9, nI_clamp (by omega)]
    exact map_range_eq (fun i hi => by rw [(hf i hi).1, nI_clamp (by have := (hf i hi).2.1; omega)])
  have en : nvL N = (List.range b).map g := by
    unfold nvL
    rw [h10, nI_clamp (by omega)]
    exact map_range_eq (fun i hi => by rw [(hg i hi).1, nI_clamp (by have := (hg i hi).2.1; omega)])
  have eH : HAS N s0 = HASL M s0 ((List.range a).map f) ((List.range b).map g) := by
    unfold HAS HASL
    rw [em, en, cR_of LV (fun _ => rfl) hc, cR_of Sat cR_Sat hc]
  exact c_M_has (cR_P wfS (fun _ => rfl) hc hS) (cR_P wfC (fun _ => rfl) hc hC) (cR_P wfP (fun _ => rfl) hc hP) hQ (by rw [cR_of mS (fun _ => rfl) hc]; exact hs) (fun N' h1 h2 => k1 N' ((cR_H h1).trans hc) (by rw [← eH]; exact h2)) (fun N' h1 h2 => k0 N' ((cR_H h1).trans hc) (by rw [← eH]; exact h2))
theorem wf0S {M : MC} {v : Int32} (h : wfS M) : wfS (mi M 0 v) := h
theorem wf0C {M : MC} {v : Int32} (h : wfC M) : wfC (mi M 0 v) := h
theorem wf0P {M : MC} {v : Int32} (h : wfP M) : wfP (mi M 0 v) := h
theorem wf0K {M : MC} {v : Int32} {cs k : Nat} (h : wfK M cs k) : wfK (mi M 0 v) cs k := h
theorem meet_f {M N : MC} {p q : Nat} (h0 : N.2 60 0 = nI p) (h1 : N.2 60 1 = nI q) (hp1 : p < mP M) (hq1 : q < mP M) (hpq : ps M p = ps M q) : ∀ c, c < 2 → N.2 60 c = nI ((fun i => if i = 0 then p else q) c) ∧ (fun i => if i = 0 then p else q) c < mP M ∧ ps M ((fun i => if i = 0 then p else q) c) = ps M p := by
  intro c hc
  rcases (show c = 0 ∨ c = 1 by omega) with rfl | rfl
  · exact ⟨h0, hp1, rfl⟩
  · exact ⟨h1, hq1, hpq.symm⟩
set_option maxHeartbeats 600000 in
set_option maxRecDepth 100000 in
theorem l_M_reach {K : KC} {M : MC} {o : Nat → Int64} {nc ns : Nat} {d cs kk k : Nat} (hS : wfS M) (hC : wfC M) (hP : wfP M) (hK : wfK M cs kk) (hk : k < kk) {post : mj_O → mj_H → Prop} (k1 : ∀ N', coR N' = coR M → REACH M cs k → post (.inl (some (.int 1))) (hp K N' o, nc, ns)) (k0 : ∀ N', coR N' = coR M → ¬ REACH M cs k → post (.inl (some (.int 0))) (hp K N' o, nc, ns)) : ∀ (q i : Nat) (N : MC), i ≤ k → k < i + q → coR N = coR M → N.1 9 = nI 1 → N.2 60 0 = nI (cl M k) → N.1 10 = nI k → (∀ c, c < i → N.2 61 c = nI (cl M c)) → mj_G y_M_reaches b_M_reaches 3 (some .boolean) [] (d + 15) none 24 [(2, .int (nI i)), (0, .ref 38), (1, .int (nI k))] [] (hp K N o, nc, ns) post := by
  obtain ⟨e4, hk8, e5, hcs, hcl⟩ := hK
  intro q
  induction q with
  | zero => intro i N h1 h2; omega
  | succ q ih =>
    intro i N h1 h2 hc h9 h60 h10 h61
    refine G_iload_n 0 d_M_reaches_24 rfl ?_
    refine G_iload_n 2 d_M_reaches_25 rfl ?_
    refine G_icge 47 d_M_reaches_26 (by decide) (fun h26 => ?_) (fun h26 => ?_)
    · have h26 := (nI_leI (by omega) (by omega)).mp h26
      refine G_aload_n 1 d_M_reaches_47 rfl ?_
      refine G_aload_n 1 d_M_reaches_48 rfl ?_
      refine G_gt d_M_reaches_49 fr_M_110 (rd_M_clauseSort K N o) ?_
      rw [show N.1 5 = nI cs from (cR_of (fun Q => Q.1 5) (fun _ => rfl) hc).trans e5]
      refine G_cvp (fun a9 A9 => ∃ N' : MC, A9 = (hp K N' o, nc, ns) ∧ (coR N' = coR M) ∧ ((a9 = some (.int 1) ∧ (HASL M cs ((List.range 1).map (fun _ => cl M k)) ((List.range k).map (cl M)))) ∨ (a9 = some (.int 0) ∧ ¬ (HASL M cs ((List.range 1).map (fun _ => cl M k)) ((List.range k).map (cl M)))))) (As := [.int (nI cs)]) d_M_reaches_52 cv_M_162 cw_M_has (ob_M K N o) np_M_has (Nat.le_of_ble_eq_true rfl) (Nat.le_of_ble_eq_true rfl) (fun post2 kq => c_has2 (N := N) (f := fun _ => cl M k) (g := cl M) hS hC hP hc hcs h9 (by omega) h10 (by omega) (fun c hc2 => ⟨by rw [show c = 0 by omega]; exact h60, (hcl k hk).2⟩) (fun c hc2 => ⟨h61 c (by omega), (hcl c (by omega)).2⟩) (fun N9 g1 g2 => kq _ _ ⟨N9, rfl, g1, Or.inl ⟨rfl, g2⟩⟩) (fun N9 g1 g2 => kq _ _ ⟨N9, rfl, g1, Or.inr ⟨rfl, g2⟩⟩)) (fun a9 A9 h9 => by obtain ⟨N9, rfl, -⟩ := h9; rfl) (fun a9 A9 h9 => ?_)
      obtain ⟨N', rfl, hc52, ⟨rfl, u52⟩ | ⟨rfl, u52⟩⟩ := h9
      · exact G_zret d_M_reaches_55 rfl rfl (k1 N' hc52 u52)
      · exact G_zret d_M_reaches_55 rfl rfl (k0 N' hc52 u52)
    · have h26 : ¬ _ := fun z => h26 ((nI_leI (by omega) (by omega)).mpr z)
      refine G_aload_n 1 d_M_reaches_29 rfl ?_
      refine G_gt d_M_reaches_30 fr_M_81 (rd_M_never K N o) ?_
      refine G_iload_n 0 d_M_reaches_33 rfl ?_
      refine G_aload_n 1 d_M_reaches_34 rfl ?_
      refine G_gt d_M_reaches_35 fr_M_44 (rd_M_clause K N o) ?_
      refine G_iload_n 0 d_M_reaches_38 rfl ?_
      refine G_ialN d_M_reaches_39 (ar_49 K N o) (by decide) (by omega) ?_
      rw [show N.2 49 i = nI (cl M i) from (congrFun (cR_of (fun Q => Q.2 49) (fun _ => rfl) hc) i).trans (hcl i (by omega)).1]
      refine G_iasN d_M_reaches_40 (ar_61 K N o) (by decide) (by omega) (aw_61 K N o i (nI (cl M i))) ?_
      refine G_iinc 0 (v := nI (i + 1)) (ls' := [(2, .int (nI (i + 1))), (0, .ref 38), (1, .int (nI k))]) d_M_reaches_41 rfl (nI_1 _) (by decide) rfl ?_
      refine G_goto 24 d_M_reaches_44 (by decide) ?_
      exact ih (i + 1) _ (by omega) (by omega) ((cR_ma (by omega)).trans hc) h9 h60 h10 (fun c hc2 => (Nat.lt_succ_iff_lt_or_eq.mp hc2).elim (fun z => (ma_old (by omega)).trans (h61 c z)) (fun z => by subst z; exact pk_us))
set_option maxHeartbeats 600000 in
set_option maxRecDepth 100000 in
theorem c_M_reaches {K : KC} {M : MC} {o : Nat → Int64} {nc ns : Nat} {d cs kk k : Nat} (hS : wfS M) (hC : wfC M) (hP : wfP M) (hK : wfK M cs kk) (hk : k < kk) {post : mj_O → mj_H → Prop} (k1 : ∀ N', coR N' = coR M → REACH M cs k → post (.inl (some (.int 1))) (hp K N' o, nc, ns)) (k0 : ∀ N', coR N' = coR M → ¬ REACH M cs k → post (.inl (some (.int 0))) (hp K N' o, nc, ns)) : mj_G y_M_reaches b_M_reaches 3 (some .boolean) [] (d + 15) none 0 [(0, .ref 38), (1, .int (nI k))] [] (hp K M o, nc, ns) post := by
  obtain ⟨e4, hk8, e5, hcs, hcl⟩ := id hK
  refine G_aload_n 0 d_M_reaches_0 rfl ?_
  refine G_iconst (v := nI 1) d_M_reaches_1 (by decide) ?_
  refine G_pt d_M_reaches_2 fp_M_143 (wr_M_musts K M o (nI 1)) ?_
  refine G_aload_n 0 d_M_reaches_5 rfl ?_
  refine G_gt d_M_reaches_6 fr_M_78 (rd_M_must K (mi M 9 (nI 1)) o) ?_
  refine G_iconst (v := nI 0) d_M_reaches_9 (by decide) ?_
  refine G_aload_n 0 d_M_reaches_10 rfl ?_
  refine G_gt d_M_reaches_11 fr_M_44 (rd_M_clause K (mi M 9 (nI 1)) o) ?_
  refine G_iload_n 1 d_M_reaches_14 rfl ?_
  refine G_ialN d_M_reaches_15 (ar_49 K (mi M 9 (nI 1)) o) (by decide) (by omega) ?_
  rw [show (mi M 9 (nI 1)).2 49 k = nI (cl M k) from (hcl k hk).1]
  refine G_iasN d_M_reaches_16 (ar_60 K (mi M 9 (nI 1)) o) (by decide) (by omega) (aw_60 K (mi M 9 (nI 1)) o 0 (nI (cl M k))) ?_
  refine G_aload_n 0 d_M_reaches_17 rfl ?_
  refine G_iload_n 1 d_M_reaches_18 rfl ?_
  refine G_pt d_M_reaches_19 fp_M_146 (wr_M_nevers K (ma (mi M 9 (nI 1)) 60 0 (nI (cl M k))) o (nI k)) ?_
  refine G_iconst (v := nI 0) d_M_reaches_22 (by decide) ?_
  refine G_istore_n (ls' := [(2, .int (nI 0)), (0, .ref 38), (1, .int (nI k))]) d_M_reaches_23 (by decide) rfl ?_
  exact l_M_reach hS hC hP hK hk k1 k0 (k + 1) 0 (mi (ma (mi M 9 (nI 1)) 60 0 (nI (cl M k))) 10 (nI k)) (by omega) (by omega) ((cR_mi (by omega)).trans ((cR_ma (by omega)).trans (cR_mi (by omega)))) rfl (by simp [ma, mi, va_up, upd]) rfl (fun c hc => absurd hc (Nat.not_lt_zero c))
set_option maxHeartbeats 600000 in
set_option maxRecDepth 100000 in
theorem c_M_takes {K : KC} {M : MC} {o : Nat → Int64} {nc ns : Nat} {d cs kk : Nat} (x : Int32) (hS : wfS M) (hC : wfC M) (hP : wfP M) (hK : wfK M cs kk) {post : mj_O → mj_H → Prop} (kn : (x < 0 ∨ nI kk ≤ x) → post (.inl (some (.int 0))) (hp K (mi M 0 1) o, nc, ns)) (k1 : ∀ k, k < kk → x = nI k → ∀ N', coR N' = coR (mi M 0 0) → REACH (mi M 0 0) cs k → post (.inl (some (.int 1))) (hp K N' o, nc, ns)) (k0 : ∀ k, k < kk → x = nI k → ∀ N', coR N' = coR (mi M 0 0) → ¬ REACH (mi M 0 0) cs k → post (.inl (some (.int 0))) (hp K N' o, nc, ns)) : mj_G y_M_takes b_M_takes 2 (some .boolean) [] (d + 16) none 0 [(0, .ref 38), (1, .int x)] [] (hp K M o, nc, ns) post := by
  have hk8 := hK.2.1
  refine G_aload_n 0 d_M_takes_0 rfl ?_
  refine G_iload_n 1 d_M_takes_1 rfl ?_
  refine G_iflt 17 d_M_takes_2 (by decide) (fun h2 => ?_) (fun h2 => ?_)
  · refine G_iconst (v := 1) d_M_takes_17 (by decide) ?_
    refine G_pt d_M_takes_18 fp_M_87 (wr_M_thrown K M o 1) ?_
    refine G_aload_n 0 d_M_takes_21 rfl ?_
    refine G_gt d_M_takes_22 fr_M_87 (rd_M_thrown K (mi M 0 1) o) ?_
    rw [show (mi M 0 1).1 0 = 1 from rfl]
    refine G_ifne 40 d_M_takes_25 (by decide) (fun _ => ?_) (fun h => absurd h (by decide))
    refine G_iconst (v := 0) d_M_takes_40 (by decide) ?_
    exact G_zret d_M_takes_41 rfl rfl (kn (Or.inl h2))
  · refine G_iload_n 1 d_M_takes_5 rfl ?_
    refine G_aload_n 0 d_M_takes_6 rfl ?_
    refine G_gt d_M_takes_7 fr_M_107 (rd_M_clauses K M o) ?_
    rw [show M.1 4 = nI kk from hK.1]
    refine G_icge 17 d_M_takes_10 (by decide) (fun h10 => ?_) (fun h10 => ?_)
    · refine G_iconst (v := 1) d_M_takes_17 (by decide) ?_
      refine G_pt d_M_takes_18 fp_M_87 (wr_M_thrown K M o 1) ?_
      refine G_aload_n 0 d_M_takes_21 rfl ?_
      refine G_gt d_M_takes_22 fr_M_87 (rd_M_thrown K (mi M 0 1) o) ?_
      rw [show (mi M 0 1).1 0 = 1 from rfl]
      refine G_ifne 40 d_M_takes_25 (by decide) (fun _ => ?_) (fun h => absurd h (by decide))
      refine G_iconst (v := 0) d_M_takes_40 (by decide) ?_
      exact G_zret d_M_takes_41 rfl rfl (kn (Or.inr h10))
    · obtain ⟨k, hk, rfl⟩ := ix_of (n := kk) (by omega) ⟨Int32.not_lt.mp h2, Int32.not_le.mp h10⟩
      refine G_iconst (v := 0) d_M_takes_13 (by decide) ?_
      refine G_goto 18 d_M_takes_14 (by decide) ?_
      refine G_pt d_M_takes_18 fp_M_87 (wr_M_thrown K M o 0) ?_
      refine G_aload_n 0 d_M_takes_21 rfl ?_
      refine G_gt d_M_takes_22 fr_M_87 (rd_M_thrown K (mi M 0 0) o) ?_
      rw [show (mi M 0 0).1 0 = 0 from rfl]
      refine G_ifne 40 d_M_takes_25 (by decide) (fun h => absurd h (by decide)) (fun _ => ?_)
      refine G_aload_n 0 d_M_takes_28 rfl ?_
      refine G_iload_n 1 d_M_takes_29 rfl ?_
      refine G_cvp (fun a9 A9 => ∃ N' : MC, A9 = (hp K N' o, nc, ns) ∧ (coR N' = coR (mi M 0 0)) ∧ ((a9 = some (.int 1) ∧ (REACH (mi M 0 0) cs k)) ∨ (a9 = some (.int 0) ∧ ¬ (REACH (mi M 0 0) cs k)))) (As := [.int (nI k)]) d_M_takes_30 cv_M_165 cw_M_reaches (ob_M K (mi M 0 0) o) np_M_reaches (Nat.le_of_ble_eq_true rfl) (Nat.le_of_ble_eq_true rfl) (fun post2 kq => c_M_reaches (M := mi M 0 0) (wf0S hS) (wf0C hC) (wf0P hP) (wf0K hK) hk (fun N9 g1 g2 => kq _ _ ⟨N9, rfl, g1, Or.inl ⟨rfl, g2⟩⟩) (fun N9 g1 g2 => kq _ _ ⟨N9, rfl, g1, Or.inr ⟨rfl, g2⟩⟩)) (fun a9 A9 h9 => by obtain ⟨N9, rfl, -⟩ := h9; rfl) (fun a9 A9 h9 => ?_)
      obtain ⟨N', rfl, hc30, ⟨rfl, u30⟩ | ⟨rfl, u30⟩⟩ := h9
      · refine G_ifeq 40 d_M_takes_33 (by decide) (fun h => absurd h (by decide)) (fun _ => ?_)
        refine G_iconst (v := 1) d_M_takes_36 (by decide) ?_
        refine G_goto 41 d_M_takes_37 (by decide) ?_
        exact G_zret d_M_takes_41 rfl rfl (k1 k hk rfl N' hc30 u30)
      · refine G_ifeq 40 d_M_takes_33 (by decide) (fun _ => ?_) (fun h => absurd h (by decide))
        refine G_iconst (v := 0) d_M_takes_40 (by decide) ?_
        exact G_zret d_M_takes_41 rfl rfl (k0 k hk rfl N' hc30 u30)
set_option maxHeartbeats 600000 in
set_option maxRecDepth 100000 in
theorem l_M_open {K : KC} {M : MC} {o : Nat → Int64} {nc ns : Nat} {d cs k : Nat} (hS : wfS M) (hC : wfC M) (hP : wfP M) (hK : wfK M cs k) {post : mj_O → mj_H → Prop} (k1 : ∀ N', coR N' = coR M → OPENS M cs k → post (.inl (some (.int 1))) (hp K N' o, nc, ns)) (k0 : ∀ N', coR N' = coR M → ¬ OPENS M cs k → post (.inl (some (.int 0))) (hp K N' o, nc, ns)) : ∀ (q i : Nat) (N : MC), i ≤ k → k < i + q → coR N = coR M → N.1 9 = nI 0 → N.1 10 = nI k → (∀ c, c < i → N.2 61 c = nI (cl M c)) → mj_G y_M_open b_M_open 2 (some .boolean) [] (d + 15) none 20 [(1, .int (nI i)), (0, .ref 38)] [] (hp K N o, nc, ns) post := by
  obtain ⟨e4, hk8, e5, hcs, hcl⟩ := hK
  intro q
  induction q with
  | zero => intro i N h1 h2; omega
  | succ q ih =>
    intro i N h1 h2 hc h9 h10 h61
    refine G_iload_n 0 d_M_open_20 rfl ?_
    refine G_aload_n 1 d_M_open_21 rfl ?_
    refine G_gt d_M_open_22 fr_M_107 (rd_M_clauses K N o) ?_
    rw [show N.1 4 = nI k from (cR_of (fun Q => Q.1 4) (fun _ => rfl) hc).trans e4]
    refine G_icge 46 d_M_open_25 (by decide) (fun h25 => ?_) (fun h25 => ?_)
    · have h25 := (nI_leI (by omega) (by omega)).mp h25
      refine G_aload_n 1 d_M_open_46 rfl ?_
      refine G_aload_n 1 d_M_open_47 rfl ?_
      refine G_gt d_M_open_48 fr_M_110 (rd_M_clauseSort K N o) ?_
      rw [show N.1 5 = nI cs from (cR_of (fun Q => Q.1 5) (fun _ => rfl) hc).trans e5]
      refine G_cvp (fun a9 A9 => ∃ N' : MC, A9 = (hp K N' o, nc, ns) ∧ (coR N' = coR M) ∧ ((a9 = some (.int 1) ∧ (HASL M cs ((List.range 0).map (fun _ => 0)) ((List.range k).map (cl M)))) ∨ (a9 = some (.int 0) ∧ ¬ (HASL M cs ((List.range 0).map (fun _ => 0)) ((List.range k).map (cl M)))))) (As := [.int (nI cs)]) d_M_open_51 cv_M_162 cw_M_has (ob_M K N o) np_M_has (Nat.le_of_ble_eq_true rfl) (Nat.le_of_ble_eq_true rfl) (fun post2 kq => c_has2 (N := N) (f := fun _ => 0) (g := cl M) hS hC hP hc hcs h9 (by omega) h10 (by omega) (fun c hc2 => absurd hc2 (Nat.not_lt_zero c)) (fun c hc2 => ⟨h61 c (by omega), (hcl c (by omega)).2⟩) (fun N9 g1 g2 => kq _ _ ⟨N9, rfl, g1, Or.inl ⟨rfl, g2⟩⟩) (fun N9 g1 g2 => kq _ _ ⟨N9, rfl, g1, Or.inr ⟨rfl, g2⟩⟩)) (fun a9 A9 h9 => by obtain ⟨N9, rfl, -⟩ := h9; rfl) (fun a9 A9 h9 => ?_)
      obtain ⟨N', rfl, hc51, ⟨rfl, u51⟩ | ⟨rfl, u51⟩⟩ := h9
      · exact G_zret d_M_open_54 rfl rfl (k1 N' hc51 u51)
      · exact G_zret d_M_open_54 rfl rfl (k0 N' hc51 u51)
    · have h25 : ¬ _ := fun z => h25 ((nI_leI (by omega) (by omega)).mpr z)
      refine G_aload_n 1 d_M_open_28 rfl ?_
      refine G_gt d_M_open_29 fr_M_81 (rd_M_never K N o) ?_
      refine G_iload_n 0 d_M_open_32 rfl ?_
      refine G_aload_n 1 d_M_open_33 rfl ?_
      refine G_gt d_M_open_34 fr_M_44 (rd_M_clause K N o) ?_
      refine G_iload_n 0 d_M_open_37 rfl ?_
      refine G_ialN d_M_open_38 (ar_49 K N o) (by decide) (by omega) ?_
      rw [show N.2 49 i = nI (cl M i) from (congrFun (cR_of (fun Q => Q.2 49) (fun _ => rfl) hc) i).trans (hcl i (by omega)).1]
      refine G_iasN d_M_open_39 (ar_61 K N o) (by decide) (by omega) (aw_61 K N o i (nI (cl M i))) ?_
      refine G_iinc 0 (v := nI (i + 1)) (ls' := [(1, .int (nI (i + 1))), (0, .ref 38)]) d_M_open_40 rfl (nI_1 _) (by decide) rfl ?_
      refine G_goto 20 d_M_open_43 (by decide) ?_
      exact ih (i + 1) _ (by omega) (by omega) ((cR_ma (by omega)).trans hc) h9 h10 (fun c hc2 => (Nat.lt_succ_iff_lt_or_eq.mp hc2).elim (fun z => (ma_old (by omega)).trans (h61 c z)) (fun z => by subst z; exact pk_us))
set_option maxHeartbeats 600000 in
set_option maxRecDepth 100000 in
theorem c_M_open {K : KC} {M : MC} {o : Nat → Int64} {nc ns : Nat} {d cs k : Nat} (hS : wfS M) (hC : wfC M) (hP : wfP M) (hK : wfK M cs k) {post : mj_O → mj_H → Prop} (k1 : ∀ N', coR N' = coR (mi M 0 0) → OPENS (mi M 0 0) cs k → post (.inl (some (.int 1))) (hp K N' o, nc, ns)) (k0 : ∀ N', coR N' = coR (mi M 0 0) → ¬ OPENS (mi M 0 0) cs k → post (.inl (some (.int 0))) (hp K N' o, nc, ns)) : mj_G y_M_open b_M_open 2 (some .boolean) [] (d + 15) none 0 [(0, .ref 38)] [] (hp K M o, nc, ns) post := by
  refine G_aload_n 0 d_M_open_0 rfl ?_
  refine G_iconst (v := 0) d_M_open_1 (by decide) ?_
  refine G_pt d_M_open_2 fp_M_87 (wr_M_thrown K M o 0) ?_
  refine G_aload_n 0 d_M_open_5 rfl ?_
  refine G_iconst (v := nI 0) d_M_open_6 (by decide) ?_
  refine G_pt d_M_open_7 fp_M_143 (wr_M_musts K (mi M 0 0) o (nI 0)) ?_
  refine G_aload_n 0 d_M_open_10 rfl ?_
  refine G_aload_n 0 d_M_open_11 rfl ?_
  refine G_gt d_M_open_12 fr_M_107 (rd_M_clauses K (mi (mi M 0 0) 9 (nI 0)) o) ?_
  rw [show (mi (mi M 0 0) 9 (nI 0)).1 4 = nI k from hK.1]
  refine G_pt d_M_open_15 fp_M_146 (wr_M_nevers K (mi (mi M 0 0) 9 (nI 0)) o (nI k)) ?_
  refine G_iconst (v := nI 0) d_M_open_18 (by decide) ?_
  refine G_istore_n (ls' := [(1, .int (nI 0)), (0, .ref 38)]) d_M_open_19 (by decide) rfl ?_
  exact l_M_open (M := mi M 0 0) (wf0S hS) (wf0C hC) (wf0P hP) (wf0K hK) k1 k0 (k + 1) 0 (mi (mi (mi M 0 0) 9 (nI 0)) 10 (nI k)) (by omega) (by omega) ((cR_mi (by omega)).trans (cR_mi (by omega))) rfl rfl (fun c hc => absurd hc (Nat.not_lt_zero c))
def COVQ (M : MC) (p q : Nat) : Prop := HASL M (ps M p) ((List.range 1).map (fun _ => q)) ((List.range 1).map (fun _ => p))
set_option maxHeartbeats 600000 in
set_option maxRecDepth 100000 in
theorem c_M_covers {K : KC} {M : MC} {o : Nat → Int64} {nc ns : Nat} {d : Nat} (x1 x2 : Int32) (hS : wfS M) (hC : wfC M) (hP : wfP M) {post : mj_O → mj_H → Prop} (kn : ¬ aL M x1 x2 → post (.inl (some (.int 0))) (hp K (mi M 0 1) o, nc, ns)) (k0 : ∀ p q, p < mP M → q < mP M → x1 = nI p → x2 = nI q → ps M p = ps M q → ∀ N', coR N' = coR (mi M 0 0) → COVQ (mi M 0 0) p q → post (.inl (some (.int 0))) (hp K N' o, nc, ns)) (k1 : ∀ p q, p < mP M → q < mP M → x1 = nI p → x2 = nI q → ps M p = ps M q → ∀ N', coR N' = coR (mi M 0 0) → ¬ COVQ (mi M 0 0) p q → post (.inl (some (.int 1))) (hp K N' o, nc, ns)) : mj_G y_M_covers b_M_covers 3 (some .boolean) [] (d + 15) none 0 [(0, .ref 38), (1, .int x1), (2, .int x2)] [] (hp K M o, nc, ns) post := by
  refine G_aload_n 0 d_M_covers_0 rfl ?_
  refine G_aload_n 0 d_M_covers_1 rfl ?_
  refine G_iload_n 1 d_M_covers_2 rfl ?_
  refine G_iload_n 2 d_M_covers_3 rfl ?_
  refine G_cvB (aL M x1 x2) (As := [.int x1, .int x2]) d_M_covers_4 cv_M_168 cw_M_areLike (ob_M K M o) np_M_areLike (Nat.le_of_ble_eq_true rfl) (Nat.le_of_ble_eq_true rfl) (fun post2 k1 k0 => c_M_areLike x1 x2 hP k1 k0) (fun u4 => ?_) (fun u4 => ?_)
  · obtain ⟨p, hp1, rfl⟩ := iP_of hP u4.1
    obtain ⟨q, hq1, rfl⟩ := iP_of hP u4.2.1
    have q200 := hP.2.1
    have hpq : ps M p = ps M q := by have z := u4.2.2; rw [nI_clamp (by omega), nI_clamp (by omega)] at z; exact congrArg Int32.toNatClampNeg z
    have hsp := (hP.2.2 p hp1).2.1
    refine G_ifeq 14 d_M_covers_7 (by decide) (fun h => absurd h (by decide)) (fun _ => ?_)
    refine G_iconst (v := 0) d_M_covers_10 (by decide) ?_
    refine G_goto 15 d_M_covers_11 (by decide) ?_
    refine G_pt d_M_covers_15 fp_M_87 (wr_M_thrown K M o 0) ?_
    refine G_aload_n 0 d_M_covers_18 rfl ?_
    refine G_gt d_M_covers_19 fr_M_87 (rd_M_thrown K (mi M 0 0) o) ?_
    rw [show (mi M 0 0).1 0 = 0 from rfl]
    refine G_ifle 27 d_M_covers_22 (by decide) (fun _ => ?_) (fun h => absurd h (by decide))
    refine G_aload_n 0 d_M_covers_27 rfl ?_
    refine G_iconst (v := nI 1) d_M_covers_28 (by decide) ?_
    refine G_pt d_M_covers_29 fp_M_143 (wr_M_musts K (mi M 0 0) o (nI 1)) ?_
    refine G_aload_n 0 d_M_covers_32 rfl ?_
    refine G_gt d_M_covers_33 fr_M_78 (rd_M_must K (mi (mi M 0 0) 9 (nI 1)) o) ?_
    refine G_iconst (v := nI 0) d_M_covers_36 (by decide) ?_
    refine G_iload_n 2 d_M_covers_37 rfl ?_
    refine G_iasN d_M_covers_38 (ar_60 K (mi (mi M 0 0) 9 (nI 1)) o) (by decide) (by omega) (aw_60 K (mi (mi M 0 0) 9 (nI 1)) o 0 (nI q)) ?_
    refine G_aload_n 0 d_M_covers_39 rfl ?_
    refine G_iconst (v := nI 1) d_M_covers_40 (by decide) ?_
    refine G_pt d_M_covers_41 fp_M_146 (wr_M_nevers K (ma (mi (mi M 0 0) 9 (nI 1)) 60 0 (nI q)) o (nI 1)) ?_
    refine G_aload_n 0 d_M_covers_44 rfl ?_
    refine G_gt d_M_covers_45 fr_M_81 (rd_M_never K (mi (ma (mi (mi M 0 0) 9 (nI 1)) 60 0 (nI q)) 10 (nI 1)) o) ?_
    refine G_iconst (v := nI 0) d_M_covers_48 (by decide) ?_
    refine G_iload_n 1 d_M_covers_49 rfl ?_
    refine G_iasN d_M_covers_50 (ar_61 K (mi (ma (mi (mi M 0 0) 9 (nI 1)) 60 0 (nI q)) 10 (nI 1)) o) (by decide) (by omega) (aw_61 K (mi (ma (mi (mi M 0 0) 9 (nI 1)) 60 0 (nI q)) 10 (nI 1)) o 0 (nI p)) ?_
    refine G_aload_n 0 d_M_covers_51 rfl ?_
    refine G_aload_n 0 d_M_covers_52 rfl ?_
    refine G_gt d_M_covers_53 fr_M_29 (rd_M_sortOf K (ma (mi (ma (mi (mi M 0 0) 9 (nI 1)) 60 0 (nI q)) 10 (nI 1)) 61 0 (nI p)) o) ?_
    refine G_iload_n 1 d_M_covers_56 rfl ?_
    refine G_ialN d_M_covers_57 (ar_44 K (ma (mi (ma (mi (mi M 0 0) 9 (nI 1)) 60 0 (nI q)) 10 (nI 1)) 61 0 (nI p)) o) (by decide) (by omega) ?_
    rw [show (ma (mi (ma (mi (mi M 0 0) 9 (nI 1)) 60 0 (nI q)) 10 (nI 1)) 61 0 (nI p)).2 44 p = nI (ps M p) from hsp.1]
    refine G_cvp (fun a9 A9 => ∃ N' : MC, A9 = (hp K N' o, nc, ns) ∧ (coR N' = coR (mi M 0 0)) ∧ ((a9 = some (.int 1) ∧ (COVQ (mi M 0 0) p q)) ∨ (a9 = some (.int 0) ∧ ¬ (COVQ (mi M 0 0) p q)))) (As := [.int (nI (ps M p))]) d_M_covers_58 cv_M_162 cw_M_has (ob_M K (ma (mi (ma (mi (mi M 0 0) 9 (nI 1)) 60 0 (nI q)) 10 (nI 1)) 61 0 (nI p)) o) np_M_has (Nat.le_of_ble_eq_true rfl) (Nat.le_of_ble_eq_true rfl) (fun post2 kq => c_has2 (M := mi M 0 0) (N := ma (mi (ma (mi (mi M 0 0) 9 (nI 1)) 60 0 (nI q)) 10 (nI 1)) 61 0 (nI p)) (f := fun _ => q) (g := fun _ => p) (wf0S hS) (wf0C hC) (wf0P hP) ((cR_ma (by omega)).trans ((cR_mi (by omega)).trans ((cR_ma (by omega)).trans (cR_mi (by omega))))) hsp.2 rfl (by omega) rfl (by omega) (fun c hc2 => ⟨by rw [show c = 0 by omega]; rfl, hq1, hpq.symm⟩) (fun c hc2 => ⟨by rw [show c = 0 by omega]; rfl, hp1, rfl⟩) (fun N9 g1 g2 => kq _ _ ⟨N9, rfl, g1, Or.inl ⟨rfl, g2⟩⟩) (fun N9 g1 g2 => kq _ _ ⟨N9, rfl, g1, Or.inr ⟨rfl, g2⟩⟩)) (fun a9 A9 h9 => by obtain ⟨N9, rfl, -⟩ := h9; rfl) (fun a9 A9 h9 => ?_)
    obtain ⟨N', rfl, hc58, ⟨rfl, u58⟩ | ⟨rfl, u58⟩⟩ := h9
    · refine G_ifne 68 d_M_covers_61 (by decide) (fun _ => ?_) (fun h => absurd h (by decide))
      refine G_iconst (v := 0) d_M_covers_68 (by decide) ?_
      exact G_zret d_M_covers_69 rfl rfl (k0 p q hp1 hq1 rfl rfl hpq N' hc58 u58)
    · refine G_ifne 68 d_M_covers_61 (by decide) (fun h => absurd h (by decide)) (fun _ => ?_)
      refine G_iconst (v := 1) d_M_covers_64 (by decide) ?_
      refine G_goto 69 d_M_covers_65 (by decide) ?_
      exact G_zret d_M_covers_69 rfl rfl (k1 p q hp1 hq1 rfl rfl hpq N' hc58 u58)
  · refine G_ifeq 14 d_M_covers_7 (by decide) (fun _ => ?_) (fun h => absurd h (by decide))
    refine G_iconst (v := 1) d_M_covers_14 (by decide) ?_
    refine G_pt d_M_covers_15 fp_M_87 (wr_M_thrown K M o 1) ?_
    refine G_aload_n 0 d_M_covers_18 rfl ?_
    refine G_gt d_M_covers_19 fr_M_87 (rd_M_thrown K (mi M 0 1) o) ?_
    rw [show (mi M 0 1).1 0 = 1 from rfl]
    refine G_ifle 27 d_M_covers_22 (by decide) (fun h => absurd h (by decide)) (fun _ => ?_)
    refine G_iconst (v := 0) d_M_covers_25 (by decide) ?_
    exact G_zret d_M_covers_26 rfl rfl (kn u4)
def MEETQ (M : MC) (p q : Nat) : Prop := HASL M (ps M p) ((List.range 2).map (fun i => if i = 0 then p else q)) ((List.range 0).map (fun _ => 0))
set_option maxHeartbeats 600000 in
set_option maxRecDepth 100000 in
theorem c_M_meets {K : KC} {M : MC} {o : Nat → Int64} {nc ns : Nat} {d : Nat} (x1 x2 : Int32) (hS : wfS M) (hC : wfC M) (hP : wfP M) {post : mj_O → mj_H → Prop} (kn : ¬ aL M x1 x2 → post (.inl (some (.int 0))) (hp K (mi M 0 1) o, nc, ns)) (k1 : ∀ p q, p < mP M → q < mP M → x1 = nI p → x2 = nI q → ps M p = ps M q → ∀ N', coR N' = coR (mi M 0 0) → MEETQ (mi M 0 0) p q → post (.inl (some (.int 1))) (hp K N' o, nc, ns)) (k0 : ∀ p q, p < mP M → q < mP M → x1 = nI p → x2 = nI q → ps M p = ps M q → ∀ N', coR N' = coR (mi M 0 0) → ¬ MEETQ (mi M 0 0) p q → post (.inl (some (.int 0))) (hp K N' o, nc, ns)) : mj_G y_M_meets b_M_meets 3 (some .boolean) [] (d + 15) none 0 [(0, .ref 38), (1, .int x1), (2, .int x2)] [] (hp K M o, nc, ns) post := by
  refine G_aload_n 0 d_M_meets_0 rfl ?_
  refine G_aload_n 0 d_M_meets_1 rfl ?_
  refine G_iload_n 1 d_M_meets_2 rfl ?_
  refine G_iload_n 2 d_M_meets_3 rfl ?_
  refine G_cvB (aL M x1 x2) (As := [.int x1, .int x2]) d_M_meets_4 cv_M_168 cw_M_areLike (ob_M K M o) np_M_areLike (Nat.le_of_ble_eq_true rfl) (Nat.le_of_ble_eq_true rfl) (fun post2 k1 k0 => c_M_areLike x1 x2 hP k1 k0) (fun u4 => ?_) (fun u4 => ?_)
  · obtain ⟨p, hp1, rfl⟩ := iP_of hP u4.1
    obtain ⟨q, hq1, rfl⟩ := iP_of hP u4.2.1
    have q200 := hP.2.1
    have hpq : ps M p = ps M q := by have z := u4.2.2; rw [nI_clamp (by omega), nI_clamp (by omega)] at z; exact congrArg Int32.toNatClampNeg z
    have hsp := (hP.2.2 p hp1).2.1
    refine G_ifeq 14 d_M_meets_7 (by decide) (fun h => absurd h (by decide)) (fun _ => ?_)
    refine G_iconst (v := 0) d_M_meets_10 (by decide) ?_
    refine G_goto 15 d_M_meets_11 (by decide) ?_
    refine G_pt d_M_meets_15 fp_M_87 (wr_M_thrown K M o 0) ?_
    refine G_aload_n 0 d_M_meets_18 rfl ?_
    refine G_gt d_M_meets_19 fr_M_87 (rd_M_thrown K (mi M 0 0) o) ?_
    rw [show (mi M 0 0).1 0 = 0 from rfl]
    refine G_ifle 27 d_M_meets_22 (by decide) (fun _ => ?_) (fun h => absurd h (by decide))
    refine G_aload_n 0 d_M_meets_27 rfl ?_
    refine G_iconst (v := nI 2) d_M_meets_28 (by decide) ?_
    refine G_pt d_M_meets_29 fp_M_143 (wr_M_musts K (mi M 0 0) o (nI 2)) ?_
    refine G_aload_n 0 d_M_meets_32 rfl ?_
    refine G_gt d_M_meets_33 fr_M_78 (rd_M_must K (mi (mi M 0 0) 9 (nI 2)) o) ?_
    refine G_iconst (v := nI 0) d_M_meets_36 (by decide) ?_
    refine G_iload_n 1 d_M_meets_37 rfl ?_
    refine G_iasN d_M_meets_38 (ar_60 K (mi (mi M 0 0) 9 (nI 2)) o) (by decide) (by omega) (aw_60 K (mi (mi M 0 0) 9 (nI 2)) o 0 (nI p)) ?_
    refine G_aload_n 0 d_M_meets_39 rfl ?_
    refine G_gt d_M_meets_40 fr_M_78 (rd_M_must K (ma (mi (mi M 0 0) 9 (nI 2)) 60 0 (nI p)) o) ?_
    refine G_iconst (v := nI 1) d_M_meets_43 (by decide) ?_
    refine G_iload_n 2 d_M_meets_44 rfl ?_
    refine G_iasN d_M_meets_45 (ar_60 K (ma (mi (mi M 0 0) 9 (nI 2)) 60 0 (nI p)) o) (by decide) (by omega) (aw_60 K (ma (mi (mi M 0 0) 9 (nI 2)) 60 0 (nI p)) o 1 (nI q)) ?_
    refine G_aload_n 0 d_M_meets_46 rfl ?_
    refine G_iconst (v := nI 0) d_M_meets_47 (by decide) ?_
    refine G_pt d_M_meets_48 fp_M_146 (wr_M_nevers K (ma (ma (mi (mi M 0 0) 9 (nI 2)) 60 0 (nI p)) 60 1 (nI q)) o (nI 0)) ?_
    refine G_aload_n 0 d_M_meets_51 rfl ?_
    refine G_aload_n 0 d_M_meets_52 rfl ?_
    refine G_gt d_M_meets_53 fr_M_29 (rd_M_sortOf K (mi (ma (ma (mi (mi M 0 0) 9 (nI 2)) 60 0 (nI p)) 60 1 (nI q)) 10 (nI 0)) o) ?_
    refine G_iload_n 1 d_M_meets_56 rfl ?_
    refine G_ialN d_M_meets_57 (ar_44 K (mi (ma (ma (mi (mi M 0 0) 9 (nI 2)) 60 0 (nI p)) 60 1 (nI q)) 10 (nI 0)) o) (by decide) (by omega) ?_
    rw [show (mi (ma (ma (mi (mi M 0 0) 9 (nI 2)) 60 0 (nI p)) 60 1 (nI q)) 10 (nI 0)).2 44 p = nI (ps M p) from hsp.1]
    refine G_cvp (fun a9 A9 => ∃ N' : MC, A9 = (hp K N' o, nc, ns) ∧ (coR N' = coR (mi M 0 0)) ∧ ((a9 = some (.int 1) ∧ (MEETQ (mi M 0 0) p q)) ∨ (a9 = some (.int 0) ∧ ¬ (MEETQ (mi M 0 0) p q)))) (As := [.int (nI (ps M p))]) d_M_meets_58 cv_M_162 cw_M_has (ob_M K (mi (ma (ma (mi (mi M 0 0) 9 (nI 2)) 60 0 (nI p)) 60 1 (nI q)) 10 (nI 0)) o) np_M_has (Nat.le_of_ble_eq_true rfl) (Nat.le_of_ble_eq_true rfl) (fun post2 kq => c_has2 (M := mi M 0 0) (N := mi (ma (ma (mi (mi M 0 0) 9 (nI 2)) 60 0 (nI p)) 60 1 (nI q)) 10 (nI 0)) (f := fun i => if i = 0 then p else q) (g := fun _ => 0) (wf0S hS) (wf0C hC) (wf0P hP) ((cR_mi (by omega)).trans ((cR_ma (by omega)).trans ((cR_ma (by omega)).trans (cR_mi (by omega))))) hsp.2 rfl (by omega) rfl (by omega) (meet_f (M := mi M 0 0) (by simp [ma, mi, va_up, upd]) (by simp [ma, mi, va_up, upd]) hp1 hq1 hpq) (fun c hc2 => absurd hc2 (Nat.not_lt_zero c)) (fun N9 g1 g2 => kq _ _ ⟨N9, rfl, g1, Or.inl ⟨rfl, g2⟩⟩) (fun N9 g1 g2 => kq _ _ ⟨N9, rfl, g1, Or.inr ⟨rfl, g2⟩⟩)) (fun a9 A9 h9 => by obtain ⟨N9, rfl, -⟩ := h9; rfl) (fun a9 A9 h9 => ?_)
    obtain ⟨N', rfl, hc58, ⟨rfl, u58⟩ | ⟨rfl, u58⟩⟩ := h9
    · exact G_zret d_M_meets_61 rfl rfl (k1 p q hp1 hq1 rfl rfl hpq N' hc58 u58)
    · exact G_zret d_M_meets_61 rfl rfl (k0 p q hp1 hq1 rfl rfl hpq N' hc58 u58)
  · refine G_ifeq 14 d_M_meets_7 (by decide) (fun _ => ?_) (fun h => absurd h (by decide))
    refine G_iconst (v := 1) d_M_meets_14 (by decide) ?_
    refine G_pt d_M_meets_15 fp_M_87 (wr_M_thrown K M o 1) ?_
    refine G_aload_n 0 d_M_meets_18 rfl ?_
    refine G_gt d_M_meets_19 fr_M_87 (rd_M_thrown K (mi M 0 1) o) ?_
    rw [show (mi M 0 1).1 0 = 1 from rfl]
    refine G_ifle 27 d_M_meets_22 (by decide) (fun h => absurd h (by decide)) (fun _ => ?_)
    refine G_iconst (v := 0) d_M_meets_25 (by decide) ?_
    exact G_zret d_M_meets_26 rfl rfl (kn u4)
end
