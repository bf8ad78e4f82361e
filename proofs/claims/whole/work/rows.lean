section
-- ===== PART A: goes FIRST, ahead of the names: the tables' words, and 'selects' of the private methods out of them =====
/-- a private method of a class that the tables say can be made, by its rows of tables_1 -/
def lw_okq (q : MethodName × Nat) : Prop := (q.1.cls ≠ "java/lang/invoke/MethodHandle" ∧ q.1.cls ≠ "java/lang/invoke/VarHandle") ∧ Cond.instantiable q.1.cls q.2 ∈ tables_1 ∧ Cond.privateMethod q.1 ∈ tables_1 ∧ Cond.instanceMethod q.1 ∈ tables_1
theorem lw_p0 : lw_okq (⟨"ClauseGlass$Sheet", "clear", "(I)V"⟩, 12) := ⟨⟨by decide +kernel, by decide +kernel⟩, List.mem_of_getElem? (i := 97) (by decide +kernel), List.mem_of_getElem? (i := 105) (by decide +kernel), List.mem_of_getElem? (i := 106) (by decide +kernel)⟩
theorem lw_p1 : lw_okq (⟨"ClauseGlass$Sheet", "leavesSome", "()Z"⟩, 12) := ⟨⟨by decide +kernel, by decide +kernel⟩, List.mem_of_getElem? (i := 97) (by decide +kernel), List.mem_of_getElem? (i := 167) (by decide +kernel), List.mem_of_getElem? (i := 168) (by decide +kernel)⟩
theorem lw_p2 : lw_okq (⟨"ClauseGlass$Sorts", "isSortLiving", "(I)Z"⟩, 9) := ⟨⟨by decide +kernel, by decide +kernel⟩, List.mem_of_getElem? (i := 22) (by decide +kernel), List.mem_of_getElem? (i := 171) (by decide +kernel), List.mem_of_getElem? (i := 172) (by decide +kernel)⟩
theorem lw_p3 : lw_okq (⟨"ClauseGlass$Sheet", "escapes", "(IJI)Z"⟩, 12) := ⟨⟨by decide +kernel, by decide +kernel⟩, List.mem_of_getElem? (i := 97) (by decide +kernel), List.mem_of_getElem? (i := 175) (by decide +kernel), List.mem_of_getElem? (i := 176) (by decide +kernel)⟩
theorem lw_p4 : lw_okq (⟨"ClauseGlass$Sheet", "rowWithLeastLeft", "(IJ)I"⟩, 12) := ⟨⟨by decide +kernel, by decide +kernel⟩, List.mem_of_getElem? (i := 97) (by decide +kernel), List.mem_of_getElem? (i := 179) (by decide +kernel), List.mem_of_getElem? (i := 180) (by decide +kernel)⟩
theorem lw_p5 : lw_okq (⟨"ClauseGlass$Sheet", "rowsSilentAt", "(II)I"⟩, 12) := ⟨⟨by decide +kernel, by decide +kernel⟩, List.mem_of_getElem? (i := 97) (by decide +kernel), List.mem_of_getElem? (i := 197) (by decide +kernel), List.mem_of_getElem? (i := 198) (by decide +kernel)⟩
theorem lw_p6 : lw_okq (⟨"ClauseGlass$Sheet", "isAsked", "(II)Z"⟩, 12) := ⟨⟨by decide +kernel, by decide +kernel⟩, List.mem_of_getElem? (i := 97) (by decide +kernel), List.mem_of_getElem? (i := 201) (by decide +kernel), List.mem_of_getElem? (i := 202) (by decide +kernel)⟩
theorem lw_p7 : lw_okq (⟨"ClauseGlass$Sorts", "livingConsOf", "(I)I"⟩, 9) := ⟨⟨by decide +kernel, by decide +kernel⟩, List.mem_of_getElem? (i := 22) (by decide +kernel), List.mem_of_getElem? (i := 205) (by decide +kernel), List.mem_of_getElem? (i := 206) (by decide +kernel)⟩
theorem lw_p8 : lw_okq (⟨"ClauseGlass$Sheet", "consAskedAt", "(II)I"⟩, 12) := ⟨⟨by decide +kernel, by decide +kernel⟩, List.mem_of_getElem? (i := 97) (by decide +kernel), List.mem_of_getElem? (i := 209) (by decide +kernel), List.mem_of_getElem? (i := 210) (by decide +kernel)⟩
theorem lw_p9 : lw_okq (⟨"ClauseGlass$Sheet", "rowsAsking", "(III)I"⟩, 12) := ⟨⟨by decide +kernel, by decide +kernel⟩, List.mem_of_getElem? (i := 97) (by decide +kernel), List.mem_of_getElem? (i := 213) (by decide +kernel), List.mem_of_getElem? (i := 214) (by decide +kernel)⟩
theorem lw_p10 : lw_okq (⟨"ClauseGlass$Sheet", "reachedRows", "()I"⟩, 12) := ⟨⟨by decide +kernel, by decide +kernel⟩, List.mem_of_getElem? (i := 97) (by decide +kernel), List.mem_of_getElem? (i := 221) (by decide +kernel), List.mem_of_getElem? (i := 222) (by decide +kernel)⟩
theorem lw_p11 : lw_okq (⟨"ClauseGlass$Sheet", "reaches", "(I)Z"⟩, 12) := ⟨⟨by decide +kernel, by decide +kernel⟩, List.mem_of_getElem? (i := 97) (by decide +kernel), List.mem_of_getElem? (i := 225) (by decide +kernel), List.mem_of_getElem? (i := 226) (by decide +kernel)⟩
theorem lw_p12 : lw_okq (⟨"ClauseGlass$Sheet", "hasValue", "(I)Z"⟩, 12) := ⟨⟨by decide +kernel, by decide +kernel⟩, List.mem_of_getElem? (i := 97) (by decide +kernel), List.mem_of_getElem? (i := 229) (by decide +kernel), List.mem_of_getElem? (i := 230) (by decide +kernel)⟩
theorem lw_p13 : lw_okq (⟨"ClauseGlass$Sorts", "isConLiving", "(I)Z"⟩, 9) := ⟨⟨by decide +kernel, by decide +kernel⟩, List.mem_of_getElem? (i := 22) (by decide +kernel), List.mem_of_getElem? (i := 233) (by decide +kernel), List.mem_of_getElem? (i := 234) (by decide +kernel)⟩
theorem lw_p14 : lw_okq (⟨"ClauseGlass$Sheet", "rowsBeforeThatAgree", "(I)I"⟩, 12) := ⟨⟨by decide +kernel, by decide +kernel⟩, List.mem_of_getElem? (i := 97) (by decide +kernel), List.mem_of_getElem? (i := 237) (by decide +kernel), List.mem_of_getElem? (i := 238) (by decide +kernel)⟩
theorem lw_p15 : lw_okq (⟨"ClauseGlass$Sheet", "agree", "(II)Z"⟩, 12) := ⟨⟨by decide +kernel, by decide +kernel⟩, List.mem_of_getElem? (i := 97) (by decide +kernel), List.mem_of_getElem? (i := 241) (by decide +kernel), List.mem_of_getElem? (i := 242) (by decide +kernel)⟩
def lw_privs_1 : List (MethodName × Nat) := [(⟨"ClauseGlass$Sheet", "clear", "(I)V"⟩, 12), (⟨"ClauseGlass$Sheet", "leavesSome", "()Z"⟩, 12), (⟨"ClauseGlass$Sorts", "isSortLiving", "(I)Z"⟩, 9), (⟨"ClauseGlass$Sheet", "escapes", "(IJI)Z"⟩, 12), (⟨"ClauseGlass$Sheet", "rowWithLeastLeft", "(IJ)I"⟩, 12), (⟨"ClauseGlass$Sheet", "rowsSilentAt", "(II)I"⟩, 12), (⟨"ClauseGlass$Sheet", "isAsked", "(II)Z"⟩, 12), (⟨"ClauseGlass$Sorts", "livingConsOf", "(I)I"⟩, 9), (⟨"ClauseGlass$Sheet", "consAskedAt", "(II)I"⟩, 12), (⟨"ClauseGlass$Sheet", "rowsAsking", "(III)I"⟩, 12), (⟨"ClauseGlass$Sheet", "reachedRows", "()I"⟩, 12), (⟨"ClauseGlass$Sheet", "reaches", "(I)Z"⟩, 12), (⟨"ClauseGlass$Sheet", "hasValue", "(I)Z"⟩, 12), (⟨"ClauseGlass$Sorts", "isConLiving", "(I)Z"⟩, 9), (⟨"ClauseGlass$Sheet", "rowsBeforeThatAgree", "(I)I"⟩, 12), (⟨"ClauseGlass$Sheet", "agree", "(II)Z"⟩, 12)]
theorem lw_r1 : ∀ q ∈ lw_privs_1, lw_okq q := List.forall_mem_cons.mpr ⟨lw_p0, List.forall_mem_cons.mpr ⟨lw_p1, List.forall_mem_cons.mpr ⟨lw_p2, List.forall_mem_cons.mpr ⟨lw_p3, List.forall_mem_cons.mpr ⟨lw_p4, List.forall_mem_cons.mpr ⟨lw_p5, List.forall_mem_cons.mpr ⟨lw_p6, List.forall_mem_cons.mpr ⟨lw_p7, List.forall_mem_cons.mpr ⟨lw_p8, List.forall_mem_cons.mpr ⟨lw_p9, List.forall_mem_cons.mpr ⟨lw_p10, List.forall_mem_cons.mpr ⟨lw_p11, List.forall_mem_cons.mpr ⟨lw_p12, List.forall_mem_cons.mpr ⟨lw_p13, List.forall_mem_cons.mpr ⟨lw_p14, List.forall_mem_cons.mpr ⟨lw_p15, fun _ h => absurd h List.not_mem_nil⟩⟩⟩⟩⟩⟩⟩⟩⟩⟩⟩⟩⟩⟩⟩⟩
theorem lw_p16 : lw_okq (⟨"java/lang/Throwable", "fillInStackTrace", "(I)Ljava/lang/Throwable;"⟩, 6) := ⟨⟨by decide +kernel, by decide +kernel⟩, List.mem_of_getElem? (i := 296) (by decide +kernel), List.mem_of_getElem? (i := 294) (by decide +kernel), List.mem_of_getElem? (i := 295) (by decide +kernel)⟩
theorem lw_p17 : lw_okq (⟨"ClauseGlass$Sorts", "addSort", "()I"⟩, 9) := ⟨⟨by decide +kernel, by decide +kernel⟩, List.mem_of_getElem? (i := 22) (by decide +kernel), List.mem_of_getElem? (i := 326) (by decide +kernel), List.mem_of_getElem? (i := 327) (by decide +kernel)⟩
theorem lw_p18 : lw_okq (⟨"ClauseGlass$Sorts", "findLiving", "()V"⟩, 9) := ⟨⟨by decide +kernel, by decide +kernel⟩, List.mem_of_getElem? (i := 22) (by decide +kernel), List.mem_of_getElem? (i := 330) (by decide +kernel), List.mem_of_getElem? (i := 331) (by decide +kernel)⟩
theorem lw_p19 : lw_okq (⟨"ClauseGlass$Sorts", "consWithLivingParts", "()I"⟩, 9) := ⟨⟨by decide +kernel, by decide +kernel⟩, List.mem_of_getElem? (i := 22) (by decide +kernel), List.mem_of_getElem? (i := 334) (by decide +kernel), List.mem_of_getElem? (i := 335) (by decide +kernel)⟩
theorem lw_p20 : lw_okq (⟨"ClauseGlass$Sorts", "partSort", "(II)I"⟩, 9) := ⟨⟨by decide +kernel, by decide +kernel⟩, List.mem_of_getElem? (i := 22) (by decide +kernel), List.mem_of_getElem? (i := 338) (by decide +kernel), List.mem_of_getElem? (i := 339) (by decide +kernel)⟩
theorem lw_p21 : lw_okq (⟨"ClauseGlass$Sorts", "sortsWithLivingCons", "()I"⟩, 9) := ⟨⟨by decide +kernel, by decide +kernel⟩, List.mem_of_getElem? (i := 22) (by decide +kernel), List.mem_of_getElem? (i := 343) (by decide +kernel), List.mem_of_getElem? (i := 344) (by decide +kernel)⟩
theorem lw_p22 : lw_okq (⟨"ClauseGlass", "needSort", "(I)V"⟩, 4) := ⟨⟨by decide +kernel, by decide +kernel⟩, List.mem_of_getElem? (i := 14) (by decide +kernel), List.mem_of_getElem? (i := 356) (by decide +kernel), List.mem_of_getElem? (i := 357) (by decide +kernel)⟩
theorem lw_p23 : lw_okq (⟨"ClauseGlass$Sorts", "hasSort", "(I)Z"⟩, 9) := ⟨⟨by decide +kernel, by decide +kernel⟩, List.mem_of_getElem? (i := 22) (by decide +kernel), List.mem_of_getElem? (i := 360) (by decide +kernel), List.mem_of_getElem? (i := 361) (by decide +kernel)⟩
theorem lw_p24 : lw_okq (⟨"ClauseGlass$Sorts", "addCon", "(IIII)I"⟩, 9) := ⟨⟨by decide +kernel, by decide +kernel⟩, List.mem_of_getElem? (i := 22) (by decide +kernel), List.mem_of_getElem? (i := 383) (by decide +kernel), List.mem_of_getElem? (i := 384) (by decide +kernel)⟩
theorem lw_p25 : lw_okq (⟨"ClauseGlass", "needRoomForPattern", "(I)V"⟩, 4) := ⟨⟨by decide +kernel, by decide +kernel⟩, List.mem_of_getElem? (i := 14) (by decide +kernel), List.mem_of_getElem? (i := 394) (by decide +kernel), List.mem_of_getElem? (i := 395) (by decide +kernel)⟩
theorem lw_p26 : lw_okq (⟨"ClauseGlass$Patterns", "addAny", "(I)I"⟩, 7) := ⟨⟨by decide +kernel, by decide +kernel⟩, List.mem_of_getElem? (i := 63) (by decide +kernel), List.mem_of_getElem? (i := 400) (by decide +kernel), List.mem_of_getElem? (i := 401) (by decide +kernel)⟩
theorem lw_p27 : lw_okq (⟨"ClauseGlass$Patterns", "addPattern", "(IIII)I"⟩, 7) := ⟨⟨by decide +kernel, by decide +kernel⟩, List.mem_of_getElem? (i := 63) (by decide +kernel), List.mem_of_getElem? (i := 404) (by decide +kernel), List.mem_of_getElem? (i := 405) (by decide +kernel)⟩
theorem lw_p28 : lw_okq (⟨"ClauseGlass$Patterns", "addNumber", "(I)I"⟩, 7) := ⟨⟨by decide +kernel, by decide +kernel⟩, List.mem_of_getElem? (i := 63) (by decide +kernel), List.mem_of_getElem? (i := 415) (by decide +kernel), List.mem_of_getElem? (i := 416) (by decide +kernel)⟩
theorem lw_p29 : lw_okq (⟨"ClauseGlass$Sorts", "hasCon", "(I)Z"⟩, 9) := ⟨⟨by decide +kernel, by decide +kernel⟩, List.mem_of_getElem? (i := 22) (by decide +kernel), List.mem_of_getElem? (i := 426) (by decide +kernel), List.mem_of_getElem? (i := 427) (by decide +kernel)⟩
theorem lw_p30 : lw_okq (⟨"ClauseGlass", "needPatternOf", "(II)V"⟩, 4) := ⟨⟨by decide +kernel, by decide +kernel⟩, List.mem_of_getElem? (i := 14) (by decide +kernel), List.mem_of_getElem? (i := 432) (by decide +kernel), List.mem_of_getElem? (i := 433) (by decide +kernel)⟩
theorem lw_p31 : lw_okq (⟨"ClauseGlass", "needPattern", "(I)V"⟩, 4) := ⟨⟨by decide +kernel, by decide +kernel⟩, List.mem_of_getElem? (i := 14) (by decide +kernel), List.mem_of_getElem? (i := 436) (by decide +kernel), List.mem_of_getElem? (i := 437) (by decide +kernel)⟩
def lw_privs_2 : List (MethodName × Nat) := [(⟨"java/lang/Throwable", "fillInStackTrace", "(I)Ljava/lang/Throwable;"⟩, 6), (⟨"ClauseGlass$Sorts", "addSort", "()I"⟩, 9), (⟨"ClauseGlass$Sorts", "findLiving", "()V"⟩, 9), (⟨"ClauseGlass$Sorts", "consWithLivingParts", "()I"⟩, 9), (⟨"ClauseGlass$Sorts", "partSort", "(II)I"⟩, 9), (⟨"ClauseGlass$Sorts", "sortsWithLivingCons", "()I"⟩, 9), (⟨"ClauseGlass", "needSort", "(I)V"⟩, 4), (⟨"ClauseGlass$Sorts", "hasSort", "(I)Z"⟩, 9), (⟨"ClauseGlass$Sorts", "addCon", "(IIII)I"⟩, 9), (⟨"ClauseGlass", "needRoomForPattern", "(I)V"⟩, 4), (⟨"ClauseGlass$Patterns", "addAny", "(I)I"⟩, 7), (⟨"ClauseGlass$Patterns", "addPattern", "(IIII)I"⟩, 7), (⟨"ClauseGlass$Patterns", "addNumber", "(I)I"⟩, 7), (⟨"ClauseGlass$Sorts", "hasCon", "(I)Z"⟩, 9), (⟨"ClauseGlass", "needPatternOf", "(II)V"⟩, 4), (⟨"ClauseGlass", "needPattern", "(I)V"⟩, 4)]
theorem lw_r2 : ∀ q ∈ lw_privs_2, lw_okq q := List.forall_mem_cons.mpr ⟨lw_p16, List.forall_mem_cons.mpr ⟨lw_p17, List.forall_mem_cons.mpr ⟨lw_p18, List.forall_mem_cons.mpr ⟨lw_p19, List.forall_mem_cons.mpr ⟨lw_p20, List.forall_mem_cons.mpr ⟨lw_p21, List.forall_mem_cons.mpr ⟨lw_p22, List.forall_mem_cons.mpr ⟨lw_p23, List.forall_mem_cons.mpr ⟨lw_p24, List.forall_mem_cons.mpr ⟨lw_p25, List.forall_mem_cons.mpr ⟨lw_p26, List.forall_mem_cons.mpr ⟨lw_p27, List.forall_mem_cons.mpr ⟨lw_p28, List.forall_mem_cons.mpr ⟨lw_p29, List.forall_mem_cons.mpr ⟨lw_p30, List.forall_mem_cons.mpr ⟨lw_p31, fun _ h => absurd h List.not_mem_nil⟩⟩⟩⟩⟩⟩⟩⟩⟩⟩⟩⟩⟩⟩⟩⟩
theorem lw_p32 : lw_okq (⟨"ClauseGlass$Patterns", "hasPattern", "(I)Z"⟩, 7) := ⟨⟨by decide +kernel, by decide +kernel⟩, List.mem_of_getElem? (i := 63) (by decide +kernel), List.mem_of_getElem? (i := 440) (by decide +kernel), List.mem_of_getElem? (i := 441) (by decide +kernel)⟩
theorem lw_p33 : lw_okq (⟨"ClauseGlass$Patterns", "addMade", "(IIIII)I"⟩, 7) := ⟨⟨by decide +kernel, by decide +kernel⟩, List.mem_of_getElem? (i := 63) (by decide +kernel), List.mem_of_getElem? (i := 446) (by decide +kernel), List.mem_of_getElem? (i := 447) (by decide +kernel)⟩
theorem lw_p34 : lw_okq (⟨"ClauseGlass$Sheet", "addRow", "(I)V"⟩, 12) := ⟨⟨by decide +kernel, by decide +kernel⟩, List.mem_of_getElem? (i := 97) (by decide +kernel), List.mem_of_getElem? (i := 467) (by decide +kernel), List.mem_of_getElem? (i := 468) (by decide +kernel)⟩
theorem lw_p35 : lw_okq (⟨"ClauseGlass$Sheet", "layPart", "(IIII)V"⟩, 12) := ⟨⟨by decide +kernel, by decide +kernel⟩, List.mem_of_getElem? (i := 97) (by decide +kernel), List.mem_of_getElem? (i := 471) (by decide +kernel), List.mem_of_getElem? (i := 472) (by decide +kernel)⟩
theorem lw_p36 : lw_okq (⟨"ClauseGlass$Patterns", "partOf", "(II)I"⟩, 7) := ⟨⟨by decide +kernel, by decide +kernel⟩, List.mem_of_getElem? (i := 63) (by decide +kernel), List.mem_of_getElem? (i := 475) (by decide +kernel), List.mem_of_getElem? (i := 476) (by decide +kernel)⟩
theorem lw_p37 : lw_okq (⟨"ClauseGlass$Sheet", "placeBelow", "(III)I"⟩, 12) := ⟨⟨by decide +kernel, by decide +kernel⟩, List.mem_of_getElem? (i := 97) (by decide +kernel), List.mem_of_getElem? (i := 479) (by decide +kernel), List.mem_of_getElem? (i := 480) (by decide +kernel)⟩
theorem lw_p38 : lw_okq (⟨"ClauseGlass", "layPair", "(II)V"⟩, 4) := ⟨⟨by decide +kernel, by decide +kernel⟩, List.mem_of_getElem? (i := 14) (by decide +kernel), List.mem_of_getElem? (i := 500) (by decide +kernel), List.mem_of_getElem? (i := 501) (by decide +kernel)⟩
theorem lw_p39 : lw_okq (⟨"ClauseGlassModel", "isSort", "(I)Z"⟩, 36) := ⟨⟨by decide +kernel, by decide +kernel⟩, List.mem_of_getElem? (i := 521) (by decide +kernel), List.mem_of_getElem? (i := 649) (by decide +kernel), List.mem_of_getElem? (i := 650) (by decide +kernel)⟩
theorem lw_p40 : lw_okq (⟨"ClauseGlassModel", "pattern", "(IIIIII)I"⟩, 36) := ⟨⟨by decide +kernel, by decide +kernel⟩, List.mem_of_getElem? (i := 521) (by decide +kernel), List.mem_of_getElem? (i := 657) (by decide +kernel), List.mem_of_getElem? (i := 658) (by decide +kernel)⟩
theorem lw_p41 : lw_okq (⟨"ClauseGlassModel", "isPattern", "(I)Z"⟩, 36) := ⟨⟨by decide +kernel, by decide +kernel⟩, List.mem_of_getElem? (i := 521) (by decide +kernel), List.mem_of_getElem? (i := 669) (by decide +kernel), List.mem_of_getElem? (i := 670) (by decide +kernel)⟩
theorem lw_p42 : lw_okq (⟨"ClauseGlassModel", "reaches", "(I)Z"⟩, 36) := ⟨⟨by decide +kernel, by decide +kernel⟩, List.mem_of_getElem? (i := 521) (by decide +kernel), List.mem_of_getElem? (i := 681) (by decide +kernel), List.mem_of_getElem? (i := 682) (by decide +kernel)⟩
theorem lw_p43 : lw_okq (⟨"ClauseGlassModel", "has", "(I)Z"⟩, 36) := ⟨⟨by decide +kernel, by decide +kernel⟩, List.mem_of_getElem? (i := 521) (by decide +kernel), List.mem_of_getElem? (i := 685) (by decide +kernel), List.mem_of_getElem? (i := 686) (by decide +kernel)⟩
theorem lw_p44 : lw_okq (⟨"ClauseGlassModel", "live", "()V"⟩, 36) := ⟨⟨by decide +kernel, by decide +kernel⟩, List.mem_of_getElem? (i := 521) (by decide +kernel), List.mem_of_getElem? (i := 689) (by decide +kernel), List.mem_of_getElem? (i := 690) (by decide +kernel)⟩
theorem lw_p45 : lw_okq (⟨"ClauseGlassModel", "isUsed", "(I)Z"⟩, 36) := ⟨⟨by decide +kernel, by decide +kernel⟩, List.mem_of_getElem? (i := 521) (by decide +kernel), List.mem_of_getElem? (i := 693) (by decide +kernel), List.mem_of_getElem? (i := 694) (by decide +kernel)⟩
theorem lw_p46 : lw_okq (⟨"ClauseGlassModel", "gather", "(I)V"⟩, 36) := ⟨⟨by decide +kernel, by decide +kernel⟩, List.mem_of_getElem? (i := 521) (by decide +kernel), List.mem_of_getElem? (i := 697) (by decide +kernel), List.mem_of_getElem? (i := 698) (by decide +kernel)⟩
theorem lw_p47 : lw_okq (⟨"ClauseGlassModel", "look", "(I)I"⟩, 36) := ⟨⟨by decide +kernel, by decide +kernel⟩, List.mem_of_getElem? (i := 521) (by decide +kernel), List.mem_of_getElem? (i := 701) (by decide +kernel), List.mem_of_getElem? (i := 702) (by decide +kernel)⟩
def lw_privs_3 : List (MethodName × Nat) := [(⟨"ClauseGlass$Patterns", "hasPattern", "(I)Z"⟩, 7), (⟨"ClauseGlass$Patterns", "addMade", "(IIIII)I"⟩, 7), (⟨"ClauseGlass$Sheet", "addRow", "(I)V"⟩, 12), (⟨"ClauseGlass$Sheet", "layPart", "(IIII)V"⟩, 12), (⟨"ClauseGlass$Patterns", "partOf", "(II)I"⟩, 7), (⟨"ClauseGlass$Sheet", "placeBelow", "(III)I"⟩, 12), (⟨"ClauseGlass", "layPair", "(II)V"⟩, 4), (⟨"ClauseGlassModel", "isSort", "(I)Z"⟩, 36), (⟨"ClauseGlassModel", "pattern", "(IIIIII)I"⟩, 36), (⟨"ClauseGlassModel", "isPattern", "(I)Z"⟩, 36), (⟨"ClauseGlassModel", "reaches", "(I)Z"⟩, 36), (⟨"ClauseGlassModel", "has", "(I)Z"⟩, 36), (⟨"ClauseGlassModel", "live", "()V"⟩, 36), (⟨"ClauseGlassModel", "isUsed", "(I)Z"⟩, 36), (⟨"ClauseGlassModel", "gather", "(I)V"⟩, 36), (⟨"ClauseGlassModel", "look", "(I)I"⟩, 36)]
theorem lw_r3 : ∀ q ∈ lw_privs_3, lw_okq q := List.forall_mem_cons.mpr ⟨lw_p32, List.forall_mem_cons.mpr ⟨lw_p33, List.forall_mem_cons.mpr ⟨lw_p34, List.forall_mem_cons.mpr ⟨lw_p35, List.forall_mem_cons.mpr ⟨lw_p36, List.forall_mem_cons.mpr ⟨lw_p37, List.forall_mem_cons.mpr ⟨lw_p38, List.forall_mem_cons.mpr ⟨lw_p39, List.forall_mem_cons.mpr ⟨lw_p40, List.forall_mem_cons.mpr ⟨lw_p41, List.forall_mem_cons.mpr ⟨lw_p42, List.forall_mem_cons.mpr ⟨lw_p43, List.forall_mem_cons.mpr ⟨lw_p44, List.forall_mem_cons.mpr ⟨lw_p45, List.forall_mem_cons.mpr ⟨lw_p46, List.forall_mem_cons.mpr ⟨lw_p47, fun _ h => absurd h List.not_mem_nil⟩⟩⟩⟩⟩⟩⟩⟩⟩⟩⟩⟩⟩⟩⟩⟩
theorem lw_p48 : lw_okq (⟨"ClauseGlassModel", "node", "(I)I"⟩, 36) := ⟨⟨by decide +kernel, by decide +kernel⟩, List.mem_of_getElem? (i := 521) (by decide +kernel), List.mem_of_getElem? (i := 705) (by decide +kernel), List.mem_of_getElem? (i := 706) (by decide +kernel)⟩
theorem lw_p49 : lw_okq (⟨"ClauseGlassModel", "fill", "(II)V"⟩, 36) := ⟨⟨by decide +kernel, by decide +kernel⟩, List.mem_of_getElem? (i := 521) (by decide +kernel), List.mem_of_getElem? (i := 709) (by decide +kernel), List.mem_of_getElem? (i := 710) (by decide +kernel)⟩
theorem lw_p50 : lw_okq (⟨"ClauseGlassModel", "isTried", "(I)Z"⟩, 36) := ⟨⟨by decide +kernel, by decide +kernel⟩, List.mem_of_getElem? (i := 521) (by decide +kernel), List.mem_of_getElem? (i := 713) (by decide +kernel), List.mem_of_getElem? (i := 714) (by decide +kernel)⟩
theorem lw_p51 : lw_okq (⟨"ClauseGlassModel", "fit", "(II)I"⟩, 36) := ⟨⟨by decide +kernel, by decide +kernel⟩, List.mem_of_getElem? (i := 521) (by decide +kernel), List.mem_of_getElem? (i := 717) (by decide +kernel), List.mem_of_getElem? (i := 718) (by decide +kernel)⟩
theorem lw_p52 : lw_okq (⟨"ClauseGlassModel", "options", "(I)I"⟩, 36) := ⟨⟨by decide +kernel, by decide +kernel⟩, List.mem_of_getElem? (i := 521) (by decide +kernel), List.mem_of_getElem? (i := 721) (by decide +kernel), List.mem_of_getElem? (i := 722) (by decide +kernel)⟩
theorem lw_p53 : lw_okq (⟨"ClauseGlassModel", "areLike", "(II)Z"⟩, 36) := ⟨⟨by decide +kernel, by decide +kernel⟩, List.mem_of_getElem? (i := 521) (by decide +kernel), List.mem_of_getElem? (i := 737) (by decide +kernel), List.mem_of_getElem? (i := 738) (by decide +kernel)⟩
def lw_privs_4 : List (MethodName × Nat) := [(⟨"ClauseGlassModel", "node", "(I)I"⟩, 36), (⟨"ClauseGlassModel", "fill", "(II)V"⟩, 36), (⟨"ClauseGlassModel", "isTried", "(I)Z"⟩, 36), (⟨"ClauseGlassModel", "fit", "(II)I"⟩, 36), (⟨"ClauseGlassModel", "options", "(I)I"⟩, 36), (⟨"ClauseGlassModel", "areLike", "(II)Z"⟩, 36)]
theorem lw_r4 : ∀ q ∈ lw_privs_4, lw_okq q := List.forall_mem_cons.mpr ⟨lw_p48, List.forall_mem_cons.mpr ⟨lw_p49, List.forall_mem_cons.mpr ⟨lw_p50, List.forall_mem_cons.mpr ⟨lw_p51, List.forall_mem_cons.mpr ⟨lw_p52, List.forall_mem_cons.mpr ⟨lw_p53, fun _ h => absurd h List.not_mem_nil⟩⟩⟩⟩⟩⟩
def lw_privs : List (MethodName × Nat) := lw_privs_1 ++ (lw_privs_2 ++ (lw_privs_3 ++ (lw_privs_4)))
def lw_tbl : List Cond := k2_sels lw_privs ++ tables_1
theorem lw_privs_ok : ∀ q ∈ lw_privs, lw_okq q := by
  show ∀ q ∈ lw_privs_1 ++ (lw_privs_2 ++ (lw_privs_3 ++ (lw_privs_4))), lw_okq q
  exact List.forall_mem_append.mpr ⟨lw_r1, List.forall_mem_append.mpr ⟨lw_r2, List.forall_mem_append.mpr ⟨lw_r3, lw_r4⟩⟩⟩
-- ===== end of PART A; then your names; then what follows =====
end
section
/-! the words of the tables that any later state keeps -/
def tw_k (w : Cond) : Bool := match w with
  | .arrayClass _ | .fieldLinkNest .. | .methodLinkNest .. | .stringRef .. => true
  | w => w.onTables && (w.keeps || w.faceAtom)
def tw_tbl : List Cond := lw_tbl.filter tw_k
theorem tw_moved {w : Cond} {s U : State} {A A' : Array Value} (hW : s.WarmedH U.vm) (hk : tw_k w = true) (h : w.before A s = true) : w.before A' U = true := by
  have main : (w.onTables && (w.keeps || w.faceAtom)) = true → w.before A' U = true := by
    intro hq
    simp only [Bool.and_eq_true, Bool.or_eq_true] at hq
    have h1 : w.before A (s.setVm U.vm) = true := by
      rcases hq.2 with h2 | h2
      · exact Cond.holds_shifted (State.Shifted.of_warmed hW) w [] h2 h
      · exact Cond.faceAtom_setVm hW.alike w h2 h
    exact va_tabs hq.1 (rfl : (s.setVm U.vm).vm = U.vm) h1
  cases w with
  | arrayClass ty => exact word_at hW (Or.inr ⟨ty, rfl⟩) h
  | fieldLinkNest a i b n d hh => exact va_tabs rfl (rfl : (s.setVm U.vm).vm = U.vm) (Cond.fieldLinkNest_warmed hW h)
  | methodLinkNest a i x hh => exact va_tabs rfl (rfl : (s.setVm U.vm).vm = U.vm) (Cond.methodLinkNest_warmed hW h)
  | stringRef a i t => exact Cond.stringRef_warmed hW h
  | _ => exact main hk
theorem tw_in {w : Cond} (h : w ∈ tw_tbl) : tw_k w = true := (List.mem_filter.mp h).2
/-! abstract cells: arrays by a tag (0 int, 1 long, 2 boolean, 3 int[]), objects by the number of their class; references are numbers of cells -/
abbrev mj_C : Type := (Nat × vp_A) ⊕ (Nat × List Value)
abbrev mj_H : Type := List mj_C × Nat × Nat
abbrev mj_O : Type := Option Value ⊕ Nat
def mj_v (ad : Nat → Nat) (v : Value) : Value := match v with
  | .ref k => .ref (ad k)
  | w => w
def mj_A (ad : Nat → Nat) (x : vp_A) : vp_A := (x.1, match x.2 with
  | .inr (.inr (.inr (.inr f))) => .inr (.inr (.inr (.inr (fun i => (f i).map ad))))
  | y => y)
def mj_E (ad : Nat → Nat) (cy : ClassId) (c : mj_C) : va_E := match c with
  | .inl q => .inl (cy, mj_A ad q.2)
  | .inr q => .inr (q.1, q.2.map (mj_v ad))
def mj_W (ad : Nat → Nat) (cy : Nat → ClassId) (A : List mj_C) : va_W := A.mapIdx (fun k c => (ad k, mj_E ad (cy k) c))
theorem mj_W_get {ad : Nat → Nat} {cy : Nat → ClassId} {A : List mj_C} {k : Nat} {c : mj_C} (h : A[k]? = some c) : (mj_W ad cy A)[k]? = some (ad k, mj_E ad (cy k) c) := by
  simp [mj_W, h]
theorem mj_W_set {ad : Nat → Nat} {cy : Nat → ClassId} {A : List mj_C} {k : Nat} {c : mj_C} : (mj_W ad cy A).set k (ad k, mj_E ad (cy k) c) = mj_W ad cy (A.set k c) := by
  simp [mj_W, List.mapIdx_set]
theorem mj_W_len {ad : Nat → Nat} {cy : Nat → ClassId} {A : List mj_C} : (mj_W ad cy A).length = A.length := by simp [mj_W]
def mj_rv (n : Nat) (v : Value) : Prop := ∀ j, v = .ref j → j < n
/-- every reference that the cell holds is below n -/
def mj_rf (n : Nat) (c : mj_C) : Prop := match c with
  | .inl q => (match q.2.2 with
    | .inr (.inr (.inr (.inr f))) => ∀ i j, f i = some j → j < n
    | _ => True)
  | .inr q => ∀ v ∈ q.2, mj_rv n v
theorem mj_v_ext {ad ad' : Nat → Nat} {n : Nat} {v : Value} (h : mj_rv n v) (he : ∀ k, k < n → ad' k = ad k) : mj_v ad' v = mj_v ad v := by
  cases v with
  | ref j => show Value.ref (ad' j) = Value.ref (ad j); rw [he j (h j rfl)]
  | _ => rfl
theorem mj_E_ext {ad ad' : Nat → Nat} {n : Nat} {cy : ClassId} {c : mj_C} (h : mj_rf n c) (he : ∀ k, k < n → ad' k = ad k) : mj_E ad' cy c = mj_E ad cy c := by
  rcases c with ⟨tg, m, x⟩ | ⟨ci, fs⟩
  · rcases x with f | f | f | f | f
    · rfl
    · rfl
    · rfl
    · rfl
    · show Sum.inl (cy, (m, _)) = Sum.inl (cy, (m, _))
      have hf : (fun i => (f i).map ad') = fun i => (f i).map ad := by
        funext i
        cases hfi : f i with
        | none => rfl
        | some j => show some (ad' j) = some (ad j); rw [he j (h i j hfi)]
      simp only [hf]
  · show Sum.inr (ci, fs.map (mj_v ad')) = Sum.inr (ci, fs.map (mj_v ad))
    have : fs.map (mj_v ad') = fs.map (mj_v ad) := List.map_congr_left (fun v hv => mj_v_ext (h v hv) he)
    rw [this]
theorem mj_W_push {ad : Nat → Nat} {cy : Nat → ClassId} {A : List mj_C} {q : Nat} {cA : ClassId} {c : mj_C} (hA : ∀ (k : Nat) (c : mj_C), A[k]? = some c → mj_rf A.length c) (hc : mj_rf A.length c) :
    mj_W ad cy A ++ [(q, mj_E ad cA c)] = mj_W (va_up ad A.length q) (va_up cy A.length cA) (A ++ [c]) := by
  unfold mj_W
  rw [List.mapIdx_concat]
  have he : ∀ k, k < A.length → va_up ad A.length q k = ad k := fun k hk => va_up_ne ad q (Nat.ne_of_lt hk)
  congr 1
  · apply List.ext_getElem?
    intro k
    rw [List.getElem?_mapIdx, List.getElem?_mapIdx]
    cases hk : A[k]? with
    | none => rfl
    | some d =>
      have hlt : k < A.length := by
        rcases Nat.lt_or_ge k A.length with h | h
        · exact h
        · rw [List.getElem?_eq_none h] at hk; cases hk
      show some (ad k, mj_E ad (cy k) d) = some (va_up ad A.length q k, mj_E (va_up ad A.length q) (va_up cy A.length cA k) d)
      rw [he k hlt, va_up_ne cy cA (Nat.ne_of_lt hlt), mj_E_ext (hA k d hk) he]
  · rw [va_up_self, va_up_self, mj_E_ext hc he]
def mj_ty (t : Nat) : FieldType := match t with
  | 0 => .int
  | 1 => .long
  | 2 => .boolean
  | _ => .array .int
end
section
def R_P : String := "ClauseGlass$Patterns"
def F_P : u_T := fun k => match k with
  | 0 => ("ClauseGlass$Patterns", "patternCount", "I", false)
  | 1 => ("ClauseGlass$Patterns", "kind", "[I", true)
  | 2 => ("ClauseGlass$Patterns", "sort", "[I", true)
  | 3 => ("ClauseGlass$Patterns", "top", "[I", true)
  | 4 => ("ClauseGlass$Patterns", "first", "[I", true)
  | 5 => ("ClauseGlass$Patterns", "second", "[I", true)
  | _ => ("ClauseGlass$Patterns", "size", "[I", true)
def t_P : Nat → FieldType := fun k => match k with
  | 0 => .int
  | 1 => (.array .int)
  | 2 => (.array .int)
  | 3 => (.array .int)
  | 4 => (.array .int)
  | 5 => (.array .int)
  | _ => (.array .int)
set_option maxRecDepth 100000 in
theorem n_P : ∀ a, a < 7 → ∀ b, b < 7 → a ≠ b → (F_P a).2.1 ≠ (F_P b).2.1 := by decide +kernel
theorem tk_P : ∀ k, k < 7 → parseFieldDescriptor (F_P k).2.2.1 = some (t_P k) := by decide +kernel
theorem dk_P : ∀ k, k < 7 → (F_P k).1 = R_P := by decide +kernel
set_option maxRecDepth 100000 in
theorem i_P : ∀ w ∈ u_ws R_P F_P 7, w ∈ tw_tbl := by decide +kernel
def R_H : String := "ClauseGlass$Sheet"
def F_H : u_T := fun k => match k with
  | 0 => ("ClauseGlass$Sheet", "sorts", "LClauseGlass$Sorts;", true)
  | 1 => ("ClauseGlass$Sheet", "patterns", "LClauseGlass$Patterns;", true)
  | 2 => ("ClauseGlass$Sheet", "sort", "I", false)
  | 3 => ("ClauseGlass$Sheet", "rowCount", "I", false)
  | 4 => ("ClauseGlass$Sheet", "placeCount", "I", false)
  | 5 => ("ClauseGlass$Sheet", "size", "I", false)
  | 6 => ("ClauseGlass$Sheet", "asked", "[J", true)
  | 7 => ("ClauseGlass$Sheet", "asks", "[[I", true)
  | 8 => ("ClauseGlass$Sheet", "placeSort", "[I", true)
  | 9 => ("ClauseGlass$Sheet", "placeAbove", "[I", true)
  | 10 => ("ClauseGlass$Sheet", "conAbove", "[I", true)
  | _ => ("ClauseGlass$Sheet", "partAbove", "[I", true)
def t_H : Nat → FieldType := fun k => match k with
  | 0 => (.object "ClauseGlass$Sorts")
  | 1 => (.object "ClauseGlass$Patterns")
  | 2 => .int
  | 3 => .int
  | 4 => .int
  | 5 => .int
  | 6 => (.array .long)
  | 7 => (.array (.array .int))
  | 8 => (.array .int)
  | 9 => (.array .int)
  | 10 => (.array .int)
  | _ => (.array .int)
set_option maxRecDepth 100000 in
theorem n_H : ∀ a, a < 12 → ∀ b, b < 12 → a ≠ b → (F_H a).2.1 ≠ (F_H b).2.1 := by decide +kernel
theorem tk_H : ∀ k, k < 12 → parseFieldDescriptor (F_H k).2.2.1 = some (t_H k) := by decide +kernel
theorem dk_H : ∀ k, k < 12 → (F_H k).1 = R_H := by decide +kernel
set_option maxRecDepth 100000 in
theorem i_H : ∀ w ∈ u_ws R_H F_H 12, w ∈ tw_tbl := by decide +kernel
def R_S : String := "ClauseGlass$Sorts"
def F_S : u_T := fun k => match k with
  | 0 => ("ClauseGlass$Sorts", "sortCount", "I", false)
  | 1 => ("ClauseGlass$Sorts", "conCount", "I", false)
  | 2 => ("ClauseGlass$Sorts", "livingSorts", "I", false)
  | 3 => ("ClauseGlass$Sorts", "livingCons", "I", false)
  | 4 => ("ClauseGlass$Sorts", "consOf", "[I", true)
  | 5 => ("ClauseGlass$Sorts", "conSort", "[I", true)
  | 6 => ("ClauseGlass$Sorts", "partCount", "[I", true)
  | 7 => ("ClauseGlass$Sorts", "firstSort", "[I", true)
  | _ => ("ClauseGlass$Sorts", "secondSort", "[I", true)
def t_S : Nat → FieldType := fun k => match k with
  | 0 => .int
  | 1 => .int
  | 2 => .int
  | 3 => .int
  | 4 => (.array .int)
  | 5 => (.array .int)
  | 6 => (.array .int)
  | 7 => (.array .int)
  | _ => (.array .int)
set_option maxRecDepth 100000 in
theorem n_S : ∀ a, a < 9 → ∀ b, b < 9 → a ≠ b → (F_S a).2.1 ≠ (F_S b).2.1 := by decide +kernel
theorem tk_S : ∀ k, k < 9 → parseFieldDescriptor (F_S k).2.2.1 = some (t_S k) := by decide +kernel
theorem dk_S : ∀ k, k < 9 → (F_S k).1 = R_S := by decide +kernel
set_option maxRecDepth 100000 in
theorem i_S : ∀ w ∈ u_ws R_S F_S 9, w ∈ tw_tbl := by decide +kernel
def R_C : String := "ClauseGlass"
def F_C : u_T := fun k => match k with
  | 0 => ("ClauseGlass", "sorts", "LClauseGlass$Sorts;", true)
  | 1 => ("ClauseGlass", "patterns", "LClauseGlass$Patterns;", true)
  | 2 => ("ClauseGlass", "clauses", "LClauseGlass$Sheet;", true)
  | _ => ("ClauseGlass", "pair", "LClauseGlass$Sheet;", true)
def t_C : Nat → FieldType := fun k => match k with
  | 0 => (.object "ClauseGlass$Sorts")
  | 1 => (.object "ClauseGlass$Patterns")
  | 2 => (.object "ClauseGlass$Sheet")
  | _ => (.object "ClauseGlass$Sheet")
set_option maxRecDepth 100000 in
theorem n_C : ∀ a, a < 4 → ∀ b, b < 4 → a ≠ b → (F_C a).2.1 ≠ (F_C b).2.1 := by decide +kernel
theorem tk_C : ∀ k, k < 4 → parseFieldDescriptor (F_C k).2.2.1 = some (t_C k) := by decide +kernel
theorem dk_C : ∀ k, k < 4 → (F_C k).1 = R_C := by decide +kernel
set_option maxRecDepth 100000 in
theorem i_C : ∀ w ∈ u_ws R_C F_C 4, w ∈ tw_tbl := by decide +kernel
def R_M : String := "ClauseGlassModel"
def F_M : u_T := fun k => match k with
  | 0 => ("ClauseGlassModel", "thrown", "I", false)
  | 1 => ("ClauseGlassModel", "sorts", "I", false)
  | 2 => ("ClauseGlassModel", "cons", "I", false)
  | 3 => ("ClauseGlassModel", "patterns", "I", false)
  | 4 => ("ClauseGlassModel", "clauses", "I", false)
  | 5 => ("ClauseGlassModel", "clauseSort", "I", false)
  | 6 => ("ClauseGlassModel", "conSort", "[I", true)
  | 7 => ("ClauseGlassModel", "conParts", "[I", true)
  | 8 => ("ClauseGlassModel", "conFirst", "[I", true)
  | 9 => ("ClauseGlassModel", "conSecond", "[I", true)
  | 10 => ("ClauseGlassModel", "kind", "[I", true)
  | 11 => ("ClauseGlassModel", "sortOf", "[I", true)
  | 12 => ("ClauseGlassModel", "what", "[I", true)
  | 13 => ("ClauseGlassModel", "first", "[I", true)
  | 14 => ("ClauseGlassModel", "second", "[I", true)
  | 15 => ("ClauseGlassModel", "width", "[I", true)
  | 16 => ("ClauseGlassModel", "clause", "[I", true)
  | 17 => ("ClauseGlassModel", "lives", "[Z", true)
  | 18 => ("ClauseGlassModel", "nodeKind", "[I", true)
  | 19 => ("ClauseGlassModel", "nodeSort", "[I", true)
  | 20 => ("ClauseGlassModel", "nodeWhat", "[I", true)
  | 21 => ("ClauseGlassModel", "nodeFirst", "[I", true)
  | 22 => ("ClauseGlassModel", "nodeSecond", "[I", true)
  | 23 => ("ClauseGlassModel", "nodes", "I", false)
  | 24 => ("ClauseGlassModel", "holes", "[I", true)
  | 25 => ("ClauseGlassModel", "choice", "[I", true)
  | 26 => ("ClauseGlassModel", "choices", "[I", true)
  | 27 => ("ClauseGlassModel", "splits", "I", false)
  | 28 => ("ClauseGlassModel", "hole", "I", false)
  | 29 => ("ClauseGlassModel", "stands", "[Z", true)
  | 30 => ("ClauseGlassModel", "must", "[I", true)
  | 31 => ("ClauseGlassModel", "never", "[I", true)
  | 32 => ("ClauseGlassModel", "ints", "[I", true)
  | 33 => ("ClauseGlassModel", "musts", "I", false)
  | 34 => ("ClauseGlassModel", "nevers", "I", false)
  | _ => ("ClauseGlassModel", "intMany", "I", false)
def t_M : Nat → FieldType := fun k => match k with
  | 0 => .int
  | 1 => .int
  | 2 => .int
  | 3 => .int
  | 4 => .int
  | 5 => .int
  | 6 => (.array .int)
  | 7 => (.array .int)
  | 8 => (.array .int)
  | 9 => (.array .int)
  | 10 => (.array .int)
  | 11 => (.array .int)
  | 12 => (.array .int)
  | 13 => (.array .int)
  | 14 => (.array .int)
  | 15 => (.array .int)
  | 16 => (.array .int)
  | 17 => (.array .boolean)
  | 18 => (.array .int)
  | 19 => (.array .int)
  | 20 => (.array .int)
  | 21 => (.array .int)
  | 22 => (.array .int)
  | 23 => .int
  | 24 => (.array .int)
  | 25 => (.array .int)
  | 26 => (.array .int)
  | 27 => .int
  | 28 => .int
  | 29 => (.array .boolean)
  | 30 => (.array .int)
  | 31 => (.array .int)
  | 32 => (.array .int)
  | 33 => .int
  | 34 => .int
  | _ => .int
set_option maxRecDepth 100000 in
theorem n_M : ∀ a, a < 36 → ∀ b, b < 36 → a ≠ b → (F_M a).2.1 ≠ (F_M b).2.1 := by decide +kernel
theorem tk_M : ∀ k, k < 36 → parseFieldDescriptor (F_M k).2.2.1 = some (t_M k) := by decide +kernel
theorem dk_M : ∀ k, k < 36 → (F_M k).1 = R_M := by decide +kernel
set_option maxRecDepth 100000 in
theorem i_M : ∀ w ∈ u_ws R_M F_M 36, w ∈ tw_tbl := by decide +kernel
abbrev mj_cl : List vw_C := [(R_P, F_P, 7), (R_H, F_H, 12), (R_S, F_S, 9), (R_C, F_C, 4), (R_M, F_M, 36)]
abbrev b_C_init : ByteArray := prog_1_method_1_code
def y_C_init : MethodName := ⟨"ClauseGlass", "<init>", "()V"⟩
abbrev b_S_init : ByteArray := prog_4_method_1_code
def y_S_init : MethodName := ⟨"ClauseGlass$Sorts", "<init>", "()V"⟩
abbrev b_P_init : ByteArray := prog_2_method_1_code
def y_P_init : MethodName := ⟨"ClauseGlass$Patterns", "<init>", "()V"⟩
abbrev b_H_init : ByteArray := prog_3_method_1_code
def y_H_init : MethodName := ⟨"ClauseGlass$Sheet", "<init>", "(LClauseGlass$Sorts;LClauseGlass$Patterns;II)V"⟩
abbrev b_H_clear : ByteArray := prog_3_method_2_code
def y_H_clear : MethodName := ⟨"ClauseGlass$Sheet", "clear", "(I)V"⟩
abbrev b_C_open : ByteArray := prog_1_method_10_code
def y_C_open : MethodName := ⟨"ClauseGlass", "open", "()Z"⟩
abbrev b_H_leavesSome : ByteArray := prog_3_method_7_code
def y_H_leavesSome : MethodName := ⟨"ClauseGlass$Sheet", "leavesSome", "()Z"⟩
abbrev b_S_isSortLiving : ByteArray := prog_4_method_5_code
def y_S_isSortLiving : MethodName := ⟨"ClauseGlass$Sorts", "isSortLiving", "(I)Z"⟩
abbrev b_H_escapes : ByteArray := prog_3_method_13_code
def y_H_escapes : MethodName := ⟨"ClauseGlass$Sheet", "escapes", "(IJI)Z"⟩
abbrev b_H_rowWithLeastLeft : ByteArray := prog_3_method_14_code
def y_H_rowWithLeastLeft : MethodName := ⟨"ClauseGlass$Sheet", "rowWithLeastLeft", "(IJ)I"⟩
abbrev b_JL_bitCount : ByteArray := prog_11_method_50_code
def y_JL_bitCount : MethodName := ⟨"java/lang/Long", "bitCount", "(J)I"⟩
abbrev b_JL_numberOfTrailingZeros : ByteArray := prog_11_method_49_code
def y_JL_numberOfTrailingZeros : MethodName := ⟨"java/lang/Long", "numberOfTrailingZeros", "(J)I"⟩
abbrev b_JI_numberOfTrailingZeros : ByteArray := prog_10_method_48_code
def y_JI_numberOfTrailingZeros : MethodName := ⟨"java/lang/Integer", "numberOfTrailingZeros", "(I)I"⟩
abbrev b_H_rowsSilentAt : ByteArray := prog_3_method_15_code
def y_H_rowsSilentAt : MethodName := ⟨"ClauseGlass$Sheet", "rowsSilentAt", "(II)I"⟩
abbrev b_H_isAsked : ByteArray := prog_3_method_11_code
def y_H_isAsked : MethodName := ⟨"ClauseGlass$Sheet", "isAsked", "(II)Z"⟩
abbrev b_S_livingConsOf : ByteArray := prog_4_method_7_code
def y_S_livingConsOf : MethodName := ⟨"ClauseGlass$Sorts", "livingConsOf", "(I)I"⟩
abbrev b_H_consAskedAt : ByteArray := prog_3_method_17_code
def y_H_consAskedAt : MethodName := ⟨"ClauseGlass$Sheet", "consAskedAt", "(II)I"⟩
abbrev b_H_rowsAsking : ByteArray := prog_3_method_16_code
def y_H_rowsAsking : MethodName := ⟨"ClauseGlass$Sheet", "rowsAsking", "(III)I"⟩
abbrev b_C_count : ByteArray := prog_1_method_14_code
def y_C_count : MethodName := ⟨"ClauseGlass", "count", "(I)I"⟩
abbrev b_H_reachedRows : ByteArray := prog_3_method_8_code
def y_H_reachedRows : MethodName := ⟨"ClauseGlass$Sheet", "reachedRows", "()I"⟩
abbrev b_H_reaches : ByteArray := prog_3_method_6_code
def y_H_reaches : MethodName := ⟨"ClauseGlass$Sheet", "reaches", "(I)Z"⟩
abbrev b_H_hasValue : ByteArray := prog_3_method_9_code
def y_H_hasValue : MethodName := ⟨"ClauseGlass$Sheet", "hasValue", "(I)Z"⟩
abbrev b_S_isConLiving : ByteArray := prog_4_method_6_code
def y_S_isConLiving : MethodName := ⟨"ClauseGlass$Sorts", "isConLiving", "(I)Z"⟩
abbrev b_H_rowsBeforeThatAgree : ByteArray := prog_3_method_12_code
def y_H_rowsBeforeThatAgree : MethodName := ⟨"ClauseGlass$Sheet", "rowsBeforeThatAgree", "(I)I"⟩
abbrev b_H_agree : ByteArray := prog_3_method_10_code
def y_H_agree : MethodName := ⟨"ClauseGlass$Sheet", "agree", "(II)Z"⟩
abbrev b_JI_bitCount : ByteArray := prog_10_method_49_code
def y_JI_bitCount : MethodName := ⟨"java/lang/Integer", "bitCount", "(I)I"⟩
abbrev b_L_sort : ByteArray := method_3_code
def y_L_sort : MethodName := ⟨"ClauseGlassLaw", "sort", "(LClauseGlass;[J)I"⟩
abbrev b_C_sort : ByteArray := prog_1_method_2_code
def y_C_sort : MethodName := ⟨"ClauseGlass", "sort", "()I"⟩
abbrev b_S_addSort : ByteArray := prog_4_method_8_code
def y_S_addSort : MethodName := ⟨"ClauseGlass$Sorts", "addSort", "()I"⟩
abbrev b_S_findLiving : ByteArray := prog_4_method_10_code
def y_S_findLiving : MethodName := ⟨"ClauseGlass$Sorts", "findLiving", "()V"⟩
abbrev b_S_consWithLivingParts : ByteArray := prog_4_method_11_code
def y_S_consWithLivingParts : MethodName := ⟨"ClauseGlass$Sorts", "consWithLivingParts", "()I"⟩
abbrev b_S_partSort : ByteArray := prog_4_method_4_code
def y_S_partSort : MethodName := ⟨"ClauseGlass$Sorts", "partSort", "(II)I"⟩
abbrev b_S_sortsWithLivingCons : ByteArray := prog_4_method_12_code
def y_S_sortsWithLivingCons : MethodName := ⟨"ClauseGlass$Sorts", "sortsWithLivingCons", "()I"⟩
abbrev b_L_con : ByteArray := method_4_code
def y_L_con : MethodName := ⟨"ClauseGlassLaw", "con", "(LClauseGlass;IIII[J)I"⟩
abbrev b_C_con : ByteArray := prog_1_method_3_code
def y_C_con : MethodName := ⟨"ClauseGlass", "con", "(IIII)I"⟩
abbrev b_C_needSort : ByteArray := prog_1_method_15_code
def y_C_needSort : MethodName := ⟨"ClauseGlass", "needSort", "(I)V"⟩
abbrev b_S_hasSort : ByteArray := prog_4_method_2_code
def y_S_hasSort : MethodName := ⟨"ClauseGlass$Sorts", "hasSort", "(I)Z"⟩
abbrev b_S_addCon : ByteArray := prog_4_method_9_code
def y_S_addCon : MethodName := ⟨"ClauseGlass$Sorts", "addCon", "(IIII)I"⟩
abbrev b_L_any : ByteArray := method_5_code
def y_L_any : MethodName := ⟨"ClauseGlassLaw", "any", "(LClauseGlass;I[J)I"⟩
abbrev b_C_any : ByteArray := prog_1_method_4_code
def y_C_any : MethodName := ⟨"ClauseGlass", "any", "(I)I"⟩
abbrev b_C_needRoomForPattern : ByteArray := prog_1_method_18_code
def y_C_needRoomForPattern : MethodName := ⟨"ClauseGlass", "needRoomForPattern", "(I)V"⟩
abbrev b_P_addAny : ByteArray := prog_2_method_4_code
def y_P_addAny : MethodName := ⟨"ClauseGlass$Patterns", "addAny", "(I)I"⟩
abbrev b_P_addPattern : ByteArray := prog_2_method_7_code
def y_P_addPattern : MethodName := ⟨"ClauseGlass$Patterns", "addPattern", "(IIII)I"⟩
abbrev b_L_number : ByteArray := method_6_code
def y_L_number : MethodName := ⟨"ClauseGlassLaw", "number", "(LClauseGlass;I[J)I"⟩
abbrev b_C_number : ByteArray := prog_1_method_5_code
def y_C_number : MethodName := ⟨"ClauseGlass", "number", "(I)I"⟩
abbrev b_P_addNumber : ByteArray := prog_2_method_5_code
def y_P_addNumber : MethodName := ⟨"ClauseGlass$Patterns", "addNumber", "(I)I"⟩
abbrev b_L_made : ByteArray := method_7_code
def y_L_made : MethodName := ⟨"ClauseGlassLaw", "made", "(LClauseGlass;III[J)I"⟩
abbrev b_C_made : ByteArray := prog_1_method_6_code
def y_C_made : MethodName := ⟨"ClauseGlass", "made", "(III)I"⟩
abbrev b_S_hasCon : ByteArray := prog_4_method_3_code
def y_S_hasCon : MethodName := ⟨"ClauseGlass$Sorts", "hasCon", "(I)Z"⟩
abbrev b_C_needPatternOf : ByteArray := prog_1_method_17_code
def y_C_needPatternOf : MethodName := ⟨"ClauseGlass", "needPatternOf", "(II)V"⟩
abbrev b_C_needPattern : ByteArray := prog_1_method_16_code
def y_C_needPattern : MethodName := ⟨"ClauseGlass", "needPattern", "(I)V"⟩
abbrev b_P_hasPattern : ByteArray := prog_2_method_2_code
def y_P_hasPattern : MethodName := ⟨"ClauseGlass$Patterns", "hasPattern", "(I)Z"⟩
abbrev b_P_addMade : ByteArray := prog_2_method_6_code
def y_P_addMade : MethodName := ⟨"ClauseGlass$Patterns", "addMade", "(IIIII)I"⟩
abbrev b_L_begin : ByteArray := method_8_code
def y_L_begin : MethodName := ⟨"ClauseGlassLaw", "begin", "(LClauseGlass;I)I"⟩
abbrev b_C_begin : ByteArray := prog_1_method_7_code
def y_C_begin : MethodName := ⟨"ClauseGlass", "begin", "(I)V"⟩
abbrev b_L_clause : ByteArray := method_9_code
def y_L_clause : MethodName := ⟨"ClauseGlassLaw", "clause", "(LClauseGlass;I[J)I"⟩
abbrev b_C_clause : ByteArray := prog_1_method_8_code
def y_C_clause : MethodName := ⟨"ClauseGlass", "clause", "(I)Z"⟩
abbrev b_H_addRow : ByteArray := prog_3_method_3_code
def y_H_addRow : MethodName := ⟨"ClauseGlass$Sheet", "addRow", "(I)V"⟩
abbrev b_H_layPart : ByteArray := prog_3_method_4_code
def y_H_layPart : MethodName := ⟨"ClauseGlass$Sheet", "layPart", "(IIII)V"⟩
abbrev b_P_partOf : ByteArray := prog_2_method_3_code
def y_P_partOf : MethodName := ⟨"ClauseGlass$Patterns", "partOf", "(II)I"⟩
abbrev b_H_placeBelow : ByteArray := prog_3_method_5_code
def y_H_placeBelow : MethodName := ⟨"ClauseGlass$Sheet", "placeBelow", "(III)I"⟩
abbrev b_L_takes : ByteArray := method_10_code
def y_L_takes : MethodName := ⟨"ClauseGlassLaw", "takes", "(LClauseGlass;I[J)I"⟩
abbrev b_C_takes : ByteArray := prog_1_method_9_code
def y_C_takes : MethodName := ⟨"ClauseGlass", "takes", "(I)Z"⟩
abbrev b_L_covers : ByteArray := method_11_code
def y_L_covers : MethodName := ⟨"ClauseGlassLaw", "covers", "(LClauseGlass;II[J)I"⟩
abbrev b_C_covers : ByteArray := prog_1_method_11_code
def y_C_covers : MethodName := ⟨"ClauseGlass", "covers", "(II)Z"⟩
abbrev b_C_layPair : ByteArray := prog_1_method_19_code
def y_C_layPair : MethodName := ⟨"ClauseGlass", "layPair", "(II)V"⟩
abbrev b_L_meets : ByteArray := method_12_code
def y_L_meets : MethodName := ⟨"ClauseGlassLaw", "meets", "(LClauseGlass;II[J)I"⟩
abbrev b_C_meets : ByteArray := prog_1_method_12_code
def y_C_meets : MethodName := ⟨"ClauseGlass", "meets", "(II)Z"⟩
abbrev b_L_lives : ByteArray := method_13_code
def y_L_lives : MethodName := ⟨"ClauseGlassLaw", "lives", "(LClauseGlass;I[J)I"⟩
abbrev b_C_lives : ByteArray := prog_1_method_13_code
def y_C_lives : MethodName := ⟨"ClauseGlass", "lives", "(I)Z"⟩
abbrev b_M_init : ByteArray := prog_6_method_1_code
def y_M_init : MethodName := ⟨"ClauseGlassModel", "<init>", "()V"⟩
abbrev b_M_thrown : ByteArray := prog_6_method_2_code
def y_M_thrown : MethodName := ⟨"ClauseGlassModel", "thrown", "()I"⟩
abbrev b_M_sort : ByteArray := prog_6_method_5_code
def y_M_sort : MethodName := ⟨"ClauseGlassModel", "sort", "()I"⟩
abbrev b_M_con : ByteArray := prog_6_method_6_code
def y_M_con : MethodName := ⟨"ClauseGlassModel", "con", "(IIII)I"⟩
abbrev b_M_isSort : ByteArray := prog_6_method_3_code
def y_M_isSort : MethodName := ⟨"ClauseGlassModel", "isSort", "(I)Z"⟩
abbrev b_M_any : ByteArray := prog_6_method_8_code
def y_M_any : MethodName := ⟨"ClauseGlassModel", "any", "(I)I"⟩
abbrev b_M_pattern : ByteArray := prog_6_method_7_code
def y_M_pattern : MethodName := ⟨"ClauseGlassModel", "pattern", "(IIIIII)I"⟩
abbrev b_M_number : ByteArray := prog_6_method_9_code
def y_M_number : MethodName := ⟨"ClauseGlassModel", "number", "(I)I"⟩
abbrev b_M_made : ByteArray := prog_6_method_10_code
def y_M_made : MethodName := ⟨"ClauseGlassModel", "made", "(III)I"⟩
abbrev b_M_isPattern : ByteArray := prog_6_method_4_code
def y_M_isPattern : MethodName := ⟨"ClauseGlassModel", "isPattern", "(I)Z"⟩
abbrev b_M_begin : ByteArray := prog_6_method_11_code
def y_M_begin : MethodName := ⟨"ClauseGlassModel", "begin", "(I)V"⟩
abbrev b_M_clause : ByteArray := prog_6_method_23_code
def y_M_clause : MethodName := ⟨"ClauseGlassModel", "clause", "(I)Z"⟩
abbrev b_M_reaches : ByteArray := prog_6_method_22_code
def y_M_reaches : MethodName := ⟨"ClauseGlassModel", "reaches", "(I)Z"⟩
abbrev b_M_has : ByteArray := prog_6_method_21_code
def y_M_has : MethodName := ⟨"ClauseGlassModel", "has", "(I)Z"⟩
abbrev b_M_live : ByteArray := prog_6_method_12_code
def y_M_live : MethodName := ⟨"ClauseGlassModel", "live", "()V"⟩
abbrev b_M_isUsed : ByteArray := prog_6_method_13_code
def y_M_isUsed : MethodName := ⟨"ClauseGlassModel", "isUsed", "(I)Z"⟩
abbrev b_M_gather : ByteArray := prog_6_method_20_code
def y_M_gather : MethodName := ⟨"ClauseGlassModel", "gather", "(I)V"⟩
abbrev b_M_look : ByteArray := prog_6_method_19_code
def y_M_look : MethodName := ⟨"ClauseGlassModel", "look", "(I)I"⟩
abbrev b_M_node : ByteArray := prog_6_method_14_code
def y_M_node : MethodName := ⟨"ClauseGlassModel", "node", "(I)I"⟩
abbrev b_M_fill : ByteArray := prog_6_method_17_code
def y_M_fill : MethodName := ⟨"ClauseGlassModel", "fill", "(II)V"⟩
abbrev b_M_isTried : ByteArray := prog_6_method_15_code
def y_M_isTried : MethodName := ⟨"ClauseGlassModel", "isTried", "(I)Z"⟩
abbrev b_M_fit : ByteArray := prog_6_method_18_code
def y_M_fit : MethodName := ⟨"ClauseGlassModel", "fit", "(II)I"⟩
abbrev b_M_options : ByteArray := prog_6_method_16_code
def y_M_options : MethodName := ⟨"ClauseGlassModel", "options", "(I)I"⟩
abbrev b_M_takes : ByteArray := prog_6_method_24_code
def y_M_takes : MethodName := ⟨"ClauseGlassModel", "takes", "(I)Z"⟩
abbrev b_M_open : ByteArray := prog_6_method_25_code
def y_M_open : MethodName := ⟨"ClauseGlassModel", "open", "()Z"⟩
abbrev b_M_covers : ByteArray := prog_6_method_27_code
def y_M_covers : MethodName := ⟨"ClauseGlassModel", "covers", "(II)Z"⟩
abbrev b_M_areLike : ByteArray := prog_6_method_26_code
def y_M_areLike : MethodName := ⟨"ClauseGlassModel", "areLike", "(II)Z"⟩
abbrev b_M_meets : ByteArray := prog_6_method_28_code
def y_M_meets : MethodName := ⟨"ClauseGlassModel", "meets", "(II)Z"⟩
abbrev b_M_lives : ByteArray := prog_6_method_29_code
def y_M_lives : MethodName := ⟨"ClauseGlassModel", "lives", "(I)Z"⟩
abbrev b_M_count : ByteArray := prog_6_method_30_code
def y_M_count : MethodName := ⟨"ClauseGlassModel", "count", "(I)I"⟩
abbrev b_L_law : ByteArray := code
def y_L_law : MethodName := ⟨"ClauseGlassLaw", "law", "([I)Z"⟩
end
section
/-! the judgement: from the frame at pc (locals ls, stack st, both abstract) over the abstract heap A the method comes to an end that 'post' allows -/
def mj_ex (C : Nat) : String := match C with
  | 0 => "java/lang/IllegalArgumentException"
  | _ => "java/lang/IndexOutOfBoundsException"
def mj_Ext (ad ad0 : Nat → Nat) (n0 n1 : Nat) : Prop := ∀ k, (k < n0 ∨ n1 ≤ k) → ad k = ad0 k
def mj_Hp (D : va_G) (F : Nat → Prop) (ad : Nat → Nat) (cy : Nat → ClassId) (A : List mj_C) (U : State) (H : Heap) : Prop :=
  va_P D mj_cl (mj_W ad cy A) H ∧ va_D F (mj_W ad cy A) ∧ va_K D mj_cl [] U ∧ (∀ (k : Nat) (q : Nat × vp_A), A[k]? = some (.inl q) → ArrOfT U (cy k) (mj_ty q.1) ∧ va_RA U (cy k) (mj_ty q.1)) ∧ (∀ (k : Nat) (c : mj_C), A[k]? = some c → mj_rf A.length c)
/-- a static of Throwable's that holds a reference or null, in a cell that is never written -/
def mj_st (n d : String) (F : Nat → Prop) (s : State) (H : Heap) : Prop := ∃ (c i a : Nat) (k : Class) (f : Field) (cell : Cell) (v : Value), s.vm.findClass Bundle.tN = some c ∧ s.fieldFound? Bundle.tN n d = some (c, k, i, f) ∧ f.isStatic = true ∧ k.statics = some a ∧ H[a]? = some cell ∧ cell.vm.isStatics = true ∧ cell.cls = c ∧ f.slot < cell.slots.size ∧ k.staticTypes[f.slot]? = some f.type ∧ cell.slots[f.slot]? = some v ∧ v.isRef = true ∧ ¬ F a
theorem mj_st_moved {n d : String} {F F' : Nat → Prop} {s U : State} {H H1 : Heap} (h : mj_st n d F s H) (hal : s.vm.Alike U.vm) (hq : ∀ a : Nat, a < H.size → ¬ F a → H1[a]? = H[a]?) (hF : ∀ q, F' q → F q) : mj_st n d F' U H1 := by
  obtain ⟨c, i, a, k, f, cell, v, h1, h2, h3, h4, h5, h6, h7, h8, h9, h10, h11, h12⟩ := h
  obtain ⟨k', hi', he⟩ := State.fieldFound?_setVm hal h2
  exact ⟨c, i, a, k', f, cell, v, by rw [hal.findClass]; exact h1, hi', h3, by rw [he]; exact h4, (hq a (Array.getElem?_eq_some_iff.mp h5).1 h12).trans h5, h6, h7, h8, by rw [he]; exact h9, h10, h11, fun h => h12 (hF a h)⟩
theorem mj_st_lays {n d : String} {F : Nat → Prop} {s : State} {args : Array Value} (h : mj_st n d F s s.heap) : (Cond.laysStatic Bundle.tN n d).before args s = true := by
  obtain ⟨c, i, a, k, f, cell, v, h1, h2, h3, h4, h5, h6, h7, h8, h9, -⟩ := h
  exact Cond.laysStatic_of h1 h2 h3 h4 h5 h6 h7 h8 h9
theorem mj_st_ref {n d : String} {F : Nat → Prop} {s : State} {args : Array Value} (h : mj_st n d F s s.heap) : (Cond.isRef (.static Bundle.tN n d)).before args s = true := by
  obtain ⟨c, i, a, k, f, cell, v, h1, h2, h3, h4, h5, h6, h7, h8, h9, h10, h11, -⟩ := h
  have e := Term.static_eval (args := args) (first := s) (o := none) (idx := []) h2 h3 h4 h5 h6 h10
  cases v <;> simp_all [Cond.before, Cond.holds, Cond.value, Value.isRef]
theorem mj_st_of {n d : String} {F : Nat → Prop} {s : State} {args : Array Value} (hl : (Cond.laysStatic Bundle.tN n d).before args s = true) (hr : (Cond.isRef (.static Bundle.tN n d)).before args s = true) (hF : ∀ a : Nat, a < s.heap.size → ¬ F a) : mj_st n d F s s.heap := by
  obtain ⟨c, k, i, f, a, cell, h1, h2, h3, h4, h5, h6, h7, h8, h9⟩ := Cond.laysStatic_spec hl
  have hv : ∃ v, cell.slots[f.slot]? = some v := ⟨_, Array.getElem?_eq_getElem h8⟩
  obtain ⟨v, hv⟩ := hv
  have e := Term.static_eval (args := args) (first := s) (o := none) (idx := []) h2 h3 h4 h5 h6 hv
  refine ⟨c, i, a, k, f, cell, v, h1, h2, h3, h4, h5, h6, h7, h8, h9, hv, ?_, hF a (Array.getElem?_eq_some_iff.mp h5).1⟩
  cases v <;> simp_all [Cond.before, Cond.holds, Cond.value, Value.isRef]
def mj_X (y : MethodName) (cc : ByteArray) (nL : Nat) (rt : Option FieldType) (hh : List (Nat × Nat × Nat × Nat)) (d : Nat) (p : Program) (e : Env) (R : Room) (s : State) (m : MethodId) (args : Array Value) (meth : Method) (c : Code) (F : Nat → Prop) (nc ns : Nat) : Prop :=
  p.tables.exec = Jvm.exec ∧ e.platform.stackTraces = false ∧ c.code = cc ∧ c.maxLocals = nL ∧ meth.sig.returnType = rt ∧ meth.locks = false ∧ meth.name = y.name ∧ s.vm.findClass y.cls = some m.cls ∧ (∀ w ∈ tw_tbl, w.before args s = true) ∧ c.exceptionTable.toList.map (fun h => (h.startPc, h.endPc, h.handlerPc, h.catchType)) = hh ∧
  (R.frames = d ∧ 41 * d ≤ R.locals ∧ R.cells + nc = 601024 ∧ R.slots + ns = 7293034) ∧ (∀ q, s.heap.size ≤ q → F q) ∧ (∀ (q : Nat) (cell : Cell), F q → s.heap[q]? = some cell → cell.vm.isStatics = false) ∧
  mj_st "UNASSIGNED_STACK" Bundle.steD F s s.heap ∧ mj_st "SUPPRESSED_SENTINEL" Bundle.listD F s s.heap ∧ va_Nc (mj_ex 1) (mj_ex 0) s
def mj_Z (sc : Option (Nat × (Nat → Int32))) (ad : Nat → Nat) (F : Nat → Prop) (s : State) : Prop := match sc with
  | none => True
  | some q => va_X (ad 1000000) q.1 q.2 s s.heap ∧ ad 1000000 < s.heap.size ∧ ¬ F (ad 1000000)
def mj_out (s : State) (ad : Nat → Nat) (out : mj_O) (o : Outcome) (t : State) : Prop := match out with
  | .inl v => o = .returned (v.map (mj_v ad))
  | .inr C => ∃ (x : Addr) (cell : Cell), o = .threw x ∧ t.heap[x]? = some cell ∧ cell.vm.isStatics = false ∧ s.vm.findClass (mj_ex C) = some cell.cls
def mj_fin (s : State) (F : Nat → Prop) (D : va_G) (ad0 : Nat → Nat) (n0 nc ns : Nat) (post : mj_O → mj_H → Prop) (o : Outcome) (t : State) : Prop :=
  ∃ (out : mj_O) (A' : mj_H) (ad' : Nat → Nat) (cy' : Nat → ClassId) (cells' slots' : Nat) (locs' : List Loc), post out A' ∧ mj_out s ad' out o t ∧ mj_Hp D F ad' cy' A'.1 s t.heap ∧ mj_Ext ad' ad0 n0 A'.1.length ∧ n0 ≤ A'.1.length ∧
    va_S F s.heap t.heap locs' ∧ (A'.2.1 = nc + cells' ∧ A'.2.1 ≤ 601024) ∧ (A'.2.2 = ns + slots' ∧ A'.2.2 ≤ 7293034) ∧ s.WarmedH t.vm ∧ s.sameButNew ({ t with vm := s.vm } : State) locs' cells' slots'
def mj_end (below : List Frame) (s : State) (F : Nat → Prop) (D : va_G) (ad0 : Nat → Nat) (n0 nc ns : Nat) (post : mj_O → mj_H → Prop) : State → Prop := fun t =>
  ∃ o : Outcome, t.status = .running ∧ Ended t below o ∧ mj_fin s F D ad0 n0 nc ns post o t
def mj_ls (ad : Nat → Nat) (ls : List (Nat × Value)) : List (Nat × Value) := ls.map (fun q => (q.1, mj_v ad q.2))
def mj_G (y : MethodName) (cc : ByteArray) (nL : Nat) (rt : Option FieldType) (hh : List (Nat × Nat × Nat × Nat)) (d : Nat) (sc : Option (Nat × (Nat → Int32))) (pc : Nat) (ls : List (Nat × Value)) (st : List Value) (A : mj_H) (post : mj_O → mj_H → Prop) : Prop :=
  ∀ (p : Program) (l : Launch) (e : Env) (R : Room) (s : State) (m : MethodId) (args : Array Value) (below : List Frame) (meth : Method) (c : Code) (H : Heap) (locs : List Loc) (cells slots : Nat) (F : Nat → Prop) (nc ns : Nat) (D : va_G) (ad ad0 : Nat → Nat) (cy : Nat → ClassId) (n0 : Nat) (lsC : Array Slot),
    mj_X y cc nL rt hh d p e R s m args meth c F nc ns → mj_Z sc ad F s → mj_Hp D F ad cy A.1 s H → mj_Ext ad ad0 n0 A.1.length → n0 ≤ A.1.length → va_S F s.heap H locs → (A.2.1 = nc + cells ∧ A.2.1 ≤ 601024) → (A.2.2 = ns + slots ∧ A.2.2 ≤ 7293034) → lv_has lsC nL (mj_ls ad ls) →
    W p l e R s m args below meth c H locs cells slots (mj_end below s F D ad0 n0 nc ns post) (F0 m pc lsC (st.map (mj_v ad)))
theorem mj_cat (ad : Nat → Nat) (v : Value) : (mj_v ad v).category = v.category := by cases v <;> rfl
theorem mj_ls_at {ad : Nat → Nat} {ls : List (Nat × Value)} {j i : Nat} {v : Value} (h : ls[j]? = some (i, v)) : (mj_ls ad ls)[j]? = some (i, mj_v ad v) := by simp [mj_ls, h]
theorem mj_ls_f {ad : Nat → Nat} {ls : List (Nat × Value)} (f : Nat → Nat → Bool) : (mj_ls ad ls).filter (fun q => f q.1 q.2.category) = mj_ls ad (ls.filter (fun q => f q.1 q.2.category)) := by
  unfold mj_ls
  rw [List.filter_map]
  congr 1
  apply List.filter_congr
  intro q _
  show f q.1 (mj_v ad q.2).category = f q.1 q.2.category
  rw [mj_cat]
section GR
variable {y : MethodName} {cc : ByteArray} {nL : Nat} {rt : Option FieldType} {hh : List (Nat × Nat × Nat × Nat)} {d : Nat} {sc : Option (Nat × (Nat → Int32))} {pc : Nat} {ls : List (Nat × Value)} {st : List Value} {A : mj_H} {post : mj_O → mj_H → Prop}

theorem G_iadd {x z : Int32} (hd : decode cc pc = .ok (.iadd, 1)) (k : mj_G y cc nL rt hh d sc (pc + 1) ls (.int (x + z) :: st) A post) : mj_G y cc nL rt hh d sc pc ls (.int z :: .int x :: st) A post := by
  intro p l e R s m args below meth c H locs cells slots F nc ns D ad ad0 cy n0 lsC hX hZ hH hE hn hS hc hs hl
  exact lv_iadd hX.1 hX.2.2.1 hd (k _ _ _ _ _ _ _ _ _ _ _ _ _ _ _ _ _ _ _ _ _ _ _ hX hZ hH hE hn hS hc hs hl)

theorem G_isub {x z : Int32} (hd : decode cc pc = .ok (.isub, 1)) (k : mj_G y cc nL rt hh d sc (pc + 1) ls (.int (x - z) :: st) A post) : mj_G y cc nL rt hh d sc pc ls (.int z :: .int x :: st) A post := by
  intro p l e R s m args below meth c H locs cells slots F nc ns D ad ad0 cy n0 lsC hX hZ hH hE hn hS hc hs hl
  exact lv_isub hX.1 hX.2.2.1 hd (k _ _ _ _ _ _ _ _ _ _ _ _ _ _ _ _ _ _ _ _ _ _ _ hX hZ hH hE hn hS hc hs hl)

theorem G_imul {x z : Int32} (hd : decode cc pc = .ok (.imul, 1)) (k : mj_G y cc nL rt hh d sc (pc + 1) ls (.int (x * z) :: st) A post) : mj_G y cc nL rt hh d sc pc ls (.int z :: .int x :: st) A post := by
  intro p l e R s m args below meth c H locs cells slots F nc ns D ad ad0 cy n0 lsC hX hZ hH hE hn hS hc hs hl
  exact lv_imul hX.1 hX.2.2.1 hd (k _ _ _ _ _ _ _ _ _ _ _ _ _ _ _ _ _ _ _ _ _ _ _ hX hZ hH hE hn hS hc hs hl)

theorem G_iand {x z : Int32} (hd : decode cc pc = .ok (.iand, 1)) (k : mj_G y cc nL rt hh d sc (pc + 1) ls (.int (x &&& z) :: st) A post) : mj_G y cc nL rt hh d sc pc ls (.int z :: .int x :: st) A post := by
  intro p l e R s m args below meth c H locs cells slots F nc ns D ad ad0 cy n0 lsC hX hZ hH hE hn hS hc hs hl
  exact lv_iand hX.1 hX.2.2.1 hd (k _ _ _ _ _ _ _ _ _ _ _ _ _ _ _ _ _ _ _ _ _ _ _ hX hZ hH hE hn hS hc hs hl)

theorem G_ior {x z : Int32} (hd : decode cc pc = .ok (.ior, 1)) (k : mj_G y cc nL rt hh d sc (pc + 1) ls (.int (x ||| z) :: st) A post) : mj_G y cc nL rt hh d sc pc ls (.int z :: .int x :: st) A post := by
  intro p l e R s m args below meth c H locs cells slots F nc ns D ad ad0 cy n0 lsC hX hZ hH hE hn hS hc hs hl
  exact lv_ior hX.1 hX.2.2.1 hd (k _ _ _ _ _ _ _ _ _ _ _ _ _ _ _ _ _ _ _ _ _ _ _ hX hZ hH hE hn hS hc hs hl)

theorem G_ixor {x z : Int32} (hd : decode cc pc = .ok (.ixor, 1)) (k : mj_G y cc nL rt hh d sc (pc + 1) ls (.int (x ^^^ z) :: st) A post) : mj_G y cc nL rt hh d sc pc ls (.int z :: .int x :: st) A post := by
  intro p l e R s m args below meth c H locs cells slots F nc ns D ad ad0 cy n0 lsC hX hZ hH hE hn hS hc hs hl
  exact lv_ixor hX.1 hX.2.2.1 hd (k _ _ _ _ _ _ _ _ _ _ _ _ _ _ _ _ _ _ _ _ _ _ _ hX hZ hH hE hn hS hc hs hl)

theorem G_ishl {x z : Int32} (hd : decode cc pc = .ok (.ishl, 1)) (k : mj_G y cc nL rt hh d sc (pc + 1) ls (.int (x <<< (z &&& 31)) :: st) A post) : mj_G y cc nL rt hh d sc pc ls (.int z :: .int x :: st) A post := by
  intro p l e R s m args below meth c H locs cells slots F nc ns D ad ad0 cy n0 lsC hX hZ hH hE hn hS hc hs hl
  exact lv_ishl hX.1 hX.2.2.1 hd (k _ _ _ _ _ _ _ _ _ _ _ _ _ _ _ _ _ _ _ _ _ _ _ hX hZ hH hE hn hS hc hs hl)

theorem G_ishr {x z : Int32} (hd : decode cc pc = .ok (.ishr, 1)) (k : mj_G y cc nL rt hh d sc (pc + 1) ls (.int (x >>> (z &&& 31)) :: st) A post) : mj_G y cc nL rt hh d sc pc ls (.int z :: .int x :: st) A post := by
  intro p l e R s m args below meth c H locs cells slots F nc ns D ad ad0 cy n0 lsC hX hZ hH hE hn hS hc hs hl
  exact lv_ishr hX.1 hX.2.2.1 hd (k _ _ _ _ _ _ _ _ _ _ _ _ _ _ _ _ _ _ _ _ _ _ _ hX hZ hH hE hn hS hc hs hl)

theorem G_ladd {x z : Int64} (hd : decode cc pc = .ok (.ladd, 1)) (k : mj_G y cc nL rt hh d sc (pc + 1) ls (.long (x + z) :: st) A post) : mj_G y cc nL rt hh d sc pc ls (.long z :: .long x :: st) A post := by
  intro p l e R s m args below meth c H locs cells slots F nc ns D ad ad0 cy n0 lsC hX hZ hH hE hn hS hc hs hl
  exact lv_ladd hX.1 hX.2.2.1 hd (k _ _ _ _ _ _ _ _ _ _ _ _ _ _ _ _ _ _ _ _ _ _ _ hX hZ hH hE hn hS hc hs hl)

theorem G_lsub {x z : Int64} (hd : decode cc pc = .ok (.lsub, 1)) (k : mj_G y cc nL rt hh d sc (pc + 1) ls (.long (x - z) :: st) A post) : mj_G y cc nL rt hh d sc pc ls (.long z :: .long x :: st) A post := by
  intro p l e R s m args below meth c H locs cells slots F nc ns D ad ad0 cy n0 lsC hX hZ hH hE hn hS hc hs hl
  exact lv_lsub hX.1 hX.2.2.1 hd (k _ _ _ _ _ _ _ _ _ _ _ _ _ _ _ _ _ _ _ _ _ _ _ hX hZ hH hE hn hS hc hs hl)

theorem G_land {x z : Int64} (hd : decode cc pc = .ok (.land, 1)) (k : mj_G y cc nL rt hh d sc (pc + 1) ls (.long (x &&& z) :: st) A post) : mj_G y cc nL rt hh d sc pc ls (.long z :: .long x :: st) A post := by
  intro p l e R s m args below meth c H locs cells slots F nc ns D ad ad0 cy n0 lsC hX hZ hH hE hn hS hc hs hl
  exact lv_land hX.1 hX.2.2.1 hd (k _ _ _ _ _ _ _ _ _ _ _ _ _ _ _ _ _ _ _ _ _ _ _ hX hZ hH hE hn hS hc hs hl)

theorem G_lor {x z : Int64} (hd : decode cc pc = .ok (.lor, 1)) (k : mj_G y cc nL rt hh d sc (pc + 1) ls (.long (x ||| z) :: st) A post) : mj_G y cc nL rt hh d sc pc ls (.long z :: .long x :: st) A post := by
  intro p l e R s m args below meth c H locs cells slots F nc ns D ad ad0 cy n0 lsC hX hZ hH hE hn hS hc hs hl
  exact lv_lor hX.1 hX.2.2.1 hd (k _ _ _ _ _ _ _ _ _ _ _ _ _ _ _ _ _ _ _ _ _ _ _ hX hZ hH hE hn hS hc hs hl)

theorem G_lxor {x z : Int64} (hd : decode cc pc = .ok (.lxor, 1)) (k : mj_G y cc nL rt hh d sc (pc + 1) ls (.long (x ^^^ z) :: st) A post) : mj_G y cc nL rt hh d sc pc ls (.long z :: .long x :: st) A post := by
  intro p l e R s m args below meth c H locs cells slots F nc ns D ad ad0 cy n0 lsC hX hZ hH hE hn hS hc hs hl
  exact lv_lxor hX.1 hX.2.2.1 hd (k _ _ _ _ _ _ _ _ _ _ _ _ _ _ _ _ _ _ _ _ _ _ _ hX hZ hH hE hn hS hc hs hl)

theorem G_lshl {x : Int64} {z : Int32} (hd : decode cc pc = .ok (.lshl, 1)) (k : mj_G y cc nL rt hh d sc (pc + 1) ls (.long (x <<< (z.toInt64 &&& 63)) :: st) A post) : mj_G y cc nL rt hh d sc pc ls (.int z :: .long x :: st) A post := by
  intro p l e R s m args below meth c H locs cells slots F nc ns D ad ad0 cy n0 lsC hX hZ hH hE hn hS hc hs hl
  exact lv_lshl hX.1 hX.2.2.1 hd rfl (k _ _ _ _ _ _ _ _ _ _ _ _ _ _ _ _ _ _ _ _ _ _ _ hX hZ hH hE hn hS hc hs hl)

theorem G_lshr {x : Int64} {z : Int32} (hd : decode cc pc = .ok (.lshr, 1)) (k : mj_G y cc nL rt hh d sc (pc + 1) ls (.long (x >>> (z.toInt64 &&& 63)) :: st) A post) : mj_G y cc nL rt hh d sc pc ls (.int z :: .long x :: st) A post := by
  intro p l e R s m args below meth c H locs cells slots F nc ns D ad ad0 cy n0 lsC hX hZ hH hE hn hS hc hs hl
  exact lv_lshr hX.1 hX.2.2.1 hd rfl (k _ _ _ _ _ _ _ _ _ _ _ _ _ _ _ _ _ _ _ _ _ _ _ hX hZ hH hE hn hS hc hs hl)

theorem G_lushr {x : Int64} {z : Int32} (hd : decode cc pc = .ok (.lushr, 1)) (k : mj_G y cc nL rt hh d sc (pc + 1) ls (.long ((x.toUInt64 >>> (z.toInt64.toUInt64 &&& Int64.toUInt64 63)).toInt64) :: st) A post) : mj_G y cc nL rt hh d sc pc ls (.int z :: .long x :: st) A post := by
  intro p l e R s m args below meth c H locs cells slots F nc ns D ad ad0 cy n0 lsC hX hZ hH hE hn hS hc hs hl
  exact lv_lushr hX.1 hX.2.2.1 hd rfl (k _ _ _ _ _ _ _ _ _ _ _ _ _ _ _ _ _ _ _ _ _ _ _ hX hZ hH hE hn hS hc hs hl)

theorem G_iushr {x z : Int32} (hd : decode cc pc = .ok (.iushr, 1)) (k : mj_G y cc nL rt hh d sc (pc + 1) ls (.int ((x.toUInt32 >>> (z.toUInt32 &&& Int32.toUInt32 31)).toInt32) :: st) A post) : mj_G y cc nL rt hh d sc pc ls (.int z :: .int x :: st) A post := by
  intro p l e R s m args below meth c H locs cells slots F nc ns D ad ad0 cy n0 lsC hX hZ hH hE hn hS hc hs hl
  exact lv_iushr hX.1 hX.2.2.1 hd rfl (k _ _ _ _ _ _ _ _ _ _ _ _ _ _ _ _ _ _ _ _ _ _ _ hX hZ hH hE hn hS hc hs hl)

theorem G_i2l {x : Int32} (hd : decode cc pc = .ok (.i2l, 1)) (k : mj_G y cc nL rt hh d sc (pc + 1) ls (.long x.toInt64 :: st) A post) : mj_G y cc nL rt hh d sc pc ls (.int x :: st) A post := by
  intro p l e R s m args below meth c H locs cells slots F nc ns D ad ad0 cy n0 lsC hX hZ hH hE hn hS hc hs hl
  exact lv_i2l hX.1 hX.2.2.1 hd rfl (k _ _ _ _ _ _ _ _ _ _ _ _ _ _ _ _ _ _ _ _ _ _ _ hX hZ hH hE hn hS hc hs hl)

theorem G_l2i {x : Int64} (hd : decode cc pc = .ok (.l2i, 1)) (k : mj_G y cc nL rt hh d sc (pc + 1) ls (.int x.toInt32 :: st) A post) : mj_G y cc nL rt hh d sc pc ls (.long x :: st) A post := by
  intro p l e R s m args below meth c H locs cells slots F nc ns D ad ad0 cy n0 lsC hX hZ hH hE hn hS hc hs hl
  exact lv_l2i hX.1 hX.2.2.1 hd rfl (k _ _ _ _ _ _ _ _ _ _ _ _ _ _ _ _ _ _ _ _ _ _ _ hX hZ hH hE hn hS hc hs hl)

theorem G_iconst {n : Int} {v : Int32} (hd : decode cc pc = .ok (.iconst n, 1)) (hv : Int32.ofInt n = v) (k : mj_G y cc nL rt hh d sc (pc + 1) ls (.int v :: st) A post) : mj_G y cc nL rt hh d sc pc ls st A post := by
  intro p l e R s m args below meth c H locs cells slots F nc ns D ad ad0 cy n0 lsC hX hZ hH hE hn hS hc hs hl
  exact lv_iconst hX.1 hX.2.2.1 hd hv (k _ _ _ _ _ _ _ _ _ _ _ _ _ _ _ _ _ _ _ _ _ _ _ hX hZ hH hE hn hS hc hs hl)

theorem G_bipush {n : Int} {v : Int32} (hd : decode cc pc = .ok (.bipush n, 2)) (hv : (Int8.ofInt n).toInt32 = v) (k : mj_G y cc nL rt hh d sc (pc + 2) ls (.int v :: st) A post) : mj_G y cc nL rt hh d sc pc ls st A post := by
  intro p l e R s m args below meth c H locs cells slots F nc ns D ad ad0 cy n0 lsC hX hZ hH hE hn hS hc hs hl
  exact lv_bipush hX.1 hX.2.2.1 hd hv (k _ _ _ _ _ _ _ _ _ _ _ _ _ _ _ _ _ _ _ _ _ _ _ hX hZ hH hE hn hS hc hs hl)

theorem G_sipush {n : Int} {v : Int32} (hd : decode cc pc = .ok (.sipush n, 3)) (hv : (Int16.ofInt n).toInt32 = v) (k : mj_G y cc nL rt hh d sc (pc + 3) ls (.int v :: st) A post) : mj_G y cc nL rt hh d sc pc ls st A post := by
  intro p l e R s m args below meth c H locs cells slots F nc ns D ad ad0 cy n0 lsC hX hZ hH hE hn hS hc hs hl
  exact lv_sipush hX.1 hX.2.2.1 hd hv (k _ _ _ _ _ _ _ _ _ _ _ _ _ _ _ _ _ _ _ _ _ _ _ hX hZ hH hE hn hS hc hs hl)

theorem G_lconst {n : Fin 2} {v : Int64} (hd : decode cc pc = .ok (.lconst n, 1)) (hv : Int64.ofNat (n : Nat) = v) (k : mj_G y cc nL rt hh d sc (pc + 1) ls (.long v :: st) A post) : mj_G y cc nL rt hh d sc pc ls st A post := by
  intro p l e R s m args below meth c H locs cells slots F nc ns D ad ad0 cy n0 lsC hX hZ hH hE hn hS hc hs hl
  exact lv_lconst hX.1 hX.2.2.1 hd hv (k _ _ _ _ _ _ _ _ _ _ _ _ _ _ _ _ _ _ _ _ _ _ _ hX hZ hH hE hn hS hc hs hl)

theorem G_iload (j : Nat) {i : Nat} {x : Int32} (hd : decode cc pc = .ok (.iload i, 2)) (hj : ls[j]? = some (i, .int x)) (k : mj_G y cc nL rt hh d sc (pc + 2) ls (.int x :: st) A post) : mj_G y cc nL rt hh d sc pc ls st A post := by
  intro p l e R s m args below meth c H locs cells slots F nc ns D ad ad0 cy n0 lsC hX hZ hH hE hn hS hc hs hl
  exact lv_iload hX.1 hX.2.2.1 hd (lv_at hl j (mj_ls_at hj)) (k _ _ _ _ _ _ _ _ _ _ _ _ _ _ _ _ _ _ _ _ _ _ _ hX hZ hH hE hn hS hc hs hl)

theorem G_iload_n (j : Nat) {w4 : Fin 4} {x : Int32} (hd : decode cc pc = .ok (.iload_n w4, 1)) (hj : ls[j]? = some ((w4 : Nat), .int x)) (k : mj_G y cc nL rt hh d sc (pc + 1) ls (.int x :: st) A post) : mj_G y cc nL rt hh d sc pc ls st A post := by
  intro p l e R s m args below meth c H locs cells slots F nc ns D ad ad0 cy n0 lsC hX hZ hH hE hn hS hc hs hl
  exact lv_iload_n hX.1 hX.2.2.1 hd rfl (lv_at hl j (mj_ls_at hj)) (k _ _ _ _ _ _ _ _ _ _ _ _ _ _ _ _ _ _ _ _ _ _ _ hX hZ hH hE hn hS hc hs hl)

theorem G_lload (j : Nat) {i : Nat} {x : Int64} (hd : decode cc pc = .ok (.lload i, 2)) (hj : ls[j]? = some (i, .long x)) (k : mj_G y cc nL rt hh d sc (pc + 2) ls (.long x :: st) A post) : mj_G y cc nL rt hh d sc pc ls st A post := by
  intro p l e R s m args below meth c H locs cells slots F nc ns D ad ad0 cy n0 lsC hX hZ hH hE hn hS hc hs hl
  exact lv_lload hX.1 hX.2.2.1 hd (lv_at hl j (mj_ls_at hj)) (k _ _ _ _ _ _ _ _ _ _ _ _ _ _ _ _ _ _ _ _ _ _ _ hX hZ hH hE hn hS hc hs hl)

theorem G_lload_n (j : Nat) {w4 : Fin 4} {x : Int64} (hd : decode cc pc = .ok (.lload_n w4, 1)) (hj : ls[j]? = some ((w4 : Nat), .long x)) (k : mj_G y cc nL rt hh d sc (pc + 1) ls (.long x :: st) A post) : mj_G y cc nL rt hh d sc pc ls st A post := by
  intro p l e R s m args below meth c H locs cells slots F nc ns D ad ad0 cy n0 lsC hX hZ hH hE hn hS hc hs hl
  exact lv_lload_n hX.1 hX.2.2.1 hd rfl (lv_at hl j (mj_ls_at hj)) (k _ _ _ _ _ _ _ _ _ _ _ _ _ _ _ _ _ _ _ _ _ _ _ hX hZ hH hE hn hS hc hs hl)

theorem G_aload (j : Nat) {i : Nat} {x : Nat} (hd : decode cc pc = .ok (.aload i, 2)) (hj : ls[j]? = some (i, .ref x)) (k : mj_G y cc nL rt hh d sc (pc + 2) ls (.ref x :: st) A post) : mj_G y cc nL rt hh d sc pc ls st A post := by
  intro p l e R s m args below meth c H locs cells slots F nc ns D ad ad0 cy n0 lsC hX hZ hH hE hn hS hc hs hl
  exact lv_aload hX.1 hX.2.2.1 hd (lv_at hl j (mj_ls_at hj)) (k _ _ _ _ _ _ _ _ _ _ _ _ _ _ _ _ _ _ _ _ _ _ _ hX hZ hH hE hn hS hc hs hl)

theorem G_aload_n (j : Nat) {w4 : Fin 4} {x : Nat} (hd : decode cc pc = .ok (.aload_n w4, 1)) (hj : ls[j]? = some ((w4 : Nat), .ref x)) (k : mj_G y cc nL rt hh d sc (pc + 1) ls (.ref x :: st) A post) : mj_G y cc nL rt hh d sc pc ls st A post := by
  intro p l e R s m args below meth c H locs cells slots F nc ns D ad ad0 cy n0 lsC hX hZ hH hE hn hS hc hs hl
  exact lv_aload_n hX.1 hX.2.2.1 hd rfl (lv_at hl j (mj_ls_at hj)) (k _ _ _ _ _ _ _ _ _ _ _ _ _ _ _ _ _ _ _ _ _ _ _ hX hZ hH hE hn hS hc hs hl)

theorem G_istore {i : Nat} {x : Int32} {ls' : List (Nat × Value)} (hd : decode cc pc = .ok (.istore i, 2)) (hi : i < nL) (he : (i, Value.int x) :: ls.filter (fun q => !(q.1 == i) && !(q.1 + 1 == i && q.2.category == 2)) = ls') (k : mj_G y cc nL rt hh d sc (pc + 2) ls' st A post) : mj_G y cc nL rt hh d sc pc ls (.int x :: st) A post := by
  intro p l e R s m args below meth c H locs cells slots F nc ns D ad ad0 cy n0 lsC hX hZ hH hE hn hS hc hs hl
  refine lv_istore (lv' := mj_ls ad ls') hX.1 hX.2.2.1 hd hl hi (by rw [← he, mj_ls_f (fun a b => !(a == i) && !(a + 1 == i && b == 2))]; rfl) (fun lsC hl => ?_)
  exact k _ _ _ _ _ _ _ _ _ _ _ _ _ _ _ _ _ _ _ _ _ _ _ hX hZ hH hE hn hS hc hs hl

theorem G_istore_n {w4 : Fin 4} {x : Int32} {ls' : List (Nat × Value)} (hd : decode cc pc = .ok (.istore_n w4, 1)) (hi : (w4 : Nat) < nL) (he : ((w4 : Nat), Value.int x) :: ls.filter (fun q => !(q.1 == (w4 : Nat)) && !(q.1 + 1 == (w4 : Nat) && q.2.category == 2)) = ls') (k : mj_G y cc nL rt hh d sc (pc + 1) ls' st A post) : mj_G y cc nL rt hh d sc pc ls (.int x :: st) A post := by
  intro p l e R s m args below meth c H locs cells slots F nc ns D ad ad0 cy n0 lsC hX hZ hH hE hn hS hc hs hl
  refine lv_istore_n (lv' := mj_ls ad ls') hX.1 hX.2.2.1 hd rfl hl hi (by rw [← he, mj_ls_f (fun a b => !(a == (w4 : Nat)) && !(a + 1 == (w4 : Nat) && b == 2))]; rfl) (fun lsC hl => ?_)
  exact k _ _ _ _ _ _ _ _ _ _ _ _ _ _ _ _ _ _ _ _ _ _ _ hX hZ hH hE hn hS hc hs hl

theorem G_astore {i : Nat} {x : Nat} {ls' : List (Nat × Value)} (hd : decode cc pc = .ok (.astore i, 2)) (hi : i < nL) (he : (i, Value.ref x) :: ls.filter (fun q => !(q.1 == i) && !(q.1 + 1 == i && q.2.category == 2)) = ls') (k : mj_G y cc nL rt hh d sc (pc + 2) ls' st A post) : mj_G y cc nL rt hh d sc pc ls (.ref x :: st) A post := by
  intro p l e R s m args below meth c H locs cells slots F nc ns D ad ad0 cy n0 lsC hX hZ hH hE hn hS hc hs hl
  refine lv_astore (lv' := mj_ls ad ls') hX.1 hX.2.2.1 hd hl hi (by rw [← he, mj_ls_f (fun a b => !(a == i) && !(a + 1 == i && b == 2))]; rfl) (fun lsC hl => ?_)
  exact k _ _ _ _ _ _ _ _ _ _ _ _ _ _ _ _ _ _ _ _ _ _ _ hX hZ hH hE hn hS hc hs hl

theorem G_astore_n {w4 : Fin 4} {x : Nat} {ls' : List (Nat × Value)} (hd : decode cc pc = .ok (.astore_n w4, 1)) (hi : (w4 : Nat) < nL) (he : ((w4 : Nat), Value.ref x) :: ls.filter (fun q => !(q.1 == (w4 : Nat)) && !(q.1 + 1 == (w4 : Nat) && q.2.category == 2)) = ls') (k : mj_G y cc nL rt hh d sc (pc + 1) ls' st A post) : mj_G y cc nL rt hh d sc pc ls (.ref x :: st) A post := by
  intro p l e R s m args below meth c H locs cells slots F nc ns D ad ad0 cy n0 lsC hX hZ hH hE hn hS hc hs hl
  refine lv_astore_n (lv' := mj_ls ad ls') hX.1 hX.2.2.1 hd rfl hl hi (by rw [← he, mj_ls_f (fun a b => !(a == (w4 : Nat)) && !(a + 1 == (w4 : Nat) && b == 2))]; rfl) (fun lsC hl => ?_)
  exact k _ _ _ _ _ _ _ _ _ _ _ _ _ _ _ _ _ _ _ _ _ _ _ hX hZ hH hE hn hS hc hs hl

theorem G_lstore {i : Nat} {x : Int64} {ls' : List (Nat × Value)} (hd : decode cc pc = .ok (.lstore i, 2)) (hi : i + 1 < nL) (he : (i, Value.long x) :: ls.filter (fun q => !(q.1 == i) && (!(q.1 == i + 1) && !(q.1 + 1 == i && q.2.category == 2))) = ls') (k : mj_G y cc nL rt hh d sc (pc + 2) ls' st A post) : mj_G y cc nL rt hh d sc pc ls (.long x :: st) A post := by
  intro p l e R s m args below meth c H locs cells slots F nc ns D ad ad0 cy n0 lsC hX hZ hH hE hn hS hc hs hl
  refine lv_lstore (lv' := mj_ls ad ls') hX.1 hX.2.2.1 hd hl hi (by rw [← he, mj_ls_f (fun a b => !(a == i) && (!(a == i + 1) && !(a + 1 == i && b == 2)))]; rfl) (fun lsC hl => ?_)
  exact k _ _ _ _ _ _ _ _ _ _ _ _ _ _ _ _ _ _ _ _ _ _ _ hX hZ hH hE hn hS hc hs hl

theorem G_lstore_n {w4 : Fin 4} {x : Int64} {ls' : List (Nat × Value)} (hd : decode cc pc = .ok (.lstore_n w4, 1)) (hi : (w4 : Nat) + 1 < nL) (he : ((w4 : Nat), Value.long x) :: ls.filter (fun q => !(q.1 == (w4 : Nat)) && (!(q.1 == (w4 : Nat) + 1) && !(q.1 + 1 == (w4 : Nat) && q.2.category == 2))) = ls') (k : mj_G y cc nL rt hh d sc (pc + 1) ls' st A post) : mj_G y cc nL rt hh d sc pc ls (.long x :: st) A post := by
  intro p l e R s m args below meth c H locs cells slots F nc ns D ad ad0 cy n0 lsC hX hZ hH hE hn hS hc hs hl
  refine lv_lstore_n (lv' := mj_ls ad ls') hX.1 hX.2.2.1 hd rfl hl hi (by rw [← he, mj_ls_f (fun a b => !(a == (w4 : Nat)) && (!(a == (w4 : Nat) + 1) && !(a + 1 == (w4 : Nat) && b == 2)))]; rfl) (fun lsC hl => ?_)
  exact k _ _ _ _ _ _ _ _ _ _ _ _ _ _ _ _ _ _ _ _ _ _ _ hX hZ hH hE hn hS hc hs hl

theorem G_iinc (j : Nat) {i : Nat} {n : Int} {x v : Int32} {ls' : List (Nat × Value)} (hd : decode cc pc = .ok (.iinc i n, 3)) (hj : ls[j]? = some (i, .int x)) (hv : x + Int32.ofInt n = v) (hi : i < nL) (he : (i, Value.int v) :: ls.filter (fun q => !(q.1 == i) && !(q.1 + 1 == i && q.2.category == 2)) = ls') (k : mj_G y cc nL rt hh d sc (pc + 3) ls' st A post) : mj_G y cc nL rt hh d sc pc ls st A post := by
  intro p l e R s m args below meth c H locs cells slots F nc ns D ad ad0 cy n0 lsC hX hZ hH hE hn hS hc hs hl
  refine lv_iinc (v := v) (lv' := mj_ls ad ls') hX.1 hX.2.2.1 hd hl (k := j) (mj_ls_at hj) hv hi (by rw [← he, mj_ls_f (fun a b => !(a == i) && !(a + 1 == i && b == 2))]; rfl) (fun lsC hl => ?_)
  exact k _ _ _ _ _ _ _ _ _ _ _ _ _ _ _ _ _ _ _ _ _ _ _ hX hZ hH hE hn hS hc hs hl

theorem G_sub (js : List Nat) {ls' : List (Nat × Value)} (hp : lv_pick ls js = ls') (k : mj_G y cc nL rt hh d sc pc ls' st A post) : mj_G y cc nL rt hh d sc pc ls st A post := by
  intro p l e R s m args below meth c H locs cells slots F nc ns D ad ad0 cy n0 lsC hX hZ hH hE hn hS hc hs hl
  refine k _ _ _ _ _ _ _ _ _ _ _ _ _ _ _ _ _ _ _ _ _ _ _ hX hZ hH hE hn hS hc hs (lv_sub hl js ?_)
  rw [← hp]
  unfold lv_pick mj_ls
  rw [List.map_filterMap]
  congr 1
  funext k
  simp

theorem G_ifeq (tgt : Nat) {x : Int32} {off : Int} (hd : decode cc pc = .ok (.ifCond .eq off, 3)) (ht : (pc : Int) + off = (tgt : Int)) (kt : x = 0 → mj_G y cc nL rt hh d sc tgt ls st A post) (kf : ¬ x = 0 → mj_G y cc nL rt hh d sc (pc + 3) ls st A post) : mj_G y cc nL rt hh d sc pc ls (.int x :: st) A post := by
  intro p l e R s m args below meth c H locs cells slots F nc ns D ad ad0 cy n0 lsC hX hZ hH hE hn hS hc hs hl
  exact lv_if_eq hX.1 hX.2.2.1 hd ht (fun h => kt h _ _ _ _ _ _ _ _ _ _ _ _ _ _ _ _ _ _ _ _ _ _ _ hX hZ hH hE hn hS hc hs hl) (fun h => kf h _ _ _ _ _ _ _ _ _ _ _ _ _ _ _ _ _ _ _ _ _ _ _ hX hZ hH hE hn hS hc hs hl)

theorem G_ifne (tgt : Nat) {x : Int32} {off : Int} (hd : decode cc pc = .ok (.ifCond .ne off, 3)) (ht : (pc : Int) + off = (tgt : Int)) (kt : ¬ x = 0 → mj_G y cc nL rt hh d sc tgt ls st A post) (kf : x = 0 → mj_G y cc nL rt hh d sc (pc + 3) ls st A post) : mj_G y cc nL rt hh d sc pc ls (.int x :: st) A post := by
  intro p l e R s m args below meth c H locs cells slots F nc ns D ad ad0 cy n0 lsC hX hZ hH hE hn hS hc hs hl
  exact lv_if_ne hX.1 hX.2.2.1 hd ht (fun h => kt h _ _ _ _ _ _ _ _ _ _ _ _ _ _ _ _ _ _ _ _ _ _ _ hX hZ hH hE hn hS hc hs hl) (fun h => kf h _ _ _ _ _ _ _ _ _ _ _ _ _ _ _ _ _ _ _ _ _ _ _ hX hZ hH hE hn hS hc hs hl)

theorem G_iflt (tgt : Nat) {x : Int32} {off : Int} (hd : decode cc pc = .ok (.ifCond .lt off, 3)) (ht : (pc : Int) + off = (tgt : Int)) (kt : x < 0 → mj_G y cc nL rt hh d sc tgt ls st A post) (kf : ¬ x < 0 → mj_G y cc nL rt hh d sc (pc + 3) ls st A post) : mj_G y cc nL rt hh d sc pc ls (.int x :: st) A post := by
  intro p l e R s m args below meth c H locs cells slots F nc ns D ad ad0 cy n0 lsC hX hZ hH hE hn hS hc hs hl
  exact lv_if_lt hX.1 hX.2.2.1 hd ht (fun h => kt h _ _ _ _ _ _ _ _ _ _ _ _ _ _ _ _ _ _ _ _ _ _ _ hX hZ hH hE hn hS hc hs hl) (fun h => kf h _ _ _ _ _ _ _ _ _ _ _ _ _ _ _ _ _ _ _ _ _ _ _ hX hZ hH hE hn hS hc hs hl)

theorem G_ifge (tgt : Nat) {x : Int32} {off : Int} (hd : decode cc pc = .ok (.ifCond .ge off, 3)) (ht : (pc : Int) + off = (tgt : Int)) (kt : 0 ≤ x → mj_G y cc nL rt hh d sc tgt ls st A post) (kf : ¬ 0 ≤ x → mj_G y cc nL rt hh d sc (pc + 3) ls st A post) : mj_G y cc nL rt hh d sc pc ls (.int x :: st) A post := by
  intro p l e R s m args below meth c H locs cells slots F nc ns D ad ad0 cy n0 lsC hX hZ hH hE hn hS hc hs hl
  exact lv_if_ge hX.1 hX.2.2.1 hd ht (fun h => kt h _ _ _ _ _ _ _ _ _ _ _ _ _ _ _ _ _ _ _ _ _ _ _ hX hZ hH hE hn hS hc hs hl) (fun h => kf h _ _ _ _ _ _ _ _ _ _ _ _ _ _ _ _ _ _ _ _ _ _ _ hX hZ hH hE hn hS hc hs hl)

theorem G_ifgt (tgt : Nat) {x : Int32} {off : Int} (hd : decode cc pc = .ok (.ifCond .gt off, 3)) (ht : (pc : Int) + off = (tgt : Int)) (kt : 0 < x → mj_G y cc nL rt hh d sc tgt ls st A post) (kf : ¬ 0 < x → mj_G y cc nL rt hh d sc (pc + 3) ls st A post) : mj_G y cc nL rt hh d sc pc ls (.int x :: st) A post := by
  intro p l e R s m args below meth c H locs cells slots F nc ns D ad ad0 cy n0 lsC hX hZ hH hE hn hS hc hs hl
  exact lv_if_gt hX.1 hX.2.2.1 hd ht (fun h => kt h _ _ _ _ _ _ _ _ _ _ _ _ _ _ _ _ _ _ _ _ _ _ _ hX hZ hH hE hn hS hc hs hl) (fun h => kf h _ _ _ _ _ _ _ _ _ _ _ _ _ _ _ _ _ _ _ _ _ _ _ hX hZ hH hE hn hS hc hs hl)

theorem G_ifle (tgt : Nat) {x : Int32} {off : Int} (hd : decode cc pc = .ok (.ifCond .le off, 3)) (ht : (pc : Int) + off = (tgt : Int)) (kt : x ≤ 0 → mj_G y cc nL rt hh d sc tgt ls st A post) (kf : ¬ x ≤ 0 → mj_G y cc nL rt hh d sc (pc + 3) ls st A post) : mj_G y cc nL rt hh d sc pc ls (.int x :: st) A post := by
  intro p l e R s m args below meth c H locs cells slots F nc ns D ad ad0 cy n0 lsC hX hZ hH hE hn hS hc hs hl
  exact lv_if_le hX.1 hX.2.2.1 hd ht (fun h => kt h _ _ _ _ _ _ _ _ _ _ _ _ _ _ _ _ _ _ _ _ _ _ _ hX hZ hH hE hn hS hc hs hl) (fun h => kf h _ _ _ _ _ _ _ _ _ _ _ _ _ _ _ _ _ _ _ _ _ _ _ hX hZ hH hE hn hS hc hs hl)

theorem G_iceq (tgt : Nat) {x z : Int32} {off : Int} (hd : decode cc pc = .ok (.if_icmp .eq off, 3)) (ht : (pc : Int) + off = (tgt : Int)) (kt : x = z → mj_G y cc nL rt hh d sc tgt ls st A post) (kf : ¬ x = z → mj_G y cc nL rt hh d sc (pc + 3) ls st A post) : mj_G y cc nL rt hh d sc pc ls (.int z :: .int x :: st) A post := by
  intro p l e R s m args below meth c H locs cells slots F nc ns D ad ad0 cy n0 lsC hX hZ hH hE hn hS hc hs hl
  exact lv_icmp_eq hX.1 hX.2.2.1 hd ht (fun h => kt h _ _ _ _ _ _ _ _ _ _ _ _ _ _ _ _ _ _ _ _ _ _ _ hX hZ hH hE hn hS hc hs hl) (fun h => kf h _ _ _ _ _ _ _ _ _ _ _ _ _ _ _ _ _ _ _ _ _ _ _ hX hZ hH hE hn hS hc hs hl)

theorem G_icne (tgt : Nat) {x z : Int32} {off : Int} (hd : decode cc pc = .ok (.if_icmp .ne off, 3)) (ht : (pc : Int) + off = (tgt : Int)) (kt : ¬ x = z → mj_G y cc nL rt hh d sc tgt ls st A post) (kf : x = z → mj_G y cc nL rt hh d sc (pc + 3) ls st A post) : mj_G y cc nL rt hh d sc pc ls (.int z :: .int x :: st) A post := by
  intro p l e R s m args below meth c H locs cells slots F nc ns D ad ad0 cy n0 lsC hX hZ hH hE hn hS hc hs hl
  exact lv_icmp_ne hX.1 hX.2.2.1 hd ht (fun h => kt h _ _ _ _ _ _ _ _ _ _ _ _ _ _ _ _ _ _ _ _ _ _ _ hX hZ hH hE hn hS hc hs hl) (fun h => kf h _ _ _ _ _ _ _ _ _ _ _ _ _ _ _ _ _ _ _ _ _ _ _ hX hZ hH hE hn hS hc hs hl)

theorem G_iclt (tgt : Nat) {x z : Int32} {off : Int} (hd : decode cc pc = .ok (.if_icmp .lt off, 3)) (ht : (pc : Int) + off = (tgt : Int)) (kt : x < z → mj_G y cc nL rt hh d sc tgt ls st A post) (kf : ¬ x < z → mj_G y cc nL rt hh d sc (pc + 3) ls st A post) : mj_G y cc nL rt hh d sc pc ls (.int z :: .int x :: st) A post := by
  intro p l e R s m args below meth c H locs cells slots F nc ns D ad ad0 cy n0 lsC hX hZ hH hE hn hS hc hs hl
  exact lv_icmp_lt hX.1 hX.2.2.1 hd ht (fun h => kt h _ _ _ _ _ _ _ _ _ _ _ _ _ _ _ _ _ _ _ _ _ _ _ hX hZ hH hE hn hS hc hs hl) (fun h => kf h _ _ _ _ _ _ _ _ _ _ _ _ _ _ _ _ _ _ _ _ _ _ _ hX hZ hH hE hn hS hc hs hl)

theorem G_icge (tgt : Nat) {x z : Int32} {off : Int} (hd : decode cc pc = .ok (.if_icmp .ge off, 3)) (ht : (pc : Int) + off = (tgt : Int)) (kt : z ≤ x → mj_G y cc nL rt hh d sc tgt ls st A post) (kf : ¬ z ≤ x → mj_G y cc nL rt hh d sc (pc + 3) ls st A post) : mj_G y cc nL rt hh d sc pc ls (.int z :: .int x :: st) A post := by
  intro p l e R s m args below meth c H locs cells slots F nc ns D ad ad0 cy n0 lsC hX hZ hH hE hn hS hc hs hl
  exact lv_icmp_ge hX.1 hX.2.2.1 hd ht (fun h => kt h _ _ _ _ _ _ _ _ _ _ _ _ _ _ _ _ _ _ _ _ _ _ _ hX hZ hH hE hn hS hc hs hl) (fun h => kf h _ _ _ _ _ _ _ _ _ _ _ _ _ _ _ _ _ _ _ _ _ _ _ hX hZ hH hE hn hS hc hs hl)

theorem G_icgt (tgt : Nat) {x z : Int32} {off : Int} (hd : decode cc pc = .ok (.if_icmp .gt off, 3)) (ht : (pc : Int) + off = (tgt : Int)) (kt : z < x → mj_G y cc nL rt hh d sc tgt ls st A post) (kf : ¬ z < x → mj_G y cc nL rt hh d sc (pc + 3) ls st A post) : mj_G y cc nL rt hh d sc pc ls (.int z :: .int x :: st) A post := by
  intro p l e R s m args below meth c H locs cells slots F nc ns D ad ad0 cy n0 lsC hX hZ hH hE hn hS hc hs hl
  exact lv_icmp_gt hX.1 hX.2.2.1 hd ht (fun h => kt h _ _ _ _ _ _ _ _ _ _ _ _ _ _ _ _ _ _ _ _ _ _ _ hX hZ hH hE hn hS hc hs hl) (fun h => kf h _ _ _ _ _ _ _ _ _ _ _ _ _ _ _ _ _ _ _ _ _ _ _ hX hZ hH hE hn hS hc hs hl)

theorem G_icle (tgt : Nat) {x z : Int32} {off : Int} (hd : decode cc pc = .ok (.if_icmp .le off, 3)) (ht : (pc : Int) + off = (tgt : Int)) (kt : x ≤ z → mj_G y cc nL rt hh d sc tgt ls st A post) (kf : ¬ x ≤ z → mj_G y cc nL rt hh d sc (pc + 3) ls st A post) : mj_G y cc nL rt hh d sc pc ls (.int z :: .int x :: st) A post := by
  intro p l e R s m args below meth c H locs cells slots F nc ns D ad ad0 cy n0 lsC hX hZ hH hE hn hS hc hs hl
  exact lv_icmp_le hX.1 hX.2.2.1 hd ht (fun h => kt h _ _ _ _ _ _ _ _ _ _ _ _ _ _ _ _ _ _ _ _ _ _ _ hX hZ hH hE hn hS hc hs hl) (fun h => kf h _ _ _ _ _ _ _ _ _ _ _ _ _ _ _ _ _ _ _ _ _ _ _ hX hZ hH hE hn hS hc hs hl)

theorem G_goto (tgt : Nat) {off : Int} (hd : decode cc pc = .ok (.goto off, 3)) (ht : (pc : Int) + off = (tgt : Int)) (k : mj_G y cc nL rt hh d sc tgt ls st A post) : mj_G y cc nL rt hh d sc pc ls st A post := by
  intro p l e R s m args below meth c H locs cells slots F nc ns D ad ad0 cy n0 lsC hX hZ hH hE hn hS hc hs hl
  exact lv_goto hX.1 hX.2.2.1 hd ht (k _ _ _ _ _ _ _ _ _ _ _ _ _ _ _ _ _ _ _ _ _ _ _ hX hZ hH hE hn hS hc hs hl)

theorem G_swIn (tgt : Nat) {dflt lo hi : Int} {offs : Array Int} {len : Nat} {x : Int32} {off : Int} (hd : decode cc pc = .ok (.tableswitch dflt lo hi offs, len)) (h1 : ¬ x.toInt < lo) (h2 : ¬ hi < x.toInt) (ho : offs[(x.toInt - lo).toNat]? = some off) (ht : (pc : Int) + off = (tgt : Int)) (k : mj_G y cc nL rt hh d sc tgt ls st A post) : mj_G y cc nL rt hh d sc pc ls (.int x :: st) A post := by
  intro p l e R s m args below meth c H locs cells slots F nc ns D ad ad0 cy n0 lsC hX hZ hH hE hn hS hc hs hl
  exact lv_tableIn hX.1 hX.2.2.1 hd h1 h2 ho ht (k _ _ _ _ _ _ _ _ _ _ _ _ _ _ _ _ _ _ _ _ _ _ _ hX hZ hH hE hn hS hc hs hl)

theorem G_swOut (tgt : Nat) {dflt lo hi : Int} {offs : Array Int} {len : Nat} {x : Int32} (hd : decode cc pc = .ok (.tableswitch dflt lo hi offs, len)) (h : x.toInt < lo ∨ hi < x.toInt) (ht : (pc : Int) + dflt = (tgt : Int)) (k : mj_G y cc nL rt hh d sc tgt ls st A post) : mj_G y cc nL rt hh d sc pc ls (.int x :: st) A post := by
  intro p l e R s m args below meth c H locs cells slots F nc ns D ad ad0 cy n0 lsC hX hZ hH hE hn hS hc hs hl
  exact lv_tableOut hX.1 hX.2.2.1 hd h ht (k _ _ _ _ _ _ _ _ _ _ _ _ _ _ _ _ _ _ _ _ _ _ _ hX hZ hH hE hn hS hc hs hl)

theorem G_dup {v : Value} (hd : decode cc pc = .ok (.dup, 1)) (hv : v.category = 1) (k : mj_G y cc nL rt hh d sc (pc + 1) ls (v :: v :: st) A post) : mj_G y cc nL rt hh d sc pc ls (v :: st) A post := by
  intro p l e R s m args below meth c H locs cells slots F nc ns D ad ad0 cy n0 lsC hX hZ hH hE hn hS hc hs hl
  exact lv_dup hX.1 hX.2.2.1 hd (by rw [mj_cat]; exact hv) (k _ _ _ _ _ _ _ _ _ _ _ _ _ _ _ _ _ _ _ _ _ _ _ hX hZ hH hE hn hS hc hs hl)

theorem G_pop {v : Value} (hd : decode cc pc = .ok (.pop, 1)) (hv : v.category = 1) (k : mj_G y cc nL rt hh d sc (pc + 1) ls st A post) : mj_G y cc nL rt hh d sc pc ls (v :: st) A post := by
  intro p l e R s m args below meth c H locs cells slots F nc ns D ad ad0 cy n0 lsC hX hZ hH hE hn hS hc hs hl
  exact lv_pop hX.1 hX.2.2.1 hd (by rw [mj_cat]; exact hv) (k _ _ _ _ _ _ _ _ _ _ _ _ _ _ _ _ _ _ _ _ _ _ _ hX hZ hH hE hn hS hc hs hl)

end GR
end
section
/-! rules of fields and arrays -/
theorem mj_K1 {D : va_G} {F : Nat → Prop} {ad : Nat → Nat} {cy : Nat → ClassId} {A : List mj_C} {U : State} {H : Heap} {k : Nat} {q : Nat × vp_A} (h : mj_Hp D F ad cy A U H) (hk : A[k]? = some (.inl q)) : va_K D mj_cl [(cy k, mj_ty q.1)] U :=
  ⟨h.2.2.1.1, fun j x hx => by
    match j, hx with
    | 0, hx => cases hx; exact h.2.2.2.1 k q hk
    | j + 1, hx => simp at hx⟩
theorem mj_Hp_set {D : va_G} {F : Nat → Prop} {ad : Nat → Nat} {cy : Nat → ClassId} {A : List mj_C} {U : State} {H H1 : Heap} {k : Nat} {c0 c : mj_C} (h : mj_Hp D F ad cy A U H) (hk : A[k]? = some c0) (hc : mj_rf A.length c) (ht : ∀ q, c = .inl q → ∃ q0, c0 = .inl q0 ∧ q0.1 = q.1)
    (hP : va_P D mj_cl ((mj_W ad cy A).set k (ad k, mj_E ad (cy k) c)) H1) (hD : va_D F ((mj_W ad cy A).set k (ad k, mj_E ad (cy k) c))) : mj_Hp D F ad cy (A.set k c) U H1 := by
  rw [mj_W_set] at hP hD
  refine ⟨hP, hD, h.2.2.1, fun j q hj => ?_, fun j x hj => ?_⟩
  · rw [List.getElem?_set] at hj
    split at hj
    next e =>
      subst e
      split at hj
      next => obtain ⟨q0, e0, e1⟩ := ht q (Option.some.inj hj); subst e0; have := h.2.2.2.1 k q0 hk; rw [e1] at this; exact this
      next => cases hj
    next => exact h.2.2.2.1 j q hj
  · rw [List.length_set]
    rw [List.getElem?_set] at hj
    split at hj
    next e =>
      split at hj
      next => cases hj; exact hc
      next => cases hj
    next => exact h.2.2.2.2 j x hj
def mj_fr (own : String) (index ci k : Nat) : Prop := ∃ (C : String) (T : u_T) (N : Nat), mj_cl[ci]? = some (C, T, N) ∧ (T k).1 = C ∧ k < N ∧ (∀ w ∈ u_ws C T N, w ∈ tw_tbl) ∧
  (Cond.fieldLink own index C (T k).2.1 (T k).2.2.1 ∈ tw_tbl ∨ ∃ host, Cond.fieldLinkNest own index C (T k).2.1 (T k).2.2.1 host ∈ tw_tbl)
def mj_fp (own : String) (index ci k : Nat) (ty : FieldType) (fin : Bool) : Prop := ∃ (C : String) (T : u_T) (N : Nat) (ty0 : Nat → FieldType), mj_cl[ci]? = some (C, T, N) ∧ (T k).1 = C ∧ k < N ∧ (∀ w ∈ u_ws C T N, w ∈ tw_tbl) ∧
  (Cond.fieldLink own index C (T k).2.1 (T k).2.2.1 ∈ tw_tbl) ∧ (∀ k, k < N → parseFieldDescriptor (T k).2.2.1 = some (ty0 k)) ∧ (∀ a, a < N → ∀ b, b < N → a ≠ b → (T a).2.1 ≠ (T b).2.1) ∧ parseFieldDescriptor (T k).2.2.1 = some ty ∧ (T k).2.2.2 = fin
section GH
variable {y : MethodName} {cc : ByteArray} {nL : Nat} {rt : Option FieldType} {hh : List (Nat × Nat × Nat × Nat)} {d : Nat} {sc : Option (Nat × (Nat → Int32))} {pc : Nat} {ls : List (Nat × Value)} {st : List Value} {A : mj_H} {post : mj_O → mj_H → Prop}
theorem G_get {index ci k a : Nat} {fs : List Value} {v : Value} (hd : decode cc pc = .ok (.getfield index, 3)) (hf : mj_fr y.cls index ci k) (ha : A.1[a]? = some (.inr (ci, fs))) (hv : fs[k]? = some v)
    (kk : mj_G y cc nL rt hh d sc (pc + 3) ls (v :: st) A post) : mj_G y cc nL rt hh d sc pc ls (.ref a :: st) A post := by
  intro p l e R s m args below meth c H locs cells slots F nc ns D ad ad0 cy n0 lsC hX hZ hH hE hn hS hc hs hl
  obtain ⟨C, T, N, h1, h2, h3, h4, h5⟩ := hf
  have K := kk p l e R s m args below meth c H locs cells slots F nc ns D ad ad0 cy n0 lsC hX hZ hH hE hn hS hc hs hl
  have hv' : (fs.map (mj_v ad))[k]? = some (mj_v ad v) := by rw [List.getElem?_map, hv]; rfl
  have hsame : ∀ x, s.fieldFound? (T k).1 (T k).2.1 (T k).2.2.1 = some x → s.fieldFound? C (T k).2.1 (T k).2.2.1 = some x := fun x h => by rw [h2] at h; exact h
  rcases h5 with h5 | ⟨host, h5⟩
  · exact va_get hX.1 hX.2.2.1 hX.2.2.2.2.2.2.2.2.1 h4 hX.2.2.2.2.2.2.2.1 hH.2.2.1 hH.1 a (mj_W_get ha) h1 k h3 (hX.2.2.2.2.2.2.2.2.1 _ h5) hsame hv' hd K
  · exact va_getN hX.1 hX.2.2.1 hX.2.2.2.2.2.2.2.2.1 h4 hX.2.2.2.2.2.2.2.1 hH.2.2.1 hH.1 a (mj_W_get ha) h1 k h3 (hX.2.2.2.2.2.2.2.2.1 _ h5) hsame hv' hd K
theorem G_put {index ci k a : Nat} {fs : List Value} {v : Value} {ty : FieldType} {A1 : List mj_C} (hd : decode cc pc = .ok (.putfield index, 3)) (hf : mj_fp y.cls index ci k ty false) (ha : A.1[a]? = some (.inr (ci, fs))) (hk : k < fs.length) (hv : ∀ ad, narrow ty (mj_v ad v) = mj_v ad v ∧ fits ty (mj_v ad v) = true) (hr : mj_rv A.1.length v) (hA : A.1.set a (.inr (ci, fs.set k v)) = A1)
    (kk : mj_G y cc nL rt hh d sc (pc + 3) ls st (A1, A.2) post) : mj_G y cc nL rt hh d sc pc ls (v :: .ref a :: st) A post := by
  intro p l e R s m args below meth c H locs cells slots F nc ns D ad ad0 cy n0 lsC hX hZ hH hE hn hS hc hs hl
  obtain ⟨C, T, N, ty0, h1, h2, h3, h4, h5, h6, h7, h8, h9⟩ := hf
  have hsame : ∀ x, s.fieldFound? (T k).1 (T k).2.1 (T k).2.2.1 = some x → s.fieldFound? C (T k).2.1 (T k).2.2.1 = some x := fun x h => by rw [h2] at h; exact h
  refine va_put hX.1 hX.2.2.1 hX.2.2.2.2.2.2.2.2.1 h4 ty0 h6 h7 hX.2.2.2.2.2.2.2.1 hH.2.2.1 hH.1 hH.2.1 hS a (mj_W_get ha) h1 k h3 (hX.2.2.2.2.2.2.2.2.1 _ h5) hsame h9 h8 (hv ad).1 (hv ad).2 (by rw [List.length_map]; exact hk) hd (fun H1 locs1 hP hD hS1 => ?_)
  have hlen : A1.length = A.1.length := by rw [← hA, List.length_set]
  have e : (mj_W ad cy A.1).set a (ad a, .inr (ci, (fs.map (mj_v ad)).set k (mj_v ad v))) = (mj_W ad cy A.1).set a (ad a, mj_E ad (cy a) (.inr (ci, fs.set k v))) := by
    show _ = (mj_W ad cy A.1).set a (ad a, .inr (ci, (fs.set k v).map (mj_v ad)))
    rw [List.map_set]
  rw [e] at hP hD
  have hH1 : mj_Hp D F ad cy A1 s H1 := by
    rw [← hA]
    refine mj_Hp_set hH ha ?_ (fun q hq => by cases hq) hP hD
    intro w hw
    rcases List.mem_or_eq_of_mem_set hw with h | h
    · exact hH.2.2.2.2 a _ ha w h
    · rw [h]; exact hr
  exact kk _ _ _ _ _ _ _ _ _ _ _ _ _ _ _ _ _ _ _ _ _ _ _ hX hZ hH1 (by rw [hlen]; exact hE) (by rw [hlen]; exact hn) hS1 hc hs hl
theorem G_putF {index ci k a : Nat} {fs : List Value} {v : Value} {ty : FieldType} {A1 : List mj_C} (hd : decode cc pc = .ok (.putfield index, 3)) (hf : mj_fp y.cls index ci k ty true) (hy : y.name = "<init>") (hC : ∀ C T N, mj_cl[ci]? = some (C, T, N) → C = y.cls) (ha : A.1[a]? = some (.inr (ci, fs))) (hk : k < fs.length) (hv : ∀ ad, narrow ty (mj_v ad v) = mj_v ad v ∧ fits ty (mj_v ad v) = true) (hr : mj_rv A.1.length v) (hA : A.1.set a (.inr (ci, fs.set k v)) = A1)
    (kk : mj_G y cc nL rt hh d sc (pc + 3) ls st (A1, A.2) post) : mj_G y cc nL rt hh d sc pc ls (v :: .ref a :: st) A post := by
  intro p l e R s m args below meth c H locs cells slots F nc ns D ad ad0 cy n0 lsC hX hZ hH hE hn hS hc hs hl
  obtain ⟨C, T, N, ty0, h1, h2, h3, h4, h5, h6, h7, h8, h9⟩ := hf
  have hsame : ∀ x, s.fieldFound? (T k).1 (T k).2.1 (T k).2.2.1 = some x → s.fieldFound? C (T k).2.1 (T k).2.2.1 = some x := fun x h => by rw [h2] at h; exact h
  refine va_putF hX.1 hX.2.2.1 hX.2.2.2.2.2.2.2.2.1 h4 ty0 h6 h7 hX.2.2.2.2.2.2.2.1 hH.2.2.1 hH.1 hH.2.1 hS a (mj_W_get ha) h1 k h3 (hX.2.2.2.2.2.2.2.2.1 _ h5) hsame h9 (hX.2.2.2.2.2.2.1.trans hy) (h2.trans (hC C T N h1)) h8 (hv ad).1 (hv ad).2 (by rw [List.length_map]; exact hk) hd (fun H1 locs1 hP hD hS1 => ?_)
  have hlen : A1.length = A.1.length := by rw [← hA, List.length_set]
  have e : (mj_W ad cy A.1).set a (ad a, .inr (ci, (fs.map (mj_v ad)).set k (mj_v ad v))) = (mj_W ad cy A.1).set a (ad a, mj_E ad (cy a) (.inr (ci, fs.set k v))) := by
    show _ = (mj_W ad cy A.1).set a (ad a, .inr (ci, (fs.set k v).map (mj_v ad)))
    rw [List.map_set]
  rw [e] at hP hD
  have hH1 : mj_Hp D F ad cy A1 s H1 := by
    rw [← hA]
    refine mj_Hp_set hH ha ?_ (fun q hq => by cases hq) hP hD
    intro w hw
    rcases List.mem_or_eq_of_mem_set hw with h | h
    · exact hH.2.2.2.2 a _ ha w h
    · rw [h]; exact hr
  exact kk _ _ _ _ _ _ _ _ _ _ _ _ _ _ _ _ _ _ _ _ _ _ _ hX hZ hH1 (by rw [hlen]; exact hE) (by rw [hlen]; exact hn) hS1 hc hs hl
theorem G_iald {a n : Nat} {f : Nat → Int32} {i : Int32} (hd : decode cc pc = .ok (.iaload, 1)) (ha : A.1[a]? = some (.inl (0, n, .inl f))) (hi : vp_in i n) (kk : mj_G y cc nL rt hh d sc (pc + 1) ls (.int (f i.toNatClampNeg) :: st) A post) : mj_G y cc nL rt hh d sc pc ls (.int i :: .ref a :: st) A post := by
  intro p l e R s m args below meth c H locs cells slots F nc ns D ad ad0 cy n0 lsC hX hZ hH hE hn hS hc hs hl
  exact va_iald hX.1 hX.2.2.1 (mj_K1 hH ha) hH.1 a 0 (mj_W_get ha) rfl hi hd (kk _ _ _ _ _ _ _ _ _ _ _ _ _ _ _ _ _ _ _ _ _ _ _ hX hZ hH hE hn hS hc hs hl)
theorem G_zald {a n : Nat} {f : Nat → Int32} {i : Int32} (hd : decode cc pc = .ok (.baload, 1)) (ha : A.1[a]? = some (.inl (2, n, .inl f))) (hi : vp_in i n) (kk : mj_G y cc nL rt hh d sc (pc + 1) ls (.int (f i.toNatClampNeg) :: st) A post) : mj_G y cc nL rt hh d sc pc ls (.int i :: .ref a :: st) A post := by
  intro p l e R s m args below meth c H locs cells slots F nc ns D ad ad0 cy n0 lsC hX hZ hH hE hn hS hc hs hl
  exact va_zald hX.1 hX.2.2.1 (mj_K1 hH ha) hH.1 a 0 (mj_W_get ha) rfl hi hd (kk _ _ _ _ _ _ _ _ _ _ _ _ _ _ _ _ _ _ _ _ _ _ _ hX hZ hH hE hn hS hc hs hl)
theorem G_lald {a n : Nat} {f : Nat → Int64} {i : Int32} (hd : decode cc pc = .ok (.laload, 1)) (ha : A.1[a]? = some (.inl (1, n, .inr (.inl f)))) (hi : vp_in i n) (kk : mj_G y cc nL rt hh d sc (pc + 1) ls (.long (f i.toNatClampNeg) :: st) A post) : mj_G y cc nL rt hh d sc pc ls (.int i :: .ref a :: st) A post := by
  intro p l e R s m args below meth c H locs cells slots F nc ns D ad ad0 cy n0 lsC hX hZ hH hE hn hS hc hs hl
  exact va_lald hX.1 hX.2.2.1 (mj_K1 hH ha) hH.1 a 0 (mj_W_get ha) rfl hi hd (kk _ _ _ _ _ _ _ _ _ _ _ _ _ _ _ _ _ _ _ _ _ _ _ hX hZ hH hE hn hS hc hs hl)
theorem G_aald {a n r : Nat} {f : Nat → Option Nat} {i : Int32} (hd : decode cc pc = .ok (.aaload, 1)) (ha : A.1[a]? = some (.inl (3, n, .inr (.inr (.inr (.inr f)))))) (hi : vp_in i n) (hr : f i.toNatClampNeg = some r) (kk : mj_G y cc nL rt hh d sc (pc + 1) ls (.ref r :: st) A post) : mj_G y cc nL rt hh d sc pc ls (.int i :: .ref a :: st) A post := by
  intro p l e R s m args below meth c H locs cells slots F nc ns D ad ad0 cy n0 lsC hX hZ hH hE hn hS hc hs hl
  have hlt : i.toNatClampNeg < n := Nat.not_le.mp fun q => hi (Or.inr q)
  have K := kk p l e R s m args below meth c H locs cells slots F nc ns D ad ad0 cy n0 lsC hX hZ hH hE hn hS hc hs hl
  refine W.aald (v := .ref (ad r)) (ty := .array .int) hX.1 hX.2.2.1 (hH.1 a _ (mj_W_get ha)) ((hH.2.2.2.1 a _ ha).1 n (fun j => va_rf ((f j).map ad))) rfl (fun q => by cases q) (by show ¬ (i < 0 ∨ (arrV _ _ _).slots.size ≤ _); rw [arrV_size]; exact hi) (by show (arrV (cy a) n (fun j => va_rf ((f j).map ad))).slots[_]? = _; rw [arrV_read _ _ hlt, hr]; rfl) rfl rfl hd K
theorem G_alen {a : Nat} {q : Nat × vp_A} {v : Int32} (hd : decode cc pc = .ok (.arraylength, 1)) (ha : A.1[a]? = some (.inl q)) (hv : Int32.ofNat q.2.1 = v) (kk : mj_G y cc nL rt hh d sc (pc + 1) ls (.int v :: st) A post) : mj_G y cc nL rt hh d sc pc ls (.ref a :: st) A post := by
  intro p l e R s m args below meth c H locs cells slots F nc ns D ad ad0 cy n0 lsC hX hZ hH hE hn hS hc hs hl
  exact va_alen hX.1 hX.2.2.1 (mj_K1 hH ha) hH.1 a 0 (mj_W_get ha) rfl hv hd (kk _ _ _ _ _ _ _ _ _ _ _ _ _ _ _ _ _ _ _ _ _ _ _ hX hZ hH hE hn hS hc hs hl)
theorem G_iast {a n : Nat} {f : Nat → Int32} {i x : Int32} {A1 : List mj_C} (hd : decode cc pc = .ok (.iastore, 1)) (ha : A.1[a]? = some (.inl (0, n, .inl f))) (hi : vp_in i n) (hA : A.1.set a (.inl (0, n, .inl (upd f i.toNatClampNeg x))) = A1) (kk : mj_G y cc nL rt hh d sc (pc + 1) ls st (A1, A.2) post) : mj_G y cc nL rt hh d sc pc ls (.int x :: .int i :: .ref a :: st) A post := by
  intro p l e R s m args below meth c H locs cells slots F nc ns D ad ad0 cy n0 lsC hX hZ hH hE hn hS hc hs hl
  refine va_iast hX.1 hX.2.2.1 (mj_K1 hH ha) hH.1 hH.2.1 hS a 0 (mj_W_get ha) rfl hi hd (fun H1 locs1 hP hD hS1 => ?_)
  have hlen : A1.length = A.1.length := by rw [← hA, List.length_set]
  have hH1 : mj_Hp D F ad cy A1 s H1 := by
    rw [← hA]
    exact mj_Hp_set hH ha trivial (fun q hq => by cases hq; exact ⟨_, rfl, rfl⟩) hP hD
  exact kk _ _ _ _ _ _ _ _ _ _ _ _ _ _ _ _ _ _ _ _ _ _ _ hX hZ hH1 (by rw [hlen]; exact hE) (by rw [hlen]; exact hn) hS1 hc hs hl
theorem G_zast {a n : Nat} {f : Nat → Int32} {i x : Int32} {A1 : List mj_C} (hd : decode cc pc = .ok (.bastore, 1)) (ha : A.1[a]? = some (.inl (2, n, .inl f))) (hi : vp_in i n) (hA : A.1.set a (.inl (2, n, .inl (upd f i.toNatClampNeg (vp_nar .boolean x)))) = A1) (kk : mj_G y cc nL rt hh d sc (pc + 1) ls st (A1, A.2) post) : mj_G y cc nL rt hh d sc pc ls (.int x :: .int i :: .ref a :: st) A post := by
  intro p l e R s m args below meth c H locs cells slots F nc ns D ad ad0 cy n0 lsC hX hZ hH hE hn hS hc hs hl
  refine va_zast hX.1 hX.2.2.1 (mj_K1 hH ha) hH.1 hH.2.1 hS a 0 (mj_W_get ha) rfl hi hd (fun H1 locs1 hP hD hS1 => ?_)
  have hlen : A1.length = A.1.length := by rw [← hA, List.length_set]
  have hH1 : mj_Hp D F ad cy A1 s H1 := by
    rw [← hA]
    exact mj_Hp_set hH ha trivial (fun q hq => by cases hq; exact ⟨_, rfl, rfl⟩) hP hD
  exact kk _ _ _ _ _ _ _ _ _ _ _ _ _ _ _ _ _ _ _ _ _ _ _ hX hZ hH1 (by rw [hlen]; exact hE) (by rw [hlen]; exact hn) hS1 hc hs hl
theorem G_last {a n : Nat} {f : Nat → Int64} {i : Int32} {x : Int64} {A1 : List mj_C} (hd : decode cc pc = .ok (.lastore, 1)) (ha : A.1[a]? = some (.inl (1, n, .inr (.inl f)))) (hi : vp_in i n) (hA : A.1.set a (.inl (1, n, .inr (.inl (vp_updL f i.toNatClampNeg x)))) = A1) (kk : mj_G y cc nL rt hh d sc (pc + 1) ls st (A1, A.2) post) : mj_G y cc nL rt hh d sc pc ls (.long x :: .int i :: .ref a :: st) A post := by
  intro p l e R s m args below meth c H locs cells slots F nc ns D ad ad0 cy n0 lsC hX hZ hH hE hn hS hc hs hl
  refine va_last hX.1 hX.2.2.1 (mj_K1 hH ha) hH.1 hH.2.1 hS a 0 (mj_W_get ha) rfl hi hd (fun H1 locs1 hP hD hS1 => ?_)
  have hlen : A1.length = A.1.length := by rw [← hA, List.length_set]
  have hH1 : mj_Hp D F ad cy A1 s H1 := by
    rw [← hA]
    exact mj_Hp_set hH ha trivial (fun q hq => by cases hq; exact ⟨_, rfl, rfl⟩) hP hD
  exact kk _ _ _ _ _ _ _ _ _ _ _ _ _ _ _ _ _ _ _ _ _ _ _ hX hZ hH1 (by rw [hlen]; exact hE) (by rw [hlen]; exact hn) hS1 hc hs hl
theorem G_sld {L : Nat} {xs : Nat → Int32} {i : Int32} (hd : decode cc pc = .ok (.iaload, 1)) (hi : vp_in i L) (kk : mj_G y cc nL rt hh d (some (L, xs)) (pc + 1) ls (.int (xs i.toNatClampNeg) :: st) A post) : mj_G y cc nL rt hh d (some (L, xs)) pc ls (.int i :: .ref 1000000 :: st) A post := by
  intro p l e R s m args below meth c H locs cells slots F nc ns D ad ad0 cy n0 lsC hX hZ hH hE hn hS hc hs hl
  exact va_sld hX.1 hX.2.2.1 hZ.1 hZ.2.1 hZ.2.2 hS hi hd (kk _ _ _ _ _ _ _ _ _ _ _ _ _ _ _ _ _ _ _ _ _ _ _ hX hZ hH hE hn hS hc hs hl)
theorem G_slen {L : Nat} {xs : Nat → Int32} (hd : decode cc pc = .ok (.arraylength, 1)) (kk : mj_G y cc nL rt hh d (some (L, xs)) (pc + 1) ls (.int (Int32.ofNat L) :: st) A post) : mj_G y cc nL rt hh d (some (L, xs)) pc ls (.ref 1000000 :: st) A post := by
  intro p l e R s m args below meth c H locs cells slots F nc ns D ad ad0 cy n0 lsC hX hZ hH hE hn hS hc hs hl
  exact va_slen hX.1 hX.2.2.1 hZ.1 hZ.2.1 hZ.2.2 hS hd (kk _ _ _ _ _ _ _ _ _ _ _ _ _ _ _ _ _ _ _ _ _ _ _ hX hZ hH hE hn hS hc hs hl)
theorem G_lcmp {x z : Int64} (hd : decode cc pc = .ok (.lcmp, 1)) (kk : mj_G y cc nL rt hh d sc (pc + 1) ls (.int (lg_cmp x z) :: st) A post) : mj_G y cc nL rt hh d sc pc ls (.long z :: .long x :: st) A post := by
  intro p l e R s m args below meth c H locs cells slots F nc ns D ad ad0 cy n0 lsC hX hZ hH hE hn hS hc hs hl
  exact W.lcmp hX.1 hX.2.2.1 hd (kk _ _ _ _ _ _ _ _ _ _ _ _ _ _ _ _ _ _ _ _ _ _ _ hX hZ hH hE hn hS hc hs hl)
theorem G_dup2 {v w : Value} (hd : decode cc pc = .ok (.dup2, 1)) (hv : v.category = 1) (hw : w.category = 1) (kk : mj_G y cc nL rt hh d sc (pc + 1) ls (v :: w :: v :: w :: st) A post) : mj_G y cc nL rt hh d sc pc ls (v :: w :: st) A post := by
  intro p l e R s m args below meth c H locs cells slots F nc ns D ad ad0 cy n0 lsC hX hZ hH hE hn hS hc hs hl
  exact lv_dup2_11 hX.1 hX.2.2.1 hd (by rw [mj_cat]; exact hv) (by rw [mj_cat]; exact hw) (kk _ _ _ _ _ _ _ _ _ _ _ _ _ _ _ _ _ _ _ _ _ _ _ hX hZ hH hE hn hS hc hs hl)
theorem G_ldcw {index : Nat} {v : Int32} (hd : decode cc pc = .ok (.ldc_w index, 3)) (hw : Cond.constant y.cls index v ∈ tw_tbl) (kk : mj_G y cc nL rt hh d sc (pc + 3) ls (.int v :: st) A post) : mj_G y cc nL rt hh d sc pc ls st A post := by
  intro p l e R s m args below meth c H locs cells slots F nc ns D ad ad0 cy n0 lsC hX hZ hH hE hn hS hc hs hl
  exact lv_ldcw hX.1 hX.2.2.1 hX.2.2.2.2.2.2.2.1 (hX.2.2.2.2.2.2.2.2.1 _ hw) hd (kk _ _ _ _ _ _ _ _ _ _ _ _ _ _ _ _ _ _ _ _ _ _ _ hX hZ hH hE hn hS hc hs hl)
theorem G_ldc2 {index : Nat} {v : Int64} (hd : decode cc pc = .ok (.ldc2_w index, 3)) (hw : Cond.constantLong y.cls index v ∈ tw_tbl) (kk : mj_G y cc nL rt hh d sc (pc + 3) ls (.long v :: st) A post) : mj_G y cc nL rt hh d sc pc ls st A post := by
  intro p l e R s m args below meth c H locs cells slots F nc ns D ad ad0 cy n0 lsC hX hZ hH hE hn hS hc hs hl
  exact lv_ldc2 hX.1 hX.2.2.1 hX.2.2.2.2.2.2.2.1 (hX.2.2.2.2.2.2.2.2.1 _ hw) hd (kk _ _ _ _ _ _ _ _ _ _ _ _ _ _ _ _ _ _ _ _ _ _ _ hX hZ hH hE hn hS hc hs hl)
end GH
end
section
/-! returns -/
section GRT
variable {y : MethodName} {cc : ByteArray} {nL : Nat} {rt : Option FieldType} {hh : List (Nat × Nat × Nat × Nat)} {d : Nat} {sc : Option (Nat × (Nat → Int32))} {pc : Nat} {ls : List (Nat × Value)} {st : List Value} {A : mj_H} {post : mj_O → mj_H → Prop}
/-- the end of a method that returns v -/
theorem mj_leave {s : State} {below : List Frame} {T : State} {locs : List Loc} {cells slots : Nat} {F : Nat → Prop} {nc ns : Nat} {D : va_G} {ad ad0 : Nat → Nat} {cy : Nat → ClassId} {n0 : Nat} {fs : List Frame} {v : Option Value}
    (hH : mj_Hp D F ad cy A.1 s T.heap) (hE : mj_Ext ad ad0 n0 A.1.length) (hn : n0 ≤ A.1.length) (hS : va_S F s.heap T.heap locs) (hc : A.2.1 = nc + cells ∧ A.2.1 ≤ 601024) (hs : A.2.2 = ns + slots ∧ A.2.2 ≤ 7293034) (hp : post (.inl v) A)
    (hrun : (T.setFrames fs).status = .running) (hend : Ended (T.setFrames fs) below (.returned (v.map (mj_v ad)))) (hW : s.WarmedH (T.setFrames fs).vm) (hfr : s.sameButNew ({ T.setFrames fs with vm := s.vm } : State) locs cells slots) : mj_end below s F D ad0 n0 nc ns post (T.setFrames fs) :=
  ⟨_, hrun, hend, .inl v, A, ad, cy, cells, slots, locs, hp, rfl, hH, hE, hn, hS, hc, hs, hW, hfr⟩
theorem G_iret {x : Int32} (hd : decode cc pc = .ok (.ireturn, 1)) (hr : rt = some .int) (hp : post (.inl (some (.int x))) A) : mj_G y cc nL rt hh d sc pc ls [.int x] A post := by
  intro p l e R s m args below meth c H locs cells slots F nc ns D ad ad0 cy n0 lsC hX hZ hH hE hn hS hc hs hl
  obtain ⟨hexec, -, hb, -, hrt, hlocks, -⟩ := hX
  subst hr
  intro T hT X
  obtain ⟨fs, hret, hrun, hended, hW, hframe⟩ := X.leave (v := some (.int x)) (hlocks := hlocks) (fun h => by rw [hrt] at h; cases h)
  have hmeth' : T.vm.method? m = some meth := X.method'
  refine ⟨T.setFrames fs, ?_, mj_leave (v := some (.int x)) (by rw [hT]; exact hH) hE hn (by rw [hT]; exact hS) hc hs hp hrun hended hW hframe⟩
  show Steps p.tables e below (T.setTop (F0 m pc lsC [.int x])) _
  jvm_step X.here [X.here.top, hexec, hb, hd, hmeth', hrt, narrow]
  (try refine ⟨rfl, ?_⟩); (try refine ⟨rfl, ?_⟩)
  first | (intro acts; rw [hret _ acts rfl rfl rfl]) | rw [hret _ _ rfl rfl rfl]
  exact Steps.refl _
theorem G_zret {x : Int32} (hd : decode cc pc = .ok (.ireturn, 1)) (hr : rt = some .boolean) (hx : narrow .boolean (.int x) = .int x) (hp : post (.inl (some (.int x))) A) : mj_G y cc nL rt hh d sc pc ls [.int x] A post := by
  intro p l e R s m args below meth c H locs cells slots F nc ns D ad ad0 cy n0 lsC hX hZ hH hE hn hS hc hs hl
  obtain ⟨hexec, -, hb, -, hrt, hlocks, -⟩ := hX
  subst hr
  intro T hT X
  obtain ⟨fs, hret, hrun, hended, hW, hframe⟩ := X.leave (v := some (.int x)) (hlocks := hlocks) (fun h => by rw [hrt] at h; cases h)
  have hmeth' : T.vm.method? m = some meth := X.method'
  refine ⟨T.setFrames fs, ?_, mj_leave (v := some (.int x)) (by rw [hT]; exact hH) hE hn (by rw [hT]; exact hS) hc hs hp hrun hended hW hframe⟩
  show Steps p.tables e below (T.setTop (F0 m pc lsC [.int x])) _
  jvm_step X.here [X.here.top, hexec, hb, hd, hmeth', hrt, hx]
  (try refine ⟨rfl, ?_⟩); (try refine ⟨rfl, ?_⟩)
  first | (intro acts; rw [hret _ acts rfl rfl rfl]) | rw [hret _ _ rfl rfl rfl]
  exact Steps.refl _
theorem G_ret (hd : decode cc pc = .ok (.return_, 1)) (hr : rt = none) (hp : post (.inl none) A) : mj_G y cc nL rt hh d sc pc ls [] A post := by
  intro p l e R s m args below meth c H locs cells slots F nc ns D ad ad0 cy n0 lsC hX hZ hH hE hn hS hc hs hl
  obtain ⟨hexec, -, hb, -, hrt, hlocks, -⟩ := hX
  subst hr
  intro T hT X
  obtain ⟨fs, hret, hrun, hended, hW, hframe⟩ := X.leave (v := none) (hlocks := hlocks) (fun _ => rfl)
  have hmeth' : T.vm.method? m = some meth := X.method'
  refine ⟨T.setFrames fs, ?_, mj_leave (v := none) (by rw [hT]; exact hH) hE hn (by rw [hT]; exact hS) hc hs hp hrun hended hW hframe⟩
  show Steps p.tables e below (T.setTop (F0 m pc lsC [])) _
  jvm_step X.here [X.here.top, hexec, hb, hd, hmeth', hrt]
  (try refine ⟨rfl, ?_⟩); (try refine ⟨rfl, ?_⟩)
  first | (intro acts; rw [hret _ acts rfl rfl rfl]) | rw [hret _ _ rfl rfl rfl]
  exact Steps.refl _
end GRT
end
section
/-! a call: from a callee's judgement to the caller's next state, whether it returns or throws -/
def mj_cw (y : MethodName) (cc : ByteArray) (nL : Nat) (rt : Option FieldType) (hh : List (Nat × Nat × Nat × Nat)) : Prop := (Cond.code y cc nL rt ∈ tw_tbl ∧ hh = []) ∨ Cond.codeWith y cc nL rt hh ∈ tw_tbl
theorem mj_cw_spec {y : MethodName} {cc : ByteArray} {nL : Nat} {rt : Option FieldType} {hh : List (Nat × Nat × Nat × Nat)} {args : Array Value} {s : State} {mk : MethodId} (h : mj_cw y cc nL rt hh) (hts : ∀ w ∈ tw_tbl, w.before args s = true) (hn : s.methodNamed? y = some mk) :
    ∃ meth c, s.vm.method? mk = some meth ∧ meth.code = some c ∧ c.code = cc ∧ c.maxLocals = nL ∧ meth.sig.returnType = rt ∧ meth.locks = false ∧ c.exceptionTable.toList.map (fun h => (h.startPc, h.endPc, h.handlerPc, h.catchType)) = hh ∧ parseMethodDescriptor y.desc = some meth.sig := by
  rcases h with ⟨h, rfl⟩ | h
  · obtain ⟨meth, c, h1, h2, h3, h4, h5, h6, h7, h8⟩ := Cond.code_spec hn (hts _ h)
    refine ⟨meth, c, h1, h2, h3, h4, h5, h6, ?_, h8⟩
    have h0 : c.exceptionTable.toList = [] := by simpa [Array.isEmpty] using h7
    rw [h0]; rfl
  · obtain ⟨m9, meth, c, hn9, h1, h2, h3, h4, h7, h5, h6, h8⟩ := Cond.codeWith_spec (hts _ h)
    cases hn.symm.trans hn9
    exact ⟨meth, c, h1, h2, h3, h4, h5, h6, h7, h8⟩
theorem mj_args (ad : Nat → Nat) (As : List Value) : ∀ i, lv_args i (As.map (mj_v ad)) = mj_ls ad (lv_args i As) := by
  induction As with
  | nil => intro i; rfl
  | cons v vs ih =>
    intro i
    show (i, mj_v ad v) :: lv_args (if (mj_v ad v).category = 2 then i + 2 else i + 1) (vs.map (mj_v ad)) = (i, mj_v ad v) :: mj_ls ad (lv_args (if v.category = 2 then i + 2 else i + 1) vs)
    rw [mj_cat, ih]
theorem mj_sl (ad : Nat → Nat) (As : List Value) : (lg_sl (As.map (mj_v ad))).length = (lg_sl As).length := by
  induction As with
  | nil => rfl
  | cons v vs ih =>
    have e : ∀ (w : Value) (ws : List Value), (lg_sl (w :: ws)).length = (if w.category = 2 then 2 else 1) + (lg_sl ws).length := fun w ws => by
      unfold lg_sl
      rw [List.flatMap_cons, List.length_append]
      split <;> rfl
    rw [List.map_cons, e, e, mj_cat, ih]
theorem mj_plain {D : va_G} {F : Nat → Prop} {ad : Nat → Nat} {cy : Nat → ClassId} {A : List mj_C} {U : State} {H : Heap} {k : Nat} (h : mj_Hp D F ad cy A U H) (hk : k < A.length) : ∃ cell : Cell, H[ad k]? = some cell ∧ cell.vm = .none := by
  have hg : A[k]? = some A[k] := List.getElem?_eq_getElem hk
  have hw := h.1 k _ (mj_W_get hg)
  generalize A[k] = cc at hg hw
  rcases cc with q | q
  · have h1 : H[ad k]? = some (vp_cell (cy k) (mj_A ad q.2)) := hw
    refine ⟨_, h1, ?_⟩
    unfold vp_cell
    split <;> rfl
  · obtain ⟨r, -, cell, q1, -, q3, -⟩ := hw
    exact ⟨cell, q1, q3⟩
section GC
variable {p : Program} {l : Launch} {e : Env} {R : Room} {s : State} {m : MethodId} {args : Array Value} {below : List Frame} {meth : Method} {c : Code} {T : State} {locs : List Loc} {cells slots : Nat} {F : Nat → Prop} {nc ns : Nat} {D : va_G} {ad : Nat → Nat} {cy : Nat → ClassId} {A : mj_H}
variable {y : MethodName} {cc : ByteArray} {nL : Nat} {rt : Option FieldType} {hh : List (Nat × Nat × Nat × Nat)} {d : Nat}
variable {y' : MethodName} {cc' : ByteArray} {nL' : Nat} {rt' : Option FieldType} {hh' : List (Nat × Nat × Nat × Nat)} {As : List Value} {post' : mj_O → mj_H → Prop}
def mj_F (A : List mj_C) (ad : Nat → Nat) (z : Nat) : Nat → Prop := fun q => (∃ k, k < A.length ∧ q = ad k) ∨ z ≤ q
theorem mj_F_in (hH : mj_Hp D F ad cy A.1 s T.heap) (hS : va_S F s.heap T.heap locs) (hA : ∀ q, s.heap.size ≤ q → F q) : ∀ q, mj_F A.1 ad T.heap.size q → F q := by
  intro q hq
  rcases hq with ⟨k, hk, rfl⟩ | h
  · exact hH.2.1.2 k _ (mj_W_get (List.getElem?_eq_getElem hk))
  · exact hA q (Nat.le_trans hS.1 h)
theorem mj_met (hX : mj_X y cc nL rt hh (d + 1) p e R s m args meth c F nc ns) (hW : s.WarmedH T.vm) (hH : mj_Hp D F ad cy A.1 s T.heap) (hS : va_S F s.heap T.heap locs) (hc : A.2.1 = nc + cells ∧ A.2.1 ≤ 601024) (hs : A.2.2 = ns + slots ∧ A.2.2 ≤ 7293034)
    (hcw : mj_cw y' cc' nL' rt' hh') (hpl : plainName y'.cls = true) (hsl : (lg_sl As).length ≤ nL') (hG : mj_G y' cc' nL' rt' hh' d none 0 (lv_args 0 As) [] A post') :
    MetFree l y' (headSpec tw_tbl { frames := d, cells := R.cells - cells, slots := R.slots - slots, locals := 41 * d }) (fun a st => a = (As.map (mj_v ad)).toArray ∧ st.heap = T.heap ∧ st.vm = T.vm) (fun _ e _ _ _ => e.platform.stackTraces = false)
      (fun a st o t => mj_fin st (mj_F A.1 ad T.heap.size) D ad A.1.length A.2.1 A.2.2 post' o t) := by
  refine MetFree.of_bodyS (code := cc') (maxLocals := nL') (ret := rt') hpl ?_ ?_
  · intro args2 s2 m2 h hn
    obtain ⟨meth2, c2, h1, h2, h3, h4, h5, h6, -⟩ := mj_cw_spec hcw (atoms_spec (ws := tw_tbl) h) hn
    exact ⟨meth2, c2, h1, h2, h3, h4, h5, h6⟩
  · intro p2 e2 s2 m2 args2 below2 meth2 c2 s1 B hml hP hK
    obtain ⟨rfl, hheap, hvm⟩ := hP
    have hts := atoms_spec (ws := tw_tbl) B.pre
    have hFin := mj_F_in hH hS hX.2.2.2.2.2.2.2.2.2.2.2.1
    have hal : s.vm.Alike s2.vm := by rw [hvm]; exact hW.alike
    have hH2 : mj_Hp D (mj_F A.1 ad T.heap.size) ad cy A.1 s2 s2.heap := by
      refine ⟨by rw [hheap]; exact hH.1, ⟨hH.2.1.1, fun k q hq => ?_⟩, va_K.moved hal hH.2.2.1, fun k q hq => ?_, hH.2.2.2.2⟩
      · have hlt : k < A.1.length := by
          have := (List.getElem?_eq_some_iff.mp hq).1
          rw [mj_W_len] at this; exact this
        have := mj_W_get (ad := ad) (cy := cy) (List.getElem?_eq_getElem hlt)
        rw [this] at hq
        cases hq
        exact Or.inl ⟨k, hlt, rfl⟩
      · exact (va_K.moved hal (mj_K1 hH hq)).2 0 _ rfl
    have hh0 : s1.heap = s2.heap := by rw [B.state]; rfl
    obtain ⟨meth9, c9, g1, g2, -, -, -, -, g7, -⟩ := mj_cw_spec hcw hts B.named
    cases B.method.symm.trans g1
    cases (Stand.of_body B).code.symm.trans g2
    have hXc : mj_X y' cc' nL' rt' hh' d p2 e2 { frames := d, cells := R.cells - cells, slots := R.slots - slots, locals := 41 * d } s2 m2 (As.map (mj_v ad)).toArray meth2 c2 (mj_F A.1 ad T.heap.size) A.2.1 A.2.2 := by
      refine ⟨B.exec, hK, B.bytes, hml, B.returns, B.notSynchronized, (name_of_methodNamed B.named B.method).1, findClass_of_methodNamed B.named, hts, g7, ⟨rfl, Nat.le_refl _, ?_, ?_⟩, fun q hq => Or.inr (by rw [← hheap]; exact hq), fun q cell hq hcell => ?_, ?_, ?_, va_Nc.moved hal hX.2.2.2.2.2.2.2.2.2.2.2.2.2.2.2⟩
      · have := hX.2.2.2.2.2.2.2.2.2.2.1.2.2.1
        show R.cells - cells + A.2.1 = 601024
        omega
      · have := hX.2.2.2.2.2.2.2.2.2.2.1.2.2.2
        show R.slots - slots + A.2.2 = 7293034
        omega
      · rcases hq with ⟨k, hk, rfl⟩ | h
        · obtain ⟨cell9, h1, h2⟩ := mj_plain hH2 hk
          rw [h1] at hcell
          cases hcell
          rw [h2]; rfl
        · rw [← hheap] at h
          rw [Array.getElem?_eq_none h] at hcell
          cases hcell
      · rw [hheap]
        exact mj_st_moved hX.2.2.2.2.2.2.2.2.2.2.2.2.2.1 hal (fun a h1 h2 => hS.2.1 a h1 h2) hFin
      · rw [hheap]
        exact mj_st_moved hX.2.2.2.2.2.2.2.2.2.2.2.2.2.2.1 hal (fun a h1 h2 => hS.2.1 a h1 h2) hFin
    have hl := lv_entry (As.map (mj_v ad)) (n := nL') (by rw [mj_sl]; exact hsl)
    rw [mj_args] at hl
    rw [lg_entry_eq]
    generalize (lg_sl (As.map (mj_v ad)) ++ List.replicate (nL' - (lg_sl (As.map (mj_v ad))).length) Slot.unset).toArray = lsC at hl ⊢
    have K := hG p2 l e2 _ s2 m2 (As.map (mj_v ad)).toArray below2 meth2 c2 s2.heap [] 0 0 (mj_F A.1 ad T.heap.size) A.2.1 A.2.2 D ad ad cy A.1.length lsC hXc trivial hH2 (fun _ _ => rfl) (Nat.le_refl _) va_S.rf ⟨rfl, hc.2⟩ ⟨rfl, hs.2⟩ hl
    obtain ⟨t, a1, o, b1, b2, b3⟩ := K s1 hh0 (Stand.of_body B)
    exact ⟨t, o, a1, b1, b2, b3⟩
end GC
end
section
section GC2
variable {p : Program} {l : Launch} {e : Env} {R : Room} {s : State} {m : MethodId} {args : Array Value} {below : List Frame} {meth : Method} {c : Code} {T : State} {locs : List Loc} {cells slots : Nat} {F : Nat → Prop} {nc ns : Nat} {D : va_G} {ad : Nat → Nat} {cy : Nat → ClassId} {A : mj_H}
variable {y : MethodName} {cc : ByteArray} {nL : Nat} {rt : Option FieldType} {hh : List (Nat × Nat × Nat × Nat)} {d : Nat}
variable {y' : MethodName} {cc' : ByteArray} {nL' : Nat} {rt' : Option FieldType} {hh' : List (Nat × Nat × Nat × Nat)} {As : List Value} {post' : mj_O → mj_H → Prop}
def mj_Af (p : Program) (l : Launch) (e : Env) (R : Room) (s : State) (m : MethodId) (args : Array Value) (below : List Frame) (meth : Method) (c : Code) (F : Nat → Prop) (D : va_G) (nc ns : Nat) (ad : Nat → Nat) (n0 : Nat) (post' : mj_O → mj_H → Prop) (S0 : State) (g : JFrame) (len : Nat) : Prop :=
  ∃ (o : Outcome) (U : State) (L : List Loc) (k n : Nat) (out : mj_O) (A' : mj_H) (ad' : Nat → Nat) (cy' : Nat → ClassId),
    Stand p l e R s m args below meth c U L k n ∧ post' out A' ∧ mj_out s ad' out o U ∧ mj_Hp D F ad' cy' A'.1 s U.heap ∧ mj_Ext ad' ad n0 A'.1.length ∧ n0 ≤ A'.1.length ∧ va_S F s.heap U.heap L ∧ (A'.2.1 = nc + k ∧ A'.2.1 ≤ 601024) ∧ (A'.2.2 = ns + n ∧ A'.2.2 ≤ 7293034) ∧
    (∀ v, o = .returned v → Steps p.tables e below S0 (U.setTop { g with pc := g.pc + len, stack := v.toList ++ g.stack })) ∧
    (∀ x, o = .threw x → Steps p.tables e below S0 ((U.setTop g).pushFrame (.throwing x)))
theorem mj_inv (X : Stand p l e R s m args below meth c T locs cells slots) (hX : mj_X y cc nL rt hh (d + 1) p e R s m args meth c F nc ns) (hH : mj_Hp D F ad cy A.1 s T.heap) (hS : va_S F s.heap T.heap locs) (hc : A.2.1 = nc + cells ∧ A.2.1 ≤ 601024) (hs : A.2.2 = ns + slots ∧ A.2.2 ≤ 7293034)
    (hcw : mj_cw y' cc' nL' rt' hh') (hini : Cond.initialized y'.cls ∈ tw_tbl) (hpl : plainName y'.cls = true) (hsl : (lg_sl As).length ≤ nL') (hG : mj_G y' cc' nL' rt' hh' d none 0 (lv_args 0 As) [] A post')
    {g : JFrame} {ig : Instr} {len : Nat} (hg : g.method = m) (hsize : g.locals.size = c.maxLocals) (hdg : decode c.code g.pc = .ok (ig, len)) (hw : 2 * g.monitorRoom + (g.stack.map fun v => v.category).sum + (nL' + 11) ≤ 41) {mk : MethodId} (hn : T.methodNamed? y' = some mk) :
    mj_Af p l e R s m args below meth c F D nc ns ad A.1.length post' (doInvoke e (T.setTop g) [] mk (As.map (mj_v ad)).toArray).1 g len := by
  have hM := mj_met (l := l) hX X.warmed hH hS hc hs hcw hpl hsl hG
  have htsT : ∀ w ∈ tw_tbl, ∀ a', w.before a' T = true := fun w h a' => tw_moved X.warmed (tw_in h) (hX.2.2.2.2.2.2.2.2.1 w h)
  obtain ⟨methY, cY, hmY, hcY, -, hlY, -⟩ := mj_cw_spec hcw (fun w h => htsT w h #[]) hn
  obtain ⟨kY, hkY, -⟩ := className_of_methodNamed hn
  have hinitY : kY.init = .initialized := Cond.initialized_spec (args := #[]) (findClass_of_methodNamed hn) hkY (htsT _ hini #[])
  have h : At T g.method c below := by rw [hg]; exact X.here
  have hroom := hX.2.2.2.2.2.2.2.2.2.2.1
  have happ : (headSpec tw_tbl { frames := d, cells := R.cells - cells, slots := R.slots - slots, locals := 41 * d }).appliesLoose y' e.platform (T.calling g mk (As.map (mj_v ad)).toArray) = true := by
    refine Spec.appliesLoose_calling (g := g) h hdg hn hkY hinitY (X.room_calling (g := g) (R' := { frames := d, cells := R.cells - cells, slots := R.slots - slots, locals := 41 * d }) hsize hmY hcY ?_ ?_ ?_ ?_) (atoms_intro (fun w hw => htsT w hw _))
    · show d + 1 ≤ R.frames; rw [hroom.1]; exact Nat.le_refl _
    · show 2 * g.monitorRoom + (g.stack.map fun v => v.category).sum + (cY.maxLocals + 11) + 41 * d ≤ R.locals
      rw [hlY]; have := hroom.2.1; omega
    · show cells + (R.cells - cells) ≤ R.cells; have := hroom.2.2.1; omega
    · show slots + (R.slots - slots) ≤ R.slots; have := hroom.2.2.2; omega
  obtain ⟨mid, hmid⟩ := h.above
  have hfr : (T.setTop g).frames = (.java g :: mid) ++ below := by rw [State.frames_setTop' g h.top, hmid]; rfl
  obtain ⟨o, s₂, hsteps, -, hend, hq⟩ := Steps.callFree hM p X.admits X.cas X.clock (acts := []) hfr happ ⟨rfl, rfl, rfl⟩ hX.2.1
  rw [State.frames_setTop' g h.top] at hend
  obtain ⟨out, A', ad', cy', k, n, L, q1, q2, q3, q4, q5, q6, q7, q8, hW₂, e2, p2, p3, p4, p5, p6⟩ := hq
  have e3 : s₂ = ({ (T.calling g mk (As.map (mj_v ad)).toArray).setFrames s₂.frames with heap := s₂.heap, slotsUsed := s₂.slotsUsed } : State).setVm s₂.vm := by
    have : s₂ = ({ s₂ with vm := (T.calling g mk (As.map (mj_v ad)).toArray).vm } : State).setVm s₂.vm := rfl
    rw [show ({ s₂ with vm := (T.calling g mk (As.map (mj_v ad)).toArray).vm } : State) = _ from e2] at this
    exact this
  have hW' : T.WarmedH s₂.vm := hW₂
  obtain ⟨g₀, hg0⟩ := Option.isSome_iff_exists.mp h.top
  obtain ⟨r, hr⟩ := State.topJava?_eq_some.mp hg0
  have hsame : T.sameButNew ({ T with heap := s₂.heap, slotsUsed := s₂.slotsUsed } : State) L k n := by
    refine ⟨?_, p2, p3, p4, p5, p6⟩
    obtain ⟨t, ht, -⟩ := State.frames_cons hr
    show ({ T with heap := s₂.heap, slotsUsed := s₂.slotsUsed } : State) = { T.setFrames T.frames with heap := s₂.heap, slotsUsed := s₂.slotsUsed }
    rw [State.setFrames_self ht]
  have hFin := mj_F_in hH hS hX.2.2.2.2.2.2.2.2.2.2.2.1
  have hal : T.vm.Alike s.vm := X.warmed.alike.symm
  refine ⟨o, (({ T with heap := s₂.heap, slotsUsed := s₂.slotsUsed } : State).setVm s₂.vm), locs ++ L, cells + k, slots + n, out, A', ad', cy', ?_, q1, ?_, ?_, q4, q5, ?_, ?_, ?_, ?_, ?_⟩
  · subst hg
    exact ⟨X.admits, X.cas, X.clock, X.frames, X.room, X.hears, X.method, X.code, (X.here.setHeapUsed s₂.heap s₂.slotsUsed).setVm hW'.alike, X.tail, State.WarmedH.trans X.warmed hW', X.limits, X.bytes, X.same.trans (hsame.setVm s.vm)⟩
  · rcases out with v | C
    · exact q2
    · obtain ⟨x, cell, r1, r2, r3, r4⟩ := q2
      refine ⟨x, cell, r1, r2, r3, ?_⟩
      have r4' : T.vm.findClass (mj_ex C) = some cell.cls := r4
      rw [← hal.findClass] at r4'
      exact r4'
  · refine ⟨q3.1, ⟨q3.2.1.1, fun k q hk => hFin _ (q3.2.1.2 k q hk)⟩, ?_, fun k q hk => ?_, q3.2.2.2.2⟩
    · exact va_K.moved (u := T.calling g mk (As.map (mj_v ad)).toArray) hal q3.2.2.1
    · exact (va_K.moved (u := T.calling g mk (As.map (mj_v ad)).toArray) (U := s) hal (mj_K1 q3 hk)).2 0 _ rfl
  · refine ⟨Nat.le_trans hS.1 q6.1, fun q h1 h2 => ?_, fun z hz => ?_⟩
    · exact (q6.2.1 q (Nat.lt_of_lt_of_le h1 hS.1) (fun h9 => h2 (hFin q h9))).trans (hS.2.1 q h1 h2)
    · rcases List.mem_append.mp hz with h9 | h9
      · exact hS.2.2 z h9
      · exact hFin _ (q6.2.2 z h9)
  · exact ⟨by rw [q7.1, hc.1]; omega, q7.2⟩
  · exact ⟨by rw [q8.1, hs.1]; omega, q8.2⟩
  · intro v hv
    subst hv
    obtain ⟨c₂, i₂, len₂, hc₂, hd₂, hf₂⟩ := hend
    have hcc : c₂ = c := by
      have h1 : s₂.code? g.method = T.code? g.method := by
        rw [State.code?_eq, State.code?_eq, hW'.alike.method?]
      exact Option.some.inj (hc₂.symm.trans (h1.trans h.code))
    subst hcc
    have hlen : len₂ = len := by rw [hdg] at hd₂; cases hd₂; rfl
    subst hlen
    have hs₂ : s₂ = (({ T with heap := s₂.heap, slotsUsed := s₂.slotsUsed } : State).setVm s₂.vm).setTop { g with pc := g.pc + len₂, stack := v.toList ++ g.stack } := by
      have hr' : (({ T with heap := s₂.heap, slotsUsed := s₂.slotsUsed } : State).setVm s₂.vm).frames = .java g₀ :: r := hr
      refine e3.trans ?_
      rw [hf₂, State.calling_eq h.top, State.setFrames_setFrames, State.setTop_of_frames _ hr', hr]
      rfl
    rw [← hs₂]
    exact hsteps
  · intro x hx
    subst hx
    have hf₂ : s₂.frames = .throwing x :: .java g :: T.frames.tail := hend
    have hs₂ : s₂ = ((({ T with heap := s₂.heap, slotsUsed := s₂.slotsUsed } : State).setVm s₂.vm).setTop g).pushFrame (.throwing x) := by
      have hr' : (({ T with heap := s₂.heap, slotsUsed := s₂.slotsUsed } : State).setVm s₂.vm).frames = .java g₀ :: r := hr
      refine e3.trans ?_
      rw [hf₂, State.calling_eq h.top, State.setFrames_setFrames, State.setTop_of_frames _ hr', hr, State.pushFrame, State.setFrames_setFrames]
      have hfr9 : ((({ T with heap := s₂.heap, slotsUsed := s₂.slotsUsed } : State).setVm s₂.vm).setFrames (.java g :: r)).frames = .java g :: r := State.frames_setFrames _ (State.cur_lt_of_frames hr')
      rw [hfr9]
      rfl
    rw [← hs₂]
    exact hsteps
end GC2
end
section
/-! the rules of calls -/
section GC3
variable {p : Program} {l : Launch} {e : Env} {R : Room} {s : State} {m : MethodId} {args : Array Value} {below : List Frame} {meth : Method} {c : Code} {locs : List Loc} {cells slots : Nat} {F : Nat → Prop} {nc ns : Nat} {D : va_G} {ad ad0 : Nat → Nat} {cy : Nat → ClassId} {n0 : Nat} {lsC : Array Slot}
variable {y : MethodName} {cc : ByteArray} {nL : Nat} {rt : Option FieldType} {hh : List (Nat × Nat × Nat × Nat)} {d : Nat} {sc : Option (Nat × (Nat → Int32))} {pc : Nat} {ls : List (Nat × Value)} {st : List Value} {A : mj_H} {post : mj_O → mj_H → Prop}
variable {y' : MethodName} {cc' : ByteArray} {nL' : Nat} {rt' : Option FieldType} {hh' : List (Nat × Nat × Nat × Nat)} {As : List Value} {post' : mj_O → mj_H → Prop}
/-- no handler stands over pc -/
def mj_nh (hh : List (Nat × Nat × Nat × Nat)) (pc : Nat) : Bool := hh.all (fun h => !(decide (h.1 ≤ pc) && decide (pc < h.2.1)))
theorem mj_nh_out {hh : List (Nat × Nat × Nat × Nat)} {pc : Nat} {c : Code} (h : mj_nh hh pc = true) (ht : c.exceptionTable.toList.map (fun h => (h.startPc, h.endPc, h.handlerPc, h.catchType)) = hh) : ∀ x ∈ c.exceptionTable.toList, covers x pc = false := by
  intro x hx
  have h1 := List.all_eq_true.mp h (x.startPc, x.endPc, x.handlerPc, x.catchType) (by rw [← ht]; exact List.mem_map.mpr ⟨x, hx, rfl⟩)
  simp only [Bool.not_eq_true'] at h1
  exact h1
/-- what stands behind a call whose callee makes no cell that is kept -/
theorem mj_after {S0 : State} (hX : mj_X y cc nL rt hh d p e R s m args meth c F nc ns) (hZ : mj_Z sc ad F s) (hE : mj_Ext ad ad0 n0 A.1.length) (hn : n0 ≤ A.1.length) (hl : lv_has lsC nL (mj_ls ad ls))
    (hlen : ∀ out A', post' out A' → A'.1.length = A.1.length)
    (h : mj_Af p l e R s m args below meth c F D nc ns ad A.1.length post' S0 (F0 m pc lsC (st.map (mj_v ad))) 3)
    (kr : ∀ v A', post' (.inl v) A' → mj_G y cc nL rt hh d sc (pc + 3) ls (v.toList ++ st) A' post)
    (kt : ∀ C A', post' (.inr C) A' → mj_nh hh pc = true ∧ post (.inr C) A') : ∃ t, Steps p.tables e below S0 t ∧ mj_end below s F D ad0 n0 nc ns post t := by
  obtain ⟨o, U, L, k, n, out, A', ad', cy', X', q1, q2, q3, q4, q5, q6, q7, q8, q9, q10⟩ := h
  have hl' := hlen out A' q1
  have he : ad' = ad := funext fun j => q4 j (by rw [hl']; exact Nat.lt_or_ge j _)
  subst he
  have hE' : mj_Ext ad' ad0 n0 A'.1.length := by rw [hl']; exact hE
  have hn' : n0 ≤ A'.1.length := by rw [hl']; exact hn
  rcases out with v | C
  · have ho : o = .returned (v.map (mj_v ad')) := q2
    have hst := q9 _ ho
    obtain ⟨t, a1, b1⟩ := kr v A' q1 p l e R s m args below meth c U.heap L k n F nc ns D ad' ad0 cy' n0 lsC hX hZ q3 hE' hn' q6 q7 q8 hl U rfl X'
    refine ⟨t, hst.trans ?_, b1⟩
    have e1 : ({ F0 m pc lsC (st.map (mj_v ad')) with pc := pc + 3, stack := (v.map (mj_v ad')).toList ++ st.map (mj_v ad') } : JFrame) = F0 m (pc + 3) lsC ((v.toList ++ st).map (mj_v ad')) := by
      cases v <;> rfl
    rw [← e1] at a1
    exact a1
  · obtain ⟨x, cell, r1, r2, r3, r4⟩ := q2
    have hst := q10 x r1
    obtain ⟨k1, k2⟩ := kt C A' q1
    obtain ⟨w1, w2, w3, w4, w5⟩ := X'.leaveThrown x (g := F0 m pc lsC (st.map (mj_v ad'))) rfl rfl rfl (mj_nh_out k1 hX.2.2.2.2.2.2.2.2.2.1) (hlocks := hX.2.2.2.2.2.1)
    exact ⟨_, hst.trans w1, .threw x, w2, w3, .inr C, A', ad', cy', k, n, L, k2, ⟨x, cell, rfl, r2, r3, r4⟩, q3, hE', hn', q6, q7, q8, w4, w5⟩
def mj_cv (own : String) (index : Nat) (y' : MethodName) (ci : Nat) : Prop := (Cond.methodLink own index y' ∈ tw_tbl ∨ ∃ host, Cond.methodLinkNest own index y' host ∈ tw_tbl) ∧ Cond.instanceMethod y' ∈ tw_tbl ∧ Cond.selects y'.cls y' y' ∈ tw_tbl ∧ Cond.initialized y'.cls ∈ tw_tbl ∧ (∃ (T : u_T) (N : Nat), mj_cl[ci]? = some (y'.cls, T, N)) ∧ (y'.cls ≠ "java/lang/invoke/MethodHandle" ∧ y'.cls ≠ "java/lang/invoke/VarHandle") ∧ plainName y'.cls = true
theorem G_callv {index ci b : Nat} {fs : List Value} (hd : decode cc pc = .ok (.invokevirtual index, 3)) (hcv : mj_cv y.cls index y' ci) (hcw : mj_cw y' cc' nL' rt' hh') (hb : A.1[b]? = some (.inr (ci, fs))) (hn1 : (parseMethodDescriptor y'.desc).map (fun d => d.parameters.length) = some As.length) (hsl : (lg_sl (.ref b :: As)).length ≤ nL') (hw : (st.map fun v => v.category).sum + (nL' + 11) ≤ 41)
    (hG : mj_G y' cc' nL' rt' hh' d none 0 (lv_args 0 (.ref b :: As)) [] A post') (hlen : ∀ out A', post' out A' → A'.1.length = A.1.length)
    (kr : ∀ v A', post' (.inl v) A' → mj_G y cc nL rt hh (d + 1) sc (pc + 3) ls (v.toList ++ st) A' post) (kt : ∀ C A', post' (.inr C) A' → mj_nh hh pc = true ∧ post (.inr C) A') :
    mj_G y cc nL rt hh (d + 1) sc pc ls (As.reverse ++ .ref b :: st) A post := by
  intro p l e R s m args below meth c H locs cells slots F nc ns D ad ad0 cy n0 lsC hX hZ hH hE hn hS hc hs hl
  obtain ⟨w1, w2, w3, w4, ⟨T0, N0, w5⟩, w6, w7⟩ := hcv
  have hts := hX.2.2.2.2.2.2.2.2.1
  obtain ⟨cellB, hcB, hoB, hclB⟩ := va_recv hH.2.2.1 hH.1 (ci := ci) (q0 := b) w5 (mj_W_get hb)
  intro T hT X
  obtain ⟨mk, methM, hnamed, hmethM, hstM, habM⟩ := Cond.instanceMethod_spec (hts _ w2)
  obtain ⟨methM', cM, hmethM', -, -, -, -, -, -, hsigM⟩ := mj_cw_spec hcw hts hnamed
  cases hmethM.symm.trans hmethM'
  obtain ⟨c2, r2, m2, q1, q2, q3, q4, kP, hkP, hkPi⟩ := Cond.selects_spec (hts _ w3)
  cases hclB.symm.trans q1
  cases (State.methodFound?_of_named hnamed w6).symm.trans q2
  cases hnamed.symm.trans q3
  have hselP : selectMethod e.platform s.vm cellB.cls mk = .method mk := by rw [Launch.admits_selectMethod X.admits]; exact q4
  have hlenA : (As.map (mj_v ad)).length = methM.sig.parameters.length := by
    rw [hsigM] at hn1
    rw [List.length_map]
    exact (Option.some.inj hn1).symm
  have hstk : (F0 m pc lsC ((As.reverse ++ .ref b :: st).map (mj_v ad))).stack = (As.map (mj_v ad)).reverse ++ .ref (ad b) :: st.map (mj_v ad) := by
    show (As.reverse ++ .ref b :: st).map (mj_v ad) = _
    rw [List.map_append, List.map_reverse]; rfl
  have hstep : ∃ (vm₁ : Vm), Stand p l e R s m args below meth c (T.setVm vm₁) locs cells slots ∧ ∀ target, (∀ acts, Steps p.tables e below (doInvoke e ((T.setVm vm₁).setTop (F0 m pc lsC (st.map (mj_v ad)))) acts mk (((.ref b :: As).map (mj_v ad)).toArray)).1 target) → Steps p.tables e below (T.setTop (F0 m pc lsC ((As.reverse ++ .ref b :: st).map (mj_v ad)))) target := by
    rcases w1 with w1 | ⟨host, w1⟩
    · obtain ⟨vm₁, X₁, hstep₁⟩ := X.invokevirtual hX.1 hX.2.2.2.2.2.2.2.1 (hts _ w1) hnamed hmethM hstM hkP hkPi w6 (a := ad b) (cell := cellB) (by rw [hT]; exact hcB)
        (fun z h => by rw [h] at hoB; cases hoB) hselP hmethM habM hkP hkPi (g := F0 m pc lsC ((As.reverse ++ .ref b :: st).map (mj_v ad))) rfl (argsL := As.map (mj_v ad)) (rest := st.map (mj_v ad)) hlenA hstk (by rw [hX.2.2.1]; exact hd)
      exact ⟨vm₁, X₁, hstep₁⟩
    · obtain ⟨vm₁, X₁, hstep₁⟩ := X.invokevirtualNest hX.1 hX.2.2.2.2.2.2.2.1 (hts _ w1) hnamed hmethM hstM hkP hkPi w6 (a := ad b) (cell := cellB) (by rw [hT]; exact hcB)
        (fun z h => by rw [h] at hoB; cases hoB) hselP hmethM habM hkP hkPi (g := F0 m pc lsC ((As.reverse ++ .ref b :: st).map (mj_v ad))) rfl (argsL := As.map (mj_v ad)) (rest := st.map (mj_v ad)) hlenA hstk (by rw [hX.2.2.1]; exact hd)
      exact ⟨vm₁, X₁, hstep₁⟩
  obtain ⟨vm₁, X₁, hstep₁⟩ := hstep
  have hAf := mj_inv (T := T.setVm vm₁) (As := .ref b :: As) X₁ hX (by show mj_Hp D F ad cy A.1 s T.heap; rw [hT]; exact hH) (by show va_S F s.heap T.heap locs; rw [hT]; exact hS) hc hs hcw w4 w7 hsl hG (g := F0 m pc lsC (st.map (mj_v ad))) rfl (by rw [hX.2.2.2.1]; exact hl.1) (by rw [hX.2.2.1]; exact hd)
    (by show 2 * 0 + ((st.map (mj_v ad)).map fun v => v.category).sum + (nL' + 11) ≤ 41; rw [List.map_map]; have : ((fun v : Value => v.category) ∘ mj_v ad) = fun v => v.category := funext (mj_cat ad); rw [this]; omega) (X₁.named hnamed)
  obtain ⟨t, a1, b1⟩ := mj_after (ls := ls) (sc := sc) hX hZ hE hn hl hlen hAf kr kt
  exact ⟨t, hstep₁ t (fun acts => by rw [doInvoke_state]; exact a1), b1⟩
def mj_cs (own : String) (index : Nat) (y' : MethodName) : Prop := Cond.methodLink own index y' ∈ tw_tbl ∧ Cond.static y' ∈ tw_tbl ∧ Cond.initialized y'.cls ∈ tw_tbl ∧ (y'.cls ≠ "java/lang/invoke/MethodHandle" ∧ y'.cls ≠ "java/lang/invoke/VarHandle") ∧ plainName y'.cls = true
theorem G_calls {index : Nat} (hd : decode cc pc = .ok (.invokestatic index, 3)) (hcs : mj_cs y.cls index y') (hcw : mj_cw y' cc' nL' rt' hh') (hn1 : (parseMethodDescriptor y'.desc).map (fun d => d.parameters.length) = some As.length) (hsl : (lg_sl As).length ≤ nL') (hw : (st.map fun v => v.category).sum + (nL' + 11) ≤ 41)
    (hG : mj_G y' cc' nL' rt' hh' d none 0 (lv_args 0 As) [] A post') (hlen : ∀ out A', post' out A' → A'.1.length = A.1.length)
    (kr : ∀ v A', post' (.inl v) A' → mj_G y cc nL rt hh (d + 1) sc (pc + 3) ls (v.toList ++ st) A' post) (kt : ∀ C A', post' (.inr C) A' → mj_nh hh pc = true ∧ post (.inr C) A') :
    mj_G y cc nL rt hh (d + 1) sc pc ls (As.reverse ++ st) A post := by
  intro p l e R s m args below meth c H locs cells slots F nc ns D ad ad0 cy n0 lsC hX hZ hH hE hn hS hc hs hl
  obtain ⟨w1, w2, w4, w6, w7⟩ := hcs
  have hts := hX.2.2.2.2.2.2.2.2.1
  intro T hT X
  have hnm : ∃ mk, s.methodNamed? y' = some mk := by
    rcases hcw with ⟨h, -⟩ | h
    · exact Cond.code_named (hts _ h)
    · obtain ⟨m9, meth9, c9, hn9, -⟩ := Cond.codeWith_spec (hts _ h)
      exact ⟨m9, hn9⟩
  obtain ⟨mk, hnamed⟩ := hnm
  obtain ⟨methM, cM, hmethM, -, -, -, -, -, -, hsigM⟩ := mj_cw_spec hcw hts hnamed
  have hstatic : methM.isStatic = true := Cond.static_spec hnamed hmethM (hts _ w2)
  obtain ⟨kP, hkP, -⟩ := className_of_methodNamed hnamed
  have hinitP : kP.init = .initialized := Cond.initialized_spec (findClass_of_methodNamed hnamed) hkP (hts _ w4)
  have hlenA : (As.map (mj_v ad)).length = methM.sig.parameters.length := by
    rw [hsigM] at hn1
    rw [List.length_map]
    exact (Option.some.inj hn1).symm
  have hstk : (F0 m pc lsC ((As.reverse ++ st).map (mj_v ad))).stack = (As.map (mj_v ad)).reverse ++ st.map (mj_v ad) := by
    show (As.reverse ++ st).map (mj_v ad) = _
    rw [List.map_append, List.map_reverse]
  obtain ⟨vm₁, X₁, hstep₁⟩ := X.invokestatic hX.1 hX.2.2.2.2.2.2.2.1 (hts _ w1) hnamed hmethM hstatic hkP hinitP w6 (g := F0 m pc lsC ((As.reverse ++ st).map (mj_v ad))) rfl (argsL := As.map (mj_v ad)) (rest := st.map (mj_v ad)) hlenA hstk (by rw [hX.2.2.1]; exact hd)
  have hAf := mj_inv (T := T.setVm vm₁) (As := As) X₁ hX (by show mj_Hp D F ad cy A.1 s T.heap; rw [hT]; exact hH) (by show va_S F s.heap T.heap locs; rw [hT]; exact hS) hc hs hcw w4 w7 hsl hG (g := F0 m pc lsC (st.map (mj_v ad))) rfl (by rw [hX.2.2.2.1]; exact hl.1) (by rw [hX.2.2.1]; exact hd)
    (by show 2 * 0 + ((st.map (mj_v ad)).map fun v => v.category).sum + (nL' + 11) ≤ 41; rw [List.map_map]; have : ((fun v : Value => v.category) ∘ mj_v ad) = fun v => v.category := funext (mj_cat ad); rw [this]; omega) (X₁.named hnamed)
  obtain ⟨t, a1, b1⟩ := mj_after (ls := ls) (sc := sc) hX hZ hE hn hl hlen hAf kr kt
  exact ⟨t, hstep₁ t (fun acts => by rw [doInvoke_state]; exact a1), b1⟩
/-- a reference that a caller keeps over a call that makes cells -/
def mj_bd (n : Nat) (v : Value) : Bool := match v with
  | .ref j => decide (j < n) || decide (j = 1000000)
  | _ => true
theorem mj_bd_ext {ad ad' : Nat → Nat} {n n1 : Nat} {v : Value} (h : mj_bd n v = true) (he : mj_Ext ad' ad n n1) (h1 : n1 ≤ 1000000) : mj_v ad' v = mj_v ad v := by
  cases v with
  | ref j =>
    show Value.ref (ad' j) = Value.ref (ad j)
    have : j < n ∨ n1 ≤ j := by
      simp only [mj_bd, Bool.or_eq_true, decide_eq_true_eq] at h
      rcases h with h | h
      · exact Or.inl h
      · exact Or.inr (by rw [h]; exact h1)
    rw [he j this]
  | _ => rfl
/-- behind a constructor that makes cells and returns -/
theorem mj_afterN {S0 : State} (hX : mj_X y cc nL rt hh d p e R s m args meth c F nc ns) (hZ : mj_Z sc ad F s) (hE : mj_Ext ad ad0 n0 A.1.length) (hn : n0 ≤ A.1.length) (hl : lv_has lsC nL (mj_ls ad ls))
    (hlen : ∀ out A', post' out A' → A'.1.length ≤ 1000000 ∧ ∃ v, out = .inl v) (hbl : ls.all (fun q => mj_bd A.1.length q.2) = true) (hbs : st.all (mj_bd A.1.length) = true)
    (h : mj_Af p l e R s m args below meth c F D nc ns ad A.1.length post' S0 (F0 m pc lsC (st.map (mj_v ad))) 3)
    (kr : ∀ v A', post' (.inl v) A' → mj_G y cc nL rt hh d sc (pc + 3) ls (v.toList ++ st) A' post) : ∃ t, Steps p.tables e below S0 t ∧ mj_end below s F D ad0 n0 nc ns post t := by
  obtain ⟨o, U, L, k, n, out, A', ad', cy', X', q1, q2, q3, q4, q5, q6, q7, q8, q9, q10⟩ := h
  obtain ⟨hmil, v, rfl⟩ := hlen out A' q1
  have hE' : mj_Ext ad' ad0 n0 A'.1.length := by
    intro j hj
    have : j < A.1.length ∨ A'.1.length ≤ j := by omega
    rw [q4 j this]
    exact hE j (by omega)
  have hn' : n0 ≤ A'.1.length := Nat.le_trans hn q5
  have hes : st.map (mj_v ad') = st.map (mj_v ad) := List.map_congr_left (fun v hv => mj_bd_ext (List.all_eq_true.mp hbs v hv) q4 hmil)
  have hel : mj_ls ad' ls = mj_ls ad ls := by
    unfold mj_ls
    exact List.map_congr_left (fun q hq => by rw [mj_bd_ext (List.all_eq_true.mp hbl q hq) q4 hmil])
  have hZ' : mj_Z sc ad' F s := by
    cases sc with
    | none => trivial
    | some q =>
      have e9 : ad' 1000000 = ad 1000000 := q4 1000000 (Or.inr hmil)
      show va_X (ad' 1000000) q.1 q.2 s s.heap ∧ ad' 1000000 < s.heap.size ∧ ¬ F (ad' 1000000)
      rw [e9]; exact hZ
  have ho : o = .returned (v.map (mj_v ad')) := q2
  have hst := q9 _ ho
  obtain ⟨t, a1, b1⟩ := kr v A' q1 p l e R s m args below meth c U.heap L k n F nc ns D ad' ad0 cy' n0 lsC hX hZ' q3 hE' hn' q6 q7 q8 (by rw [hel]; exact hl) U rfl X'
  refine ⟨t, hst.trans ?_, b1⟩
  have e1 : ({ F0 m pc lsC (st.map (mj_v ad)) with pc := pc + 3, stack := (v.map (mj_v ad')).toList ++ st.map (mj_v ad) } : JFrame) = F0 m (pc + 3) lsC ((v.toList ++ st).map (mj_v ad')) := by
    rw [← hes]
    cases v <;> rfl
  rw [← e1] at a1
  exact a1
def mj_ci (own : String) (index : Nat) (y' : MethodName) : Prop := (Cond.methodLink own index y' ∈ tw_tbl ∨ ∃ host, Cond.methodLinkNest own index y' host ∈ tw_tbl) ∧ Cond.instanceMethod y' ∈ tw_tbl ∧ Cond.initialized y'.cls ∈ tw_tbl ∧ (y'.cls ≠ "java/lang/invoke/MethodHandle" ∧ y'.cls ≠ "java/lang/invoke/VarHandle") ∧ plainName y'.cls = true ∧ y'.name = "<init>"
theorem G_calli {index b : Nat} (hd : decode cc pc = .ok (.invokespecial index, 3)) (hci : mj_ci y.cls index y') (hcw : Cond.code y' cc' nL' none ∈ tw_tbl) (hn1 : (parseMethodDescriptor y'.desc).map (fun d => d.parameters.length) = some As.length) (hsl : (lg_sl (.ref b :: As)).length ≤ nL') (hw : (st.map fun v => v.category).sum + (nL' + 11) ≤ 41)
    (hG : mj_G y' cc' nL' none [] d none 0 (lv_args 0 (.ref b :: As)) [] A post') (hlen : ∀ out A', post' out A' → A'.1.length ≤ 1000000 ∧ ∃ v, out = .inl v) (hbl : ls.all (fun q => mj_bd A.1.length q.2) = true) (hbs : st.all (mj_bd A.1.length) = true)
    (kr : ∀ v A', post' (.inl v) A' → mj_G y cc nL rt hh (d + 1) sc (pc + 3) ls (v.toList ++ st) A' post) :
    mj_G y cc nL rt hh (d + 1) sc pc ls (As.reverse ++ .ref b :: st) A post := by
  intro p l e R s m args below meth c H locs cells slots F nc ns D ad ad0 cy n0 lsC hX hZ hH hE hn hS hc hs hl
  obtain ⟨w1, w2, w4, w6, w7, w8⟩ := hci
  have hts := hX.2.2.2.2.2.2.2.2.1
  intro T hT X
  have hpl : e.platform.magicAccessors = ({} : Platform).magicAccessors := by rw [X.admits.platform]
  have hlenA : ∀ sig, parseMethodDescriptor y'.desc = some sig → (As.map (mj_v ad)).length = sig.parameters.length := by
    intro sig h
    rw [h] at hn1
    rw [List.length_map]
    exact (Option.some.inj hn1).symm
  have hstk : (F0 m pc lsC ((As.reverse ++ .ref b :: st).map (mj_v ad))).stack = (As.map (mj_v ad)).reverse ++ .ref (ad b) :: st.map (mj_v ad) := by
    show (As.reverse ++ .ref b :: st).map (mj_v ad) = _
    rw [List.map_append, List.map_reverse]; rfl
  have hstep : ∃ (mk : MethodId) (vm₁ : Vm), s.methodNamed? y' = some mk ∧ s.WarmedH vm₁ ∧ ∀ target, (∀ acts, Steps p.tables e below (doInvoke e ((T.setVm vm₁).setTop (F0 m pc lsC (st.map (mj_v ad)))) acts mk (((.ref b :: As).map (mj_v ad)).toArray)).1 target) → Steps p.tables e below (T.setTop (F0 m pc lsC ((As.reverse ++ .ref b :: st).map (mj_v ad)))) target := by
    rcases w1 with w1 | ⟨host, w1⟩
    · obtain ⟨mk, methM, cM, kP, vm₁, hnamed, hmethM, hcodeM, -, hlocalsM, -, hkP, -, hW₁, hstep₁⟩ := Steps.initColdArgs (e := e) X.here hX.1 X.warmed hpl hX.2.2.2.2.2.2.2.1 w8 w6 (hts _ w1) (hts _ w2) (hts _ hcw) (f := F0 m pc lsC ((As.reverse ++ .ref b :: st).map (mj_v ad))) rfl hlenA hstk (by rw [hX.2.2.1]; exact hd)
      exact ⟨mk, vm₁, hnamed, hW₁, hstep₁⟩
    · obtain ⟨mk, methM, cM, kP, vm₁, hnamed, hmethM, hcodeM, -, hlocalsM, -, hkP, -, hW₁, hstep₁⟩ := Steps.initColdArgsNest (e := e) X.here hX.1 X.warmed hpl hX.2.2.2.2.2.2.2.1 w8 w6 (hts _ w1) (hts _ w2) (hts _ hcw) (f := F0 m pc lsC ((As.reverse ++ .ref b :: st).map (mj_v ad))) rfl hlenA hstk (by rw [hX.2.2.1]; exact hd)
      exact ⟨mk, vm₁, hnamed, hW₁, hstep₁⟩
  obtain ⟨mk, vm₁, hnamed, hW₁, hstep₁⟩ := hstep
  have X₁ := X.noted hW₁
  have hAf := mj_inv (T := T.setVm vm₁) (As := .ref b :: As) X₁ hX (by show mj_Hp D F ad cy A.1 s T.heap; rw [hT]; exact hH) (by show va_S F s.heap T.heap locs; rw [hT]; exact hS) hc hs (Or.inl ⟨hcw, rfl⟩) w4 w7 hsl hG (g := F0 m pc lsC (st.map (mj_v ad))) rfl (by rw [hX.2.2.2.1]; exact hl.1) (by rw [hX.2.2.1]; exact hd)
    (by show 2 * 0 + ((st.map (mj_v ad)).map fun v => v.category).sum + (nL' + 11) ≤ 41; rw [List.map_map]; have : ((fun v : Value => v.category) ∘ mj_v ad) = fun v => v.category := funext (mj_cat ad); rw [this]; omega) (X₁.named hnamed)
  obtain ⟨t, a1, b1⟩ := mj_afterN (ls := ls) (sc := sc) hX hZ hE hn hl hlen hbl hbs hAf kr
  exact ⟨t, hstep₁ t (fun acts => by rw [doInvoke_state]; exact a1), b1⟩
theorem G_obj {index b : Nat} (hd : decode cc pc = .ok (.invokespecial index, 3)) (hlk : Cond.methodLink y.cls index Lib.objectInit ∈ tw_tbl) (hw : (st.map fun v => v.category).sum + 12 ≤ 41) (k : mj_G y cc nL rt hh (d + 1) sc (pc + 3) ls st A post) : mj_G y cc nL rt hh (d + 1) sc pc ls (.ref b :: st) A post := by
  intro p l e R s m args below meth c H locs cells slots F nc ns D ad ad0 cy n0 lsC hX hZ hH hE hn hS hc hs hl
  have hts := hX.2.2.2.2.2.2.2.2.1
  have hroom := hX.2.2.2.2.2.2.2.2.2.2.1
  refine W.objInit (a := ad b) (rest := st.map (mj_v ad)) hX.1 hX.2.2.1 hX.2.2.2.2.2.2.2.1 (hts _ hlk) (hts (.instanceMethod Lib.objectInit) (by decide +kernel)) (hts (.code Lib.objectInit ⟨#[0xb1]⟩ 1 none) (by decide +kernel)) rfl (by rw [hX.2.2.2.1]; exact hl.1) rfl hd (by rw [hroom.1]; omega) ?_ ?_
  · show 2 * 0 + ((st.map (mj_v ad)).map fun v => v.category).sum + 12 ≤ R.locals
    rw [List.map_map]
    have : ((fun v : Value => v.category) ∘ mj_v ad) = fun v => v.category := funext (mj_cat ad)
    rw [this]
    have := hroom.2.1
    omega
  · exact k _ _ _ _ _ _ _ _ _ _ _ _ _ _ _ _ _ _ _ _ _ _ _ hX hZ hH hE hn hS hc hs hl
end GC3
end
section
/-! a throw statement: new, dup, ldc, the constructor, athrow -/
section GT
variable {p : Program} {l : Launch} {e : Env} {R : Room} {s : State} {m : MethodId} {args : Array Value} {below : List Frame} {meth : Method} {c : Code} {T : State} {locs : List Loc} {cells slots : Nat}
/-- the invocation seen as one that begins with the heap as it is now -/
theorem mj_rebase (X : Stand p l e R s m args below meth c T locs cells slots) (hc : cells ≤ R.cells) (hs : slots ≤ R.slots) :
    Stand p l e { frames := R.frames, cells := R.cells - cells, slots := R.slots - slots, locals := R.locals } (T.setFrames (.invoking m args :: below)) m args below meth c T [] 0 0 := by
  obtain ⟨g₀, hg0⟩ := Option.isSome_iff_exists.mp X.here.top
  obtain ⟨r, hr⟩ := State.topJava?_eq_some.mp hg0
  have hcur : T.cur < T.threads.size := State.cur_lt_of_frames hr
  have hf : (T.setFrames (.invoking m args :: below)).frames = .invoking m args :: below := State.frames_setFrames _ hcur
  obtain ⟨th, hth, -⟩ := State.frames_cons hr
  have hself : (T.setFrames (.invoking m args :: below)).setFrames T.frames = T := by rw [State.setFrames_setFrames, State.setFrames_self hth]
  have hcur' : (T.setFrames (.invoking m args :: below)).cur < (T.setFrames (.invoking m args :: below)).threads.size := State.cur_lt_of_frames hf
  obtain ⟨th', hth', -⟩ := State.frames_cons hf
  refine ⟨X.admits, X.cas, X.clock, hf, ?_, ?_, X.method', X.code, X.here, X.tail, State.WarmedH.refl _, ?_, ?_, ?_⟩
  · have h := X.room
    simp only [State.hasRoom, Bool.and_eq_true, decide_eq_true_eq] at h ⊢
    have e1 := State.localsInUse_invoking X.frames X.method X.code
    have e2 := State.localsInUse_invoking hf X.method' X.code
    rw [e1] at h
    rw [e2, hf, State.stackLimits_setFrames, State.stackBytes_setFrames, X.limits, X.bytes]
    rw [X.frames] at h
    have h1 := X.heapSize
    have h2 := X.used
    obtain ⟨⟨⟨⟨a1, a2⟩, a3⟩, a4⟩, a5⟩ := h
    refine ⟨⟨⟨⟨a1, a2⟩, ?_⟩, ?_⟩, X.book⟩
    · show T.heap.size + (R.cells - cells) ≤ _; omega
    · show T.slotsUsed + (R.slots - slots) ≤ _; omega
  · have h := X.hears
    have hal := X.warmed.alike
    cases below with
    | nil =>
      simp only [State.hears] at h ⊢
      rw [show (T.setFrames (.invoking m args :: [])).vm.method? m = s.vm.method? m from hal.method? m]
      exact h
    | cons f r9 =>
      cases f with
      | java g9 =>
        simp only [State.hears] at h ⊢
        rw [State.code?_eq] at h ⊢
        rw [show (T.setFrames (.invoking m args :: .java g9 :: r9)).vm.method? g9.method = s.vm.method? g9.method from hal.method? g9.method]
        exact h
      | native g9 => rfl
      | proc g9 => rfl
      | _ =>
        simp only [State.hears] at h ⊢
        rw [show (T.setFrames _).vm.method? m = s.vm.method? m from hal.method? m]
        exact h
  · rw [State.stackLimits_setFrames]
  · rw [State.stackBytes_setFrames]
  · have h := (State.sameButNew.refl (T.setFrames (.invoking m args :: below)) hth').setFrames T.frames hcur'
    rw [hself] at h
    exact h
end GT
end
section
def mj_up : List String := ["java/lang/RuntimeException", "java/lang/Exception"]
def mj_sp : List Cond := [.laysStatic Bundle.tN "UNASSIGNED_STACK" Bundle.steD, .laysStatic Bundle.tN "SUPPRESSED_SENTINEL" Bundle.listD, .isRef (.static Bundle.tN "UNASSIGNED_STACK" Bundle.steD), .isRef (.static Bundle.tN "SUPPRESSED_SENTINEL" Bundle.listD)]
def mj_tw (own : String) (ic : Nat) (C : Nat) : Prop := ∀ a ∈ Bundle.ownAtoms own ic (mj_ex C) mj_up, a ∈ tw_tbl ∨ a ∈ mj_sp
set_option maxRecDepth 100000 in
theorem mj_tw0 : mj_tw "ClauseGlass" 58 0 := by
  unfold mj_tw
  decide +kernel
set_option maxRecDepth 100000 in
theorem mj_tw1 : mj_tw "ClauseGlass" 43 1 := by
  unfold mj_tw
  decide +kernel
section GT2
variable {y : MethodName} {cc : ByteArray} {nL : Nat} {rt : Option FieldType} {hh : List (Nat × Nat × Nat × Nat)} {d : Nat} {sc : Option (Nat × (Nat → Int32))} {pc : Nat} {ls : List (Nat × Value)} {st : List Value} {A : mj_H} {post : mj_O → mj_H → Prop}
theorem G_throw {i1 i2 i3 : Nat} {tx : String} (C : Nat) (h0 : decode cc pc = .ok (.new i1, 3)) (h3 : decode cc (pc + 3) = .ok (.dup, 1)) (h4 : decode cc (pc + 4) = .ok (.ldc i2, 2)) (h6 : decode cc (pc + 6) = .ok (.invokespecial i3, 3)) (h9 : decode cc (pc + 9) = .ok (.athrow, 1))
    (hcl : Cond.classLink y.cls i1 (mj_ex C) ∈ tw_tbl) (hin : Cond.instantiable (mj_ex C) 6 ∈ tw_tbl) (hini : Cond.initialized (mj_ex C) ∈ tw_tbl) (hstr : Cond.stringRef y.cls i2 tx ∈ tw_tbl) (htw : mj_tw y.cls i3 C) (hft : Bundle.fit (mj_ex C) = true) (hnh : mj_nh hh (pc + 9) = true) (hr1 : A.2.1 + 1 ≤ 601024) (hr2 : A.2.2 + 6 ≤ 7293034) (hd : 6 ≤ d) (hw : (st.map fun v => v.category).sum ≤ 41)
    (hp : post (.inr C) (A.1, A.2.1 + 1, A.2.2 + 6)) : mj_G y cc nL rt hh d sc pc ls st A post := by
  intro p l e R s m args below meth c H locs cells slots F nc ns D ad ad0 cy n0 lsC hX hZ hH hE hn hS hc hs hl
  intro T hT X
  have hroom := hX.2.2.2.2.2.2.2.2.2.2.1
  have hcl' : cells ≤ R.cells := by have := hroom.2.2.1; omega
  have hsl' : slots ≤ R.slots := by have := hroom.2.2.2; omega
  have X' := mj_rebase X hcl' hsl'
  have hW0 : s.WarmedH T.vm := X.warmed
  have hts : ∀ w ∈ tw_tbl, w.before args (T.setFrames (.invoking m args :: below)) = true := fun w h => tw_moved (U := T.setFrames (.invoking m args :: below)) hW0 (tw_in h) (hX.2.2.2.2.2.2.2.2.1 w h)
  have hown : (T.setFrames (.invoking m args :: below)).vm.findClass y.cls = some m.cls := by
    show T.vm.findClass y.cls = some m.cls
    rw [hW0.alike.findClass]; exact hX.2.2.2.2.2.2.2.1
  have hst1 : mj_st "UNASSIGNED_STACK" Bundle.steD F (T.setFrames (.invoking m args :: below)) (T.setFrames (.invoking m args :: below)).heap := mj_st_moved (U := T.setFrames (.invoking m args :: below)) (H1 := T.heap) hX.2.2.2.2.2.2.2.2.2.2.2.2.2.1 hW0.alike (fun a q1 q2 => by rw [hT]; exact hS.2.1 a q1 q2) (fun _ h => h)
  have hst2 : mj_st "SUPPRESSED_SENTINEL" Bundle.listD F (T.setFrames (.invoking m args :: below)) (T.setFrames (.invoking m args :: below)).heap := mj_st_moved (U := T.setFrames (.invoking m args :: below)) (H1 := T.heap) hX.2.2.2.2.2.2.2.2.2.2.2.2.2.2.1 hW0.alike (fun a q1 q2 => by rw [hT]; exact hS.2.1 a q1 q2) (fun _ h => h)
  have hatoms : ∀ a ∈ Bundle.ownAtoms y.cls i3 (mj_ex C) mj_up, a.before args (T.setFrames (.invoking m args :: below)) = true := by
    intro a ha
    rcases htw a ha with h | h
    · exact hts a h
    · simp only [mj_sp, List.mem_cons, List.not_mem_nil, or_false] at h
      rcases h with rfl | rfl | rfl | rfl
      · exact mj_st_lays hst1
      · exact mj_st_lays hst2
      · exact mj_st_ref hst1
      · exact mj_st_ref hst2
  obtain ⟨vm₁, cX, kX, hfX, hkX, -, -, X₁, st1⟩ := X'.newCold hX.1 (own := y.cls) (C := mj_ex C) (index := i1) (n := 6) hown (hts _ hcl) (hts _ hin) (hts _ hini) (g := F0 m pc lsC (st.map (mj_v ad))) rfl (by rw [hX.2.2.1]; exact h0)
    (by show 0 + 1 ≤ R.cells - cells; have := hroom.2.2.1; omega) (by show 0 + 6 ≤ R.slots - slots; have := hroom.2.2.2; omega)
  obtain ⟨-, -, -, sa, -, -, -, -, -, hev⟩ := Cond.stringRef_spec hown (hts _ hstr)
  have hvk : vk_R y.cls i2 tx sa (T.setFrames (.invoking m args :: below)) := ⟨tw_moved (A' := #[]) (State.WarmedH.refl _) rfl (hts _ hstr), hev⟩
  have K : W p l e { frames := R.frames, cells := R.cells - cells, slots := R.slots - slots, locals := R.locals } (T.setFrames (.invoking m args :: below)) m args below meth c ((T.setVm vm₁).pushCell { cls := cX, slots := kX.instanceTypes.map defaultValue, vm := .none }).heap [] (0 + 1) (0 + 6)
      (fun t => t.status = .running ∧ Ended t below (.threw T.heap.size) ∧ (T.setFrames (.invoking m args :: below)).WarmedH t.vm ∧ (T.setFrames (.invoking m args :: below)).sameButNew ({ t with vm := (T.setFrames (.invoking m args :: below)).vm } : State) [] (0 + 1) (0 + 6) ∧ ∃ ce, t.heap[T.heap.size]? = some ce ∧ ce.vm = .none ∧ (T.setFrames (.invoking m args :: below)).vm.findClass (mj_ex C) = some ce.cls)
      (F0 m (pc + 3) lsC (.ref T.heap.size :: st.map (mj_v ad))) := by
    refine lv_dup hX.1 hX.2.2.1 h3 rfl ?_
    refine va_ldcS hX.1 hX.2.2.1 hown hvk h4 ?_
    intro T2 hT2 X2
    have hcellA : T2.heap[T.heap.size]? = some (freshCell cX kX) := by rw [hT2]; exact State.heap_pushCell_size _ _
    obtain ⟨U, hsteps, hrun, hend, hW, hsame, ce, hce, KK⟩ := X2.ctorThrowS hX.1 hX.2.1 (own := y.cls) (cls := mj_ex C) (names := mj_up) (ic := i3) hown hft (by decide +kernel)
      hatoms (fun y hy => by cases hy) hfX hkX hcellA (Nat.le_refl _) (msg := .ref sa) rfl
      (g := F0 m (pc + 6) lsC (.ref sa :: .ref T.heap.size :: .ref T.heap.size :: st.map (mj_v ad))) rfl (by rw [hX.2.2.2.1]; exact hl.1) rfl rfl (rest := st.map (mj_v ad)) rfl
      (by rw [hX.2.2.1]; exact h6) (by rw [hX.2.2.1]; exact h9) (mj_nh_out hnh hX.2.2.2.2.2.2.2.2.2.1) (by show 2 + 3 < R.frames; rw [hroom.1]; omega)
      (by
        show 2 * 0 + ((Value.ref T.heap.size :: st.map (mj_v ad)).map fun v => v.category).sum + (13 * (2 + 1) + 42) ≤ R.locals
        rw [List.map_cons, List.map_map, List.sum_cons]
        have e9 : ((fun v : Value => v.category) ∘ mj_v ad) = fun v => v.category := funext (mj_cat ad)
        rw [e9]
        have h99 : (Value.ref T.heap.size).category = 1 := rfl
        rw [h99]
        have := hroom.2.1
        omega) (hlocks := hX.2.2.2.2.2.1)
    exact ⟨U, hsteps, hrun, hend, hW, hsame, ce, hce, KK.vm, KK.cls⟩
  obtain ⟨t, a1, b1, b2, b3, b4, ce, b5, b6, b7⟩ := K _ rfl X₁
  have hkeep : ∀ q : Nat, q < T.heap.size → t.heap[q]? = T.heap[q]? := by
    intro q hq
    have hq' : (T.setFrames (.invoking m args :: below)).heap[q]? = some (T.heap[q]) := Array.getElem?_eq_getElem hq
    obtain ⟨c', r1, r2, r3, r4⟩ := b4.2.2.2.2.2 q _ hq'
    have r1' : t.heap[q]? = some c' := r1
    rw [r1', Array.getElem?_eq_getElem hq]
    have hsl : c'.slots = T.heap[q].slots := Array.ext_getElem? (fun i => r4 i (fun h => by cases h))
    rw [r2, hsl]
  have hH1 : mj_Hp D F ad cy A.1 s t.heap := by
    refine ⟨hH.1.kept (fun k x hx => ?_), hH.2.1, hH.2.2.1, hH.2.2.2.1, hH.2.2.2.2⟩
    have hlt : x.1 < H.size := (hH.1 k x hx).lt
    rw [hkeep x.1 (by rw [hT]; exact hlt), hT]
  have hsz : T.heap.size ≤ t.heap.size := b4.2.1
  have hsT : T.sameButNew ({ t with vm := T.vm } : State) [] 1 6 := by
    refine ⟨?_, b4.2⟩
    have := b4.1
    rw [State.setFrames_setFrames] at this
    exact this
  refine ⟨t, st1 t a1, .threw T.heap.size, b1, b2, .inr C, (A.1, A.2.1 + 1, A.2.2 + 6), ad, cy, cells + 1, slots + 6, locs ++ [], hp, ⟨T.heap.size, ce, rfl, b5, by rw [b6]; rfl, ?_⟩, hH1, hE, hn, ?_, ?_, ?_, State.WarmedH.trans hW0 b3, X.same.trans (hsT.setVm s.vm)⟩
  · have : T.vm.findClass (mj_ex C) = some ce.cls := b7
    rw [hW0.alike.findClass] at this
    exact this
  · rw [List.append_nil]
    refine ⟨Nat.le_trans hS.1 (by rw [← hT]; exact hsz), fun q q1 q2 => ?_, hS.2.2⟩
    rw [hkeep q (by rw [hT]; exact Nat.lt_of_lt_of_le q1 hS.1), hT]
    exact hS.2.1 q q1 q2
  · exact ⟨by show A.2.1 + 1 = _; omega, hr1⟩
  · exact ⟨by show A.2.2 + 6 = _; omega, hr2⟩
end GT2
end
section
/-! a thrown exception is caught by the caller -/
section GK
theorem mj_go {Q : Handler → Pre} {E : CtlPost} {e : Env} {d : Bool} {acts : List Action} {s : State} {f : JFrame} {a : Addr} {x : ExceptionTableEntry} {t : List ExceptionTableEntry} {c : ClassId} {cell : Cell} (hx : covers x f.pc = true) (h0 : x.catchType ≠ 0)
    (hl : s.vm.ClassLinks e.platform f.method.cls x.catchType c) (hcell : s.heap[a]? = some cell) (hobj : ∀ k, cell.vm ≠ .statics k) (hk : ∃ k, s.vm.classes[cell.cls]? = some k) (hc : ∃ k, s.vm.classes[c]? = some k) :
    wp (findHandler.go f a (x :: t)) Q E e d acts s ↔ if s.vm.assignable cell.cls c = true then Q (.found x.handlerPc) d acts (s.setVm (s.vm.noted f.method.cls x.catchType (.cls c))) else wp (findHandler.go f a t) Q E e d acts (s.setVm (s.vm.noted f.method.cls x.catchType (.cls c))) := by
  simp only [covers] at hx
  obtain ⟨ha, ht⟩ := (resolveClass_links e.toSetting hl).op (op := VmOp.resolveClass f.method.cls x.catchType) rfl
  have hal : s.vm.Alike (s.vm.noted f.method.cls x.catchType (.cls c)) := (Vm.Alike.refl s.vm).noted _ _ _
  obtain ⟨k1, hk1⟩ := hk
  obtain ⟨k2, hk2⟩ := hc
  obtain ⟨k1', hk1', -⟩ := hal.2.2 _ _ hk1
  obtain ⟨k2', hk2', -⟩ := hal.2.2 _ _ hk2
  have hfit' : (s.vm.noted f.method.cls x.catchType (.cls c)).assignable cell.cls c = s.vm.assignable cell.cls c := hal.assignable ..
  cases hfit : s.vm.assignable cell.cls c <;>
    simp [findHandler.go, hx, h0, ha, ht, hcell, hobj, hk1', hk2', hfit', hfit, VmOp.dirties, VmOp.acts]
/-- where the handlers' list finds an exception of the kind C: at tgt; those ahead of it are for the other kind -/
def mj_hc (own : String) (hh : List (Nat × Nat × Nat × Nat)) (pc C tgt : Nat) : Prop := ∃ (pre : List (Nat × Nat × Nat × Nat)) (s0 e0 ct : Nat) (rest : List (Nat × Nat × Nat × Nat)), hh = pre ++ (s0, e0, tgt, ct) :: rest ∧ (s0 ≤ pc ∧ pc < e0) ∧ ct ≠ 0 ∧ Cond.classLink own ct (mj_ex C) ∈ tw_tbl ∧ Cond.castable (mj_ex C) (mj_ex C) ∈ tw_tbl ∧
  ∀ q ∈ pre, (q.1 ≤ pc ∧ pc < q.2.1) ∧ q.2.2.2 ≠ 0 ∧ C = 1 ∧ Cond.classLink own q.2.2.2 (mj_ex 0) ∈ tw_tbl
theorem mj_search {e : Env} {s : State} {f : JFrame} {a : Addr} {args : Array Value} {own : String} {cell : Cell} (hpl : e.platform.magicAccessors = ({} : Platform).magicAccessors) (hown : s.vm.findClass own = some f.method.cls) (hobj : cell.vm.isStatics = false) {x : ExceptionTableEntry} {rest : List ExceptionTableEntry} {nm : String} {cT : ClassId} (hx : covers x f.pc = true) (h0 : x.catchType ≠ 0)
    (hlink : (Cond.classLink own x.catchType nm).before args s = true) (hcT : s.vm.findClass nm = some cT) (hfit : s.vm.assignable cell.cls cT = true) :
    ∀ (pre : List ExceptionTableEntry) (U : State), s.WarmedH U.vm → U.heap[a]? = some cell → (∀ z ∈ pre, covers z f.pc = true ∧ z.catchType ≠ 0 ∧ ∃ (n9 : String) (c9 : ClassId), (Cond.classLink own z.catchType n9).before args s = true ∧ s.vm.findClass n9 = some c9 ∧ s.vm.assignable cell.cls c9 = false) →
      ∃ vm', s.WarmedH vm' ∧ ∀ (Q : Handler → Pre) (E : CtlPost) (d : Bool) (acts : List Action), wp (findHandler.go f a (pre ++ x :: rest)) Q E e d acts U ↔ Q (.found x.handlerPc) d acts (U.setVm vm') := by
  have one : ∀ (z : ExceptionTableEntry) (n9 : String) (c9 : ClassId) (U : State), s.WarmedH U.vm → (Cond.classLink own z.catchType n9).before args s = true → s.vm.findClass n9 = some c9 → U.vm.ClassLinks e.platform f.method.cls z.catchType c9 ∧ s.WarmedH (U.vm.noted f.method.cls z.catchType (.cls c9)) ∧ ∃ k, U.vm.classes[c9]? = some k := by
    intro z n9 c9 U hW hl hf
    obtain ⟨c', hc', hcl⟩ := Cond.classLink_spec hown hl e.platform hpl
    cases hf.symm.trans hc'
    obtain ⟨dk, _, _, kt, hd, _, _, _, _, hkt, _, hopen⟩ := hcl.here
    obtain ⟨kt', hkt', -⟩ := hW.alike.2.2 _ _ hkt
    exact ⟨hW.classLinks hcl, hW.noted hd hopen (State.rightAt_cls hcl), kt', hkt'⟩
  obtain ⟨hkT0⟩ : ∃ k, s.vm.classes[cT]? = some k := Vm.classAt_of_findClass hcT
  have hcellK : ∃ k, s.vm.classes[cell.cls]? = some k := Vm.classAt_of_assignable hfit (Vm.classAt_of_findClass hcT)
  intro pre
  induction pre with
  | nil =>
    intro U hW hcell _
    obtain ⟨h1, h2, h3⟩ := one x nm cT U hW hlink hcT
    have hk : ∃ k, U.vm.classes[cell.cls]? = some k := by
      obtain ⟨k, hk⟩ := hcellK
      obtain ⟨k', hk', -⟩ := hW.alike.2.2 _ _ hk
      exact ⟨k', hk'⟩
    refine ⟨_, h2, fun Q E d acts => ?_⟩
    have hfU : U.vm.assignable cell.cls cT = true := by rw [hW.alike.assignable]; exact hfit
    rw [List.nil_append, mj_go hx h0 h1 hcell (VmData.ne_statics_of hobj) hk h3, if_pos hfU]
  | cons z zs ih =>
    intro U hW hcell hz
    obtain ⟨z1, z2, n9, c9, z3, z4, z5⟩ := hz z List.mem_cons_self
    obtain ⟨h1, h2, h3⟩ := one z n9 c9 U hW z3 z4
    have hk : ∃ k, U.vm.classes[cell.cls]? = some k := by
      obtain ⟨k, hk⟩ := hcellK
      obtain ⟨k', hk', -⟩ := hW.alike.2.2 _ _ hk
      exact ⟨k', hk'⟩
    obtain ⟨vm', g1, g2⟩ := ih (U.setVm (U.vm.noted f.method.cls z.catchType (.cls c9))) h2 hcell (fun w hw => hz w (List.mem_cons_of_mem _ hw))
    refine ⟨vm', g1, fun Q E d acts => ?_⟩
    have hfU : ¬ U.vm.assignable cell.cls c9 = true := by rw [hW.alike.assignable, z5]; decide
    rw [List.cons_append, mj_go z1 z2 h1 hcell (VmData.ne_statics_of hobj) hk h3, if_neg hfU]
    exact g2 Q E d acts
theorem mj_stepCatch {tb : Tables} {e : Env} {s target : State} {g : JFrame} {c : Code} {below : List Frame} {a : Addr} (h : At s g.method c below) {pc : Nat} {vm' : Vm}
    (hfind : ∀ (Q : Handler → Pre) (E : CtlPost) (d : Bool) (acts : List Action), wp (findHandler g a) Q E e d acts ((s.setTop g).pushFrame (.throwing a)) ↔ Q (.found pc) d acts (((s.setTop g).pushFrame (.throwing a)).setVm vm')) (hrest : Steps tb e below ((s.setVm vm').setTop { g with pc := pc, stack := [.ref a] }) target) :
    Steps tb e below ((s.setTop g).pushFrame (.throwing a)) target := by
  obtain ⟨hgo, hw⟩ := h.throwing a
  refine Steps.head hgo hw ?_
  obtain ⟨g₀, hg⟩ := Option.isSome_iff_exists.mp h.top
  obtain ⟨r, hr⟩ := State.topJava?_eq_some.mp hg
  have his : ∀ (w : State), (∀ (Q : Handler → Pre) (E : CtlPost) (d : Bool) (acts : List Action), wp (findHandler g a) Q E e d acts w ↔ Q (.found pc) d acts (w.setVm vm')) → ∀ r9 : List Frame, (stepThrowing e w a (.java g :: r9)).Is ((w.setVm vm').setFrames (.java { g with pc := pc, stack := [.ref a] } :: r9)) [] := by
    intro w hf r9
    simp only [stepThrowing, searchFrame, vmDo]
    generalize hres : Sem.go _ e false [] w = res
    obtain ⟨as, rfl, ha⟩ := Sem.eq_ok_of hres (a := Handler.found pc) (s' := w.setVm vm') (acts' := []) (by simp [hf])
    exact ⟨rfl, ha⟩
  rw [stepThread_throwing (frames_entered h.top _), (his _ hfind _).1]
  have hr' : (s.setVm vm').frames = .java g₀ :: r := hr
  rw [State.setTop_of_frames _ hr'] at hrest
  have e1 : ∀ (u : State) (F G : List Frame), ((u.setFrames F).setVm vm').setFrames G = (u.setVm vm').setFrames G := fun u F G => by
    have h1 : (u.setFrames F).setVm vm' = (u.setVm vm').setFrames F := rfl
    rw [h1, State.setFrames_setFrames]
  rw [hr, List.tail_cons, State.pushFrame, e1, State.setTop_of_frames _ hr, e1]
  exact hrest
variable {p : Program} {l : Launch} {e : Env} {R : Room} {s : State} {m : MethodId} {args : Array Value} {below : List Frame} {meth : Method} {c : Code} {locs : List Loc} {cells slots : Nat} {F : Nat → Prop} {nc ns : Nat} {D : va_G} {ad ad0 : Nat → Nat} {cy : Nat → ClassId} {n0 : Nat} {lsC : Array Slot}
variable {y : MethodName} {cc : ByteArray} {nL : Nat} {rt : Option FieldType} {hh : List (Nat × Nat × Nat × Nat)} {d : Nat} {sc : Option (Nat × (Nat → Int32))} {pc : Nat} {ls : List (Nat × Value)} {st : List Value} {A : mj_H} {post : mj_O → mj_H → Prop}
variable {y' : MethodName} {cc' : ByteArray} {nL' : Nat} {rt' : Option FieldType} {hh' : List (Nat × Nat × Nat × Nat)} {As : List Value} {post' : mj_O → mj_H → Prop}
theorem mj_caught {U : State} {x : Addr} {C tgt : Nat} {cell : Cell} {g : JFrame} (X : Stand p l e R s m args below meth c U locs cells slots) (hX : mj_X y cc nL rt hh d p e R s m args meth c F nc ns) (hg : g.method = m) (hpc : g.pc = pc) (hhc : mj_hc y.cls hh pc C tgt) (hcell : U.heap[x]? = some cell) (hobj : cell.vm.isStatics = false) (hcls : s.vm.findClass (mj_ex C) = some cell.cls) :
    ∃ vm', Stand p l e R s m args below meth c (U.setVm vm') locs cells slots ∧ ∀ target, Steps p.tables e below ((U.setVm vm').setTop { g with pc := tgt, stack := [.ref x] }) target → Steps p.tables e below ((U.setTop g).pushFrame (.throwing x)) target := by
  subst hg
  have hpl : e.platform.magicAccessors = ({} : Platform).magicAccessors := by rw [X.admits.platform]
  obtain ⟨pre, s0, e0, ct, rest, h1, h2, h3, h4, h5, h6⟩ := hhc
  have hts := hX.2.2.2.2.2.2.2.2.1
  have htab := hX.2.2.2.2.2.2.2.2.2.1
  rw [h1] at htab
  obtain ⟨preT, restT, t1, t2, t3⟩ := List.map_eq_append_iff.mp htab
  obtain ⟨xE, restE, u1, u2, u3⟩ := List.map_eq_cons_iff.mp t3
  subst u1
  have ux1 : xE.startPc = s0 := congrArg (·.1) u2
  have ux2 : xE.endPc = e0 := congrArg (·.2.1) u2
  have ux3 : xE.handlerPc = tgt := congrArg (·.2.2.1) u2
  have ux4 : xE.catchType = ct := congrArg (·.2.2.2) u2
  obtain ⟨c1, c2, k1, k2, k3⟩ := Cond.castable_spec (hts _ h5)
  cases hcls.symm.trans k1
  cases hcls.symm.trans k2
  obtain ⟨vm', g1, g2⟩ := mj_search (e := e) (s := s) (f := g) (a := x) (args := args) (own := y.cls) (cell := cell) hpl hX.2.2.2.2.2.2.2.1 hobj (x := xE) (rest := restE) (nm := mj_ex C) (cT := cell.cls) (by simp only [covers, hpc, ux1, ux2]; simp [h2]) (by rw [ux4]; exact h3) (by rw [ux4]; exact hts _ h4) hcls k3 preT ((U.setTop g).pushFrame (.throwing x)) X.warmed hcell (by
    intro z hz
    have hzm : (z.startPc, z.endPc, z.handlerPc, z.catchType) ∈ pre := by rw [← t2]; exact List.mem_map.mpr ⟨z, hz, rfl⟩
    obtain ⟨w1, w2, w3, w4⟩ := h6 _ hzm
    have w1' : z.startPc ≤ pc ∧ pc < z.endPc := w1
    refine ⟨by simp only [covers, hpc]; simp [w1'], w2, ?_⟩
    subst w3
    obtain ⟨cc1, cc2, v1, v2, v3⟩ := hX.2.2.2.2.2.2.2.2.2.2.2.2.2.2.2
    cases hcls.symm.trans v1
    exact ⟨mj_ex 0, cc2, hts _ w4, v2, v3⟩)
  refine ⟨vm', X.noted g1, fun target hrest => ?_⟩
  refine mj_stepCatch X.here (vm' := vm') (pc := tgt) (fun Q E d acts => ?_) hrest
  rw [W.findHandler_eq (s := (U.setTop g).pushFrame (.throwing x)) (meth := meth) (code := c) X.method' X.code, t1, ← ux3]
  exact g2 Q E d acts
theorem mj_lv_tl {ls : Array Slot} {nL : Nat} {q : Nat × Value} {l : List (Nat × Value)} (h : lv_has ls nL (q :: l)) : lv_has ls nL l := ⟨h.1, h.2.1, fun z hz => h.2.2 z (List.mem_cons_of_mem _ hz)⟩
/-- behind a call that may throw what this method catches: the handler's first instruction stores the exception away -/
theorem mj_afterC {S0 : State} (hX : mj_X y cc nL rt hh d p e R s m args meth c F nc ns) (hZ : mj_Z sc ad F s) (hE : mj_Ext ad ad0 n0 A.1.length) (hn : n0 ≤ A.1.length) (hl : lv_has lsC nL (mj_ls ad ls))
    (hlen : ∀ out A', post' out A' → A'.1.length = A.1.length)
    (h : mj_Af p l e R s m args below meth c F D nc ns ad A.1.length post' S0 (F0 m pc lsC (st.map (mj_v ad))) 3)
    (kr : ∀ v A', post' (.inl v) A' → mj_G y cc nL rt hh d sc (pc + 3) ls (v.toList ++ st) A' post)
    (kt : ∀ C A', post' (.inr C) A' → ∃ tgt i len, mj_hc y.cls hh pc C tgt ∧ ((∃ w4 : Fin 4, decode cc tgt = .ok (.astore_n w4, 1) ∧ (w4 : Nat) = i ∧ len = 1) ∨ (decode cc tgt = .ok (.astore i, 2) ∧ len = 2)) ∧ i < nL ∧ mj_G y cc nL rt hh d sc (tgt + len) (ls.filter (fun q => !(q.1 == i) && !(q.1 + 1 == i && q.2.category == 2))) [] A' post) : ∃ t, Steps p.tables e below S0 t ∧ mj_end below s F D ad0 n0 nc ns post t := by
  obtain ⟨o, U, L, k, n, out, A', ad', cy', X', q1, q2, q3, q4, q5, q6, q7, q8, q9, q10⟩ := h
  have hl' := hlen out A' q1
  have he : ad' = ad := funext fun j => q4 j (by rw [hl']; exact Nat.lt_or_ge j _)
  subst he
  have hE' : mj_Ext ad' ad0 n0 A'.1.length := by rw [hl']; exact hE
  have hn' : n0 ≤ A'.1.length := by rw [hl']; exact hn
  rcases out with v | C
  · have ho : o = .returned (v.map (mj_v ad')) := q2
    have hst := q9 _ ho
    obtain ⟨t, a1, b1⟩ := kr v A' q1 p l e R s m args below meth c U.heap L k n F nc ns D ad' ad0 cy' n0 lsC hX hZ q3 hE' hn' q6 q7 q8 hl U rfl X'
    refine ⟨t, hst.trans ?_, b1⟩
    have e1 : ({ F0 m pc lsC (st.map (mj_v ad')) with pc := pc + 3, stack := (v.map (mj_v ad')).toList ++ st.map (mj_v ad') } : JFrame) = F0 m (pc + 3) lsC ((v.toList ++ st).map (mj_v ad')) := by
      cases v <;> rfl
    rw [← e1] at a1
    exact a1
  · obtain ⟨x, cell, r1, r2, r3, r4⟩ := q2
    have hst := q10 x r1
    obtain ⟨tgt, i, len, k1, k2, k3, k4⟩ := kt C A' q1
    obtain ⟨vm', X2, hs2⟩ := mj_caught (g := F0 m pc lsC (st.map (mj_v ad'))) X' hX rfl rfl k1 r2 r3 r4
    have KW : W p l e R s m args below meth c U.heap L k n (mj_end below s F D ad0 n0 nc ns post) (F0 m tgt lsC [.ref x]) := by
      have hfl := mj_ls_f (ad := ad') (ls := ls) (fun a b => !(a == i) && !(a + 1 == i && b == 2))
      rcases k2 with ⟨w4, g1, g2, rfl⟩ | ⟨g1, rfl⟩
      · subst g2
        refine lv_astore_n (lv' := _) hX.1 hX.2.2.1 g1 rfl hl k3 rfl (fun lsC' hl2 => ?_)
        have hl3 := mj_lv_tl hl2
        rw [hfl] at hl3
        exact k4 p l e R s m args below meth c U.heap L k n F nc ns D ad' ad0 cy' n0 lsC' hX hZ q3 hE' hn' q6 q7 q8 hl3
      · refine lv_astore (lv' := _) hX.1 hX.2.2.1 g1 hl k3 rfl (fun lsC' hl2 => ?_)
        have hl3 := mj_lv_tl hl2
        rw [hfl] at hl3
        exact k4 p l e R s m args below meth c U.heap L k n F nc ns D ad' ad0 cy' n0 lsC' hX hZ q3 hE' hn' q6 q7 q8 hl3
    obtain ⟨t, a1, b1⟩ := KW (U.setVm vm') rfl X2
    exact ⟨t, hst.trans (hs2 t a1), b1⟩
theorem G_callvc {index ci b : Nat} {fs : List Value} (hd : decode cc pc = .ok (.invokevirtual index, 3)) (hcv : mj_cv y.cls index y' ci) (hcw : mj_cw y' cc' nL' rt' hh') (hb : A.1[b]? = some (.inr (ci, fs))) (hn1 : (parseMethodDescriptor y'.desc).map (fun d => d.parameters.length) = some As.length) (hsl : (lg_sl (.ref b :: As)).length ≤ nL') (hw : (st.map fun v => v.category).sum + (nL' + 11) ≤ 41)
    (hG : mj_G y' cc' nL' rt' hh' d none 0 (lv_args 0 (.ref b :: As)) [] A post') (hlen : ∀ out A', post' out A' → A'.1.length = A.1.length)
    (kr : ∀ v A', post' (.inl v) A' → mj_G y cc nL rt hh (d + 1) sc (pc + 3) ls (v.toList ++ st) A' post)
    (kt : ∀ C A', post' (.inr C) A' → ∃ tgt i len, mj_hc y.cls hh pc C tgt ∧ ((∃ w4 : Fin 4, decode cc tgt = .ok (.astore_n w4, 1) ∧ (w4 : Nat) = i ∧ len = 1) ∨ (decode cc tgt = .ok (.astore i, 2) ∧ len = 2)) ∧ i < nL ∧ mj_G y cc nL rt hh (d + 1) sc (tgt + len) (ls.filter (fun q => !(q.1 == i) && !(q.1 + 1 == i && q.2.category == 2))) [] A' post) :
    mj_G y cc nL rt hh (d + 1) sc pc ls (As.reverse ++ .ref b :: st) A post := by
  intro p l e R s m args below meth c H locs cells slots F nc ns D ad ad0 cy n0 lsC hX hZ hH hE hn hS hc hs hl
  obtain ⟨w1, w2, w3, w4, ⟨T0, N0, w5⟩, w6, w7⟩ := hcv
  have hts := hX.2.2.2.2.2.2.2.2.1
  obtain ⟨cellB, hcB, hoB, hclB⟩ := va_recv hH.2.2.1 hH.1 (ci := ci) (q0 := b) w5 (mj_W_get hb)
  intro T hT X
  obtain ⟨mk, methM, hnamed, hmethM, hstM, habM⟩ := Cond.instanceMethod_spec (hts _ w2)
  obtain ⟨methM', cM, hmethM', -, -, -, -, -, -, hsigM⟩ := mj_cw_spec hcw hts hnamed
  cases hmethM.symm.trans hmethM'
  obtain ⟨c2, r2, m2, q1, q2, q3, q4, kP, hkP, hkPi⟩ := Cond.selects_spec (hts _ w3)
  cases hclB.symm.trans q1
  cases (State.methodFound?_of_named hnamed w6).symm.trans q2
  cases hnamed.symm.trans q3
  have hselP : selectMethod e.platform s.vm cellB.cls mk = .method mk := by rw [Launch.admits_selectMethod X.admits]; exact q4
  have hlenA : (As.map (mj_v ad)).length = methM.sig.parameters.length := by
    rw [hsigM] at hn1
    rw [List.length_map]
    exact (Option.some.inj hn1).symm
  have hstk : (F0 m pc lsC ((As.reverse ++ .ref b :: st).map (mj_v ad))).stack = (As.map (mj_v ad)).reverse ++ .ref (ad b) :: st.map (mj_v ad) := by
    show (As.reverse ++ .ref b :: st).map (mj_v ad) = _
    rw [List.map_append, List.map_reverse]; rfl
  have hstep : ∃ (vm₁ : Vm), Stand p l e R s m args below meth c (T.setVm vm₁) locs cells slots ∧ ∀ target, (∀ acts, Steps p.tables e below (doInvoke e ((T.setVm vm₁).setTop (F0 m pc lsC (st.map (mj_v ad)))) acts mk (((.ref b :: As).map (mj_v ad)).toArray)).1 target) → Steps p.tables e below (T.setTop (F0 m pc lsC ((As.reverse ++ .ref b :: st).map (mj_v ad)))) target := by
    rcases w1 with w1 | ⟨host, w1⟩
    · obtain ⟨vm₁, X₁, hstep₁⟩ := X.invokevirtual hX.1 hX.2.2.2.2.2.2.2.1 (hts _ w1) hnamed hmethM hstM hkP hkPi w6 (a := ad b) (cell := cellB) (by rw [hT]; exact hcB)
        (fun z h => by rw [h] at hoB; cases hoB) hselP hmethM habM hkP hkPi (g := F0 m pc lsC ((As.reverse ++ .ref b :: st).map (mj_v ad))) rfl (argsL := As.map (mj_v ad)) (rest := st.map (mj_v ad)) hlenA hstk (by rw [hX.2.2.1]; exact hd)
      exact ⟨vm₁, X₁, hstep₁⟩
    · obtain ⟨vm₁, X₁, hstep₁⟩ := X.invokevirtualNest hX.1 hX.2.2.2.2.2.2.2.1 (hts _ w1) hnamed hmethM hstM hkP hkPi w6 (a := ad b) (cell := cellB) (by rw [hT]; exact hcB)
        (fun z h => by rw [h] at hoB; cases hoB) hselP hmethM habM hkP hkPi (g := F0 m pc lsC ((As.reverse ++ .ref b :: st).map (mj_v ad))) rfl (argsL := As.map (mj_v ad)) (rest := st.map (mj_v ad)) hlenA hstk (by rw [hX.2.2.1]; exact hd)
      exact ⟨vm₁, X₁, hstep₁⟩
  obtain ⟨vm₁, X₁, hstep₁⟩ := hstep
  have hAf := mj_inv (T := T.setVm vm₁) (As := .ref b :: As) X₁ hX (by show mj_Hp D F ad cy A.1 s T.heap; rw [hT]; exact hH) (by show va_S F s.heap T.heap locs; rw [hT]; exact hS) hc hs hcw w4 w7 hsl hG (g := F0 m pc lsC (st.map (mj_v ad))) rfl (by rw [hX.2.2.2.1]; exact hl.1) (by rw [hX.2.2.1]; exact hd)
    (by show 2 * 0 + ((st.map (mj_v ad)).map fun v => v.category).sum + (nL' + 11) ≤ 41; rw [List.map_map]; have : ((fun v : Value => v.category) ∘ mj_v ad) = fun v => v.category := funext (mj_cat ad); rw [this]; omega) (X₁.named hnamed)
  obtain ⟨t, a1, b1⟩ := mj_afterC (ls := ls) (sc := sc) hX hZ hE hn hl hlen hAf kr kt
  exact ⟨t, hstep₁ t (fun acts => by rw [doInvoke_state]; exact a1), b1⟩
end GK
end
section
/-! new cells -/
theorem mj_rf_mono {n n' : Nat} {c : mj_C} (h : mj_rf n c) (hn : n ≤ n') : mj_rf n' c := by
  rcases c with ⟨tg, m, x⟩ | ⟨ci, fs⟩
  · rcases x with f | f | f | f | f
    · trivial
    · trivial
    · trivial
    · trivial
    · exact fun i j hj => Nat.lt_of_lt_of_le (h i j hj) hn
  · exact fun v hv j hj => Nat.lt_of_lt_of_le (h v hv j hj) hn
theorem mj_Hp_push {D : va_G} {F : Nat → Prop} {ad : Nat → Nat} {cy : Nat → ClassId} {A : List mj_C} {U : State} {H H1 : Heap} {q : Nat} {cA : ClassId} {c : mj_C} (h : mj_Hp D F ad cy A U H) (hP : va_P D mj_cl (mj_W ad cy A ++ [(q, mj_E ad cA c)]) H1) (hD : va_D F (mj_W ad cy A ++ [(q, mj_E ad cA c)])) (hc : mj_rf A.length c)
    (ht : ∀ x, c = .inl x → ArrOfT U cA (mj_ty x.1) ∧ va_RA U cA (mj_ty x.1)) : mj_Hp D F (va_up ad A.length q) (va_up cy A.length cA) (A ++ [c]) U H1 := by
  rw [mj_W_push h.2.2.2.2 hc] at hP hD
  have hcase : ∀ (k : Nat) (x : mj_C), (A ++ [c])[k]? = some x → (k < A.length ∧ A[k]? = some x) ∨ (k = A.length ∧ x = c) := by
    intro k x hk
    by_cases hl : k < A.length
    · rw [List.getElem?_append_left hl] at hk
      exact Or.inl ⟨hl, hk⟩
    · rw [List.getElem?_append_right (by omega)] at hk
      have h0 : k - A.length < 1 := (List.getElem?_eq_some_iff.mp hk).1
      rw [show k - A.length = 0 by omega] at hk
      exact Or.inr ⟨by omega, (Option.some.inj hk).symm⟩
  refine ⟨hP, hD, h.2.2.1, fun k x hk => ?_, fun k x hk => ?_⟩
  · rcases hcase k _ hk with ⟨h1, h2⟩ | ⟨h1, h2⟩
    · rw [va_up_ne cy cA (Nat.ne_of_lt h1)]
      exact h.2.2.2.1 k x h2
    · subst h1
      rw [va_up_self]
      exact ht x h2.symm
  · rw [List.length_append]
    rcases hcase k _ hk with ⟨h1, h2⟩ | ⟨h1, h2⟩
    · exact mj_rf_mono (h.2.2.2.2 k x h2) (Nat.le_add_right _ _)
    · rw [h2]; exact mj_rf_mono hc (Nat.le_add_right _ _)
section GA
variable {y : MethodName} {cc : ByteArray} {nL : Nat} {rt : Option FieldType} {hh : List (Nat × Nat × Nat × Nat)} {d : Nat} {sc : Option (Nat × (Nat → Int32))} {pc : Nat} {ls : List (Nat × Value)} {st : List Value} {A : mj_H} {post : mj_O → mj_H → Prop}
/-- what a fresh cell at the end of the heap leaves of the rest -/
theorem mj_fresh {ad ad0 : Nat → Nat} {q n0 n : Nat} (hE : mj_Ext ad ad0 n0 n) (hn : n0 ≤ n) (hm : n < 1000000) : mj_Ext (va_up ad n q) ad0 n0 (n + 1) ∧ mj_Ext (va_up ad n q) ad n (n + 1) ∧ n0 ≤ n + 1 := by
  refine ⟨fun k hk => ?_, fun k hk => ?_, by omega⟩
  · rw [va_up_ne ad q (by omega)]; exact hE k (by omega)
  · exact va_up_ne ad q (by omega)
theorem mj_ls_bd {ad ad' : Nat → Nat} {n n1 : Nat} (h : ls.all (fun q => mj_bd n q.2) = true) (he : mj_Ext ad' ad n n1) (h1 : n1 ≤ 1000000) : mj_ls ad' ls = mj_ls ad ls := by
  unfold mj_ls
  exact List.map_congr_left (fun q hq => by rw [mj_bd_ext (List.all_eq_true.mp h q hq) he h1])
theorem mj_st_bd {ad ad' : Nat → Nat} {n n1 : Nat} (h : st.all (mj_bd n) = true) (he : mj_Ext ad' ad n n1) (h1 : n1 ≤ 1000000) : st.map (mj_v ad') = st.map (mj_v ad) :=
  List.map_congr_left (fun q hq => mj_bd_ext (List.all_eq_true.mp h q hq) he h1)
theorem mj_Z_bd {ad ad' : Nat → Nat} {n n1 : Nat} {F : Nat → Prop} {s : State} (hZ : mj_Z sc ad F s) (he : mj_Ext ad' ad n n1) (h1 : n1 ≤ 1000000) : mj_Z sc ad' F s := by
  cases sc with
  | none => trivial
  | some q =>
    have e9 : ad' 1000000 = ad 1000000 := he 1000000 (Or.inr h1)
    show va_X (ad' 1000000) q.1 q.2 s s.heap ∧ ad' 1000000 < s.heap.size ∧ ¬ F (ad' 1000000)
    rw [e9]; exact hZ
theorem G_new {index ci N : Nat} {C : String} {T : u_T} (ty : Nat → FieldType) {fs : List Value} (hd : decode cc pc = .ok (.new index, 3)) (hcl : mj_cl[ci]? = some (C, T, N)) (hin : ∀ w ∈ u_ws C T N, w ∈ tw_tbl) (hty : ∀ k, k < N → parseFieldDescriptor (T k).2.2.1 = some (ty k)) (hlk : Cond.classLink y.cls index C ∈ tw_tbl) (hins : Cond.instantiable C N ∈ tw_tbl) (hini : Cond.initialized C ∈ tw_tbl)
    (hfs : ∀ j, j < N → defaultValue (ty j) = vp_V fs j) (hnr : ∀ ad, fs.map (mj_v ad) = fs) (hr1 : A.2.1 + 1 ≤ 601024) (hr2 : A.2.2 + N ≤ 7293034) (hm : A.1.length < 1000000) (hbl : ls.all (fun q => mj_bd A.1.length q.2) = true) (hbs : st.all (mj_bd A.1.length) = true) (hrf : mj_rf A.1.length (.inr (ci, fs)))
    (kk : mj_G y cc nL rt hh d sc (pc + 3) ls (.ref A.1.length :: st) (A.1 ++ [.inr (ci, fs)], A.2.1 + 1, A.2.2 + N) post) : mj_G y cc nL rt hh d sc pc ls st A post := by
  intro p l e R s m args below meth c H locs cells slots F nc ns D ad ad0 cy n0 lsC hX hZ hH hE hn hS hc hs hl
  have hts := hX.2.2.2.2.2.2.2.2.1
  have hroom := hX.2.2.2.2.2.2.2.2.2.2.1
  refine va_new (ci := ci) (fs := fs) hX.1 hX.2.2.1 hts hin ty hty hX.2.2.2.2.2.2.2.1 (hts _ hlk) (hts _ hins) (hts _ hini) hH.2.2.1 hH.1 hH.2.1 hS hX.2.2.2.2.2.2.2.2.2.2.2.1 hcl hfs (by have := hroom.2.2.1; omega) (by have := hroom.2.2.2; omega) hd (fun q H1 hP hD hS1 => ?_)
  have e1 : mj_E ad (cy 0) (.inr (ci, fs)) = .inr (ci, fs) := by show Sum.inr (ci, fs.map (mj_v ad)) = _; rw [hnr]
  rw [← e1] at hP hD
  have hH1 := mj_Hp_push hH hP hD hrf (fun x hx => by cases hx)
  obtain ⟨g1, g2, g3⟩ := mj_fresh (q := q) hE hn hm
  have hlen : (A.1 ++ [(.inr (ci, fs) : mj_C)]).length = A.1.length + 1 := by simp
  have K := kk p l e R s m args below meth c H1 locs (cells + 1) (slots + N) F nc ns D (va_up ad A.1.length q) ad0 (va_up cy A.1.length (cy 0)) n0 lsC hX (mj_Z_bd hZ g2 hm) hH1 (by rw [hlen]; exact g1) (by rw [hlen]; exact g3) hS1 ⟨by show A.2.1 + 1 = _; omega, hr1⟩ ⟨by show A.2.2 + N = _; omega, hr2⟩ (by rw [mj_ls_bd hbl g2 hm]; exact hl)
  rw [List.map_cons, mj_st_bd hbs g2 hm] at K
  have e2 : mj_v (va_up ad A.1.length q) (.ref A.1.length) = .ref q := by show Value.ref (va_up ad A.1.length q A.1.length) = _; rw [va_up_self]
  rw [e2] at K
  exact K
theorem G_newa {atype : ArrayType} {n : Int32} {N tg : Nat} {a0 : vp_A} (hd : decode cc pc = .ok (.newarray atype, 2)) (harr : Cond.arrayClass (newarray.typeOf atype) ∈ tw_tbl) (hty : newarray.typeOf atype = mj_ty tg) (ha : ∀ cA : ClassId, vp_cell cA a0 = arrV cA N (fun _ => defaultValue (mj_ty tg))) (hnr : ∀ ad, mj_A ad a0 = a0) (hn0 : ¬ n < 0) (hN : n.toNatClampNeg = N) (hb : N * componentBytes (mj_ty tg) ≤ 536870912)
    (hr1 : A.2.1 + 1 ≤ 601024) (hr2 : A.2.2 + N ≤ 7293034) (hm : A.1.length < 1000000) (hbl : ls.all (fun q => mj_bd A.1.length q.2) = true) (hbs : st.all (mj_bd A.1.length) = true) (hrf : mj_rf A.1.length (.inl (tg, a0)))
    (kk : mj_G y cc nL rt hh d sc (pc + 2) ls (.ref A.1.length :: st) (A.1 ++ [.inl (tg, a0)], A.2.1 + 1, A.2.2 + N) post) : mj_G y cc nL rt hh d sc pc ls (.int n :: st) A post := by
  intro p l e R s m args below meth c H locs cells slots F nc ns D ad ad0 cy n0 lsC hX hZ hH hE hn hS hc hs hl
  have hts := hX.2.2.2.2.2.2.2.2.1
  have hroom := hX.2.2.2.2.2.2.2.2.2.2.1
  refine va_newa (a0 := a0) hX.1 hX.2.2.1 (hts _ harr) hty hH.2.2.1 hH.1 hH.2.1 hS hX.2.2.2.2.2.2.2.2.2.2.2.1 ha hn0 hN hb (by have := hroom.2.2.1; omega) (by have := hroom.2.2.2; omega) hd (fun q cA H1 hK hP hD hS1 => ?_)
  have e1 : mj_E ad cA (.inl (tg, a0)) = .inl (cA, a0) := by show Sum.inl (cA, mj_A ad a0) = _; rw [hnr]
  rw [← e1] at hP hD
  have hH1 := mj_Hp_push hH hP hD hrf (fun x hx => by cases hx; exact hK.2 0 _ rfl)
  obtain ⟨g1, g2, g3⟩ := mj_fresh (q := q) hE hn hm
  have hlen : (A.1 ++ [(.inl (tg, a0) : mj_C)]).length = A.1.length + 1 := by simp
  have K := kk p l e R s m args below meth c H1 locs (cells + 1) (slots + N) F nc ns D (va_up ad A.1.length q) ad0 (va_up cy A.1.length cA) n0 lsC hX (mj_Z_bd hZ g2 hm) hH1 (by rw [hlen]; exact g1) (by rw [hlen]; exact g3) hS1 ⟨by show A.2.1 + 1 = _; omega, hr1⟩ ⟨by show A.2.2 + N = _; omega, hr2⟩ (by rw [mj_ls_bd hbl g2 hm]; exact hl)
  rw [List.map_cons, mj_st_bd hbs g2 hm] at K
  have e2 : mj_v (va_up ad A.1.length q) (.ref A.1.length) = .ref q := by show Value.ref (va_up ad A.1.length q A.1.length) = _; rw [va_up_self]
  rw [e2] at K
  exact K
end GA
end
