theorem d_C_init_0 : decode b_C_init 0 = .ok (.aload_n 0, 1) := by decide +kernel
theorem d_C_init_1 : decode b_C_init 1 = .ok (.invokespecial 1, 3) := by decide +kernel
theorem d_C_init_4 : decode b_C_init 4 = .ok (.aload_n 0, 1) := by decide +kernel
theorem d_C_init_5 : decode b_C_init 5 = .ok (.new 7, 3) := by decide +kernel
theorem d_C_init_8 : decode b_C_init 8 = .ok (.dup, 1) := by decide +kernel
theorem d_C_init_9 : decode b_C_init 9 = .ok (.invokespecial 9, 3) := by decide +kernel
theorem d_C_init_12 : decode b_C_init 12 = .ok (.putfield 10, 3) := by decide +kernel
theorem d_C_init_15 : decode b_C_init 15 = .ok (.aload_n 0, 1) := by decide +kernel
theorem d_C_init_16 : decode b_C_init 16 = .ok (.new 16, 3) := by decide +kernel
theorem d_C_init_19 : decode b_C_init 19 = .ok (.dup, 1) := by decide +kernel
theorem d_C_init_20 : decode b_C_init 20 = .ok (.invokespecial 18, 3) := by decide +kernel
theorem d_C_init_23 : decode b_C_init 23 = .ok (.putfield 19, 3) := by decide +kernel
theorem d_C_init_26 : decode b_C_init 26 = .ok (.aload_n 0, 1) := by decide +kernel
theorem d_C_init_27 : decode b_C_init 27 = .ok (.new 23, 3) := by decide +kernel
theorem d_C_init_30 : decode b_C_init 30 = .ok (.dup, 1) := by decide +kernel
theorem d_C_init_31 : decode b_C_init 31 = .ok (.aload_n 0, 1) := by decide +kernel
theorem d_C_init_32 : decode b_C_init 32 = .ok (.getfield 10, 3) := by decide +kernel
theorem d_C_init_35 : decode b_C_init 35 = .ok (.aload_n 0, 1) := by decide +kernel
theorem d_C_init_36 : decode b_C_init 36 = .ok (.getfield 19, 3) := by decide +kernel
theorem d_C_init_39 : decode b_C_init 39 = .ok (.bipush 8, 2) := by decide +kernel
theorem d_C_init_41 : decode b_C_init 41 = .ok (.bipush 40, 2) := by decide +kernel
theorem d_C_init_43 : decode b_C_init 43 = .ok (.invokespecial 25, 3) := by decide +kernel
theorem d_C_init_46 : decode b_C_init 46 = .ok (.putfield 28, 3) := by decide +kernel
theorem d_C_init_49 : decode b_C_init 49 = .ok (.aload_n 0, 1) := by decide +kernel
theorem d_C_init_50 : decode b_C_init 50 = .ok (.new 23, 3) := by decide +kernel
theorem d_C_init_53 : decode b_C_init 53 = .ok (.dup, 1) := by decide +kernel
theorem d_C_init_54 : decode b_C_init 54 = .ok (.aload_n 0, 1) := by decide +kernel
theorem d_C_init_55 : decode b_C_init 55 = .ok (.getfield 10, 3) := by decide +kernel
theorem d_C_init_58 : decode b_C_init 58 = .ok (.aload_n 0, 1) := by decide +kernel
theorem d_C_init_59 : decode b_C_init 59 = .ok (.getfield 19, 3) := by decide +kernel
theorem d_C_init_62 : decode b_C_init 62 = .ok (.iconst 2, 1) := by decide +kernel
theorem d_C_init_63 : decode b_C_init 63 = .ok (.bipush 24, 2) := by decide +kernel
theorem d_C_init_65 : decode b_C_init 65 = .ok (.invokespecial 25, 3) := by decide +kernel
theorem d_C_init_68 : decode b_C_init 68 = .ok (.putfield 32, 3) := by decide +kernel
theorem d_C_init_71 : decode b_C_init 71 = .ok (.return_, 1) := by decide +kernel
theorem d_S_init_0 : decode b_S_init 0 = .ok (.aload_n 0, 1) := by decide +kernel
theorem d_S_init_1 : decode b_S_init 1 = .ok (.invokespecial 3, 3) := by decide +kernel
theorem d_S_init_4 : decode b_S_init 4 = .ok (.aload_n 0, 1) := by decide +kernel
theorem d_S_init_5 : decode b_S_init 5 = .ok (.iconst 1, 1) := by decide +kernel
theorem d_S_init_6 : decode b_S_init 6 = .ok (.putfield 9, 3) := by decide +kernel
theorem d_S_init_9 : decode b_S_init 9 = .ok (.aload_n 0, 1) := by decide +kernel
theorem d_S_init_10 : decode b_S_init 10 = .ok (.iconst 0, 1) := by decide +kernel
theorem d_S_init_11 : decode b_S_init 11 = .ok (.putfield 15, 3) := by decide +kernel
theorem d_S_init_14 : decode b_S_init 14 = .ok (.aload_n 0, 1) := by decide +kernel
theorem d_S_init_15 : decode b_S_init 15 = .ok (.iconst 1, 1) := by decide +kernel
theorem d_S_init_16 : decode b_S_init 16 = .ok (.putfield 18, 3) := by decide +kernel
theorem d_S_init_19 : decode b_S_init 19 = .ok (.aload_n 0, 1) := by decide +kernel
theorem d_S_init_20 : decode b_S_init 20 = .ok (.iconst 0, 1) := by decide +kernel
theorem d_S_init_21 : decode b_S_init 21 = .ok (.putfield 21, 3) := by decide +kernel
theorem d_S_init_24 : decode b_S_init 24 = .ok (.aload_n 0, 1) := by decide +kernel
theorem d_S_init_25 : decode b_S_init 25 = .ok (.bipush 12, 2) := by decide +kernel
theorem d_S_init_27 : decode b_S_init 27 = .ok (.newarray .int, 2) := by decide +kernel
theorem d_S_init_29 : decode b_S_init 29 = .ok (.putfield 24, 3) := by decide +kernel
theorem d_S_init_32 : decode b_S_init 32 = .ok (.aload_n 0, 1) := by decide +kernel
theorem d_S_init_33 : decode b_S_init 33 = .ok (.bipush 30, 2) := by decide +kernel
theorem d_S_init_35 : decode b_S_init 35 = .ok (.newarray .int, 2) := by decide +kernel
theorem d_S_init_37 : decode b_S_init 37 = .ok (.putfield 28, 3) := by decide +kernel
theorem d_S_init_40 : decode b_S_init 40 = .ok (.aload_n 0, 1) := by decide +kernel
theorem d_S_init_41 : decode b_S_init 41 = .ok (.bipush 30, 2) := by decide +kernel
theorem d_S_init_43 : decode b_S_init 43 = .ok (.newarray .int, 2) := by decide +kernel
theorem d_S_init_45 : decode b_S_init 45 = .ok (.putfield 31, 3) := by decide +kernel
theorem d_S_init_48 : decode b_S_init 48 = .ok (.aload_n 0, 1) := by decide +kernel
theorem d_S_init_49 : decode b_S_init 49 = .ok (.bipush 30, 2) := by decide +kernel
theorem d_S_init_51 : decode b_S_init 51 = .ok (.newarray .int, 2) := by decide +kernel
theorem d_S_init_53 : decode b_S_init 53 = .ok (.putfield 34, 3) := by decide +kernel
theorem d_S_init_56 : decode b_S_init 56 = .ok (.aload_n 0, 1) := by decide +kernel
theorem d_S_init_57 : decode b_S_init 57 = .ok (.bipush 30, 2) := by decide +kernel
theorem d_S_init_59 : decode b_S_init 59 = .ok (.newarray .int, 2) := by decide +kernel
theorem d_S_init_61 : decode b_S_init 61 = .ok (.putfield 37, 3) := by decide +kernel
theorem d_S_init_64 : decode b_S_init 64 = .ok (.return_, 1) := by decide +kernel
theorem d_P_init_0 : decode b_P_init 0 = .ok (.aload_n 0, 1) := by decide +kernel
theorem d_P_init_1 : decode b_P_init 1 = .ok (.invokespecial 3, 3) := by decide +kernel
theorem d_P_init_4 : decode b_P_init 4 = .ok (.aload_n 0, 1) := by decide +kernel
theorem d_P_init_5 : decode b_P_init 5 = .ok (.iconst 0, 1) := by decide +kernel
theorem d_P_init_6 : decode b_P_init 6 = .ok (.putfield 9, 3) := by decide +kernel
theorem d_P_init_9 : decode b_P_init 9 = .ok (.aload_n 0, 1) := by decide +kernel
theorem d_P_init_10 : decode b_P_init 10 = .ok (.sipush 200, 3) := by decide +kernel
theorem d_P_init_13 : decode b_P_init 13 = .ok (.newarray .int, 2) := by decide +kernel
theorem d_P_init_15 : decode b_P_init 15 = .ok (.putfield 15, 3) := by decide +kernel
theorem d_P_init_18 : decode b_P_init 18 = .ok (.aload_n 0, 1) := by decide +kernel
theorem d_P_init_19 : decode b_P_init 19 = .ok (.sipush 200, 3) := by decide +kernel
theorem d_P_init_22 : decode b_P_init 22 = .ok (.newarray .int, 2) := by decide +kernel
theorem d_P_init_24 : decode b_P_init 24 = .ok (.putfield 19, 3) := by decide +kernel
theorem d_P_init_27 : decode b_P_init 27 = .ok (.aload_n 0, 1) := by decide +kernel
theorem d_P_init_28 : decode b_P_init 28 = .ok (.sipush 200, 3) := by decide +kernel
theorem d_P_init_31 : decode b_P_init 31 = .ok (.newarray .int, 2) := by decide +kernel
theorem d_P_init_33 : decode b_P_init 33 = .ok (.putfield 22, 3) := by decide +kernel
theorem d_P_init_36 : decode b_P_init 36 = .ok (.aload_n 0, 1) := by decide +kernel
theorem d_P_init_37 : decode b_P_init 37 = .ok (.sipush 200, 3) := by decide +kernel
theorem d_P_init_40 : decode b_P_init 40 = .ok (.newarray .int, 2) := by decide +kernel
theorem d_P_init_42 : decode b_P_init 42 = .ok (.putfield 25, 3) := by decide +kernel
theorem d_P_init_45 : decode b_P_init 45 = .ok (.aload_n 0, 1) := by decide +kernel
theorem d_P_init_46 : decode b_P_init 46 = .ok (.sipush 200, 3) := by decide +kernel
theorem d_P_init_49 : decode b_P_init 49 = .ok (.newarray .int, 2) := by decide +kernel
theorem d_P_init_51 : decode b_P_init 51 = .ok (.putfield 28, 3) := by decide +kernel
theorem d_P_init_54 : decode b_P_init 54 = .ok (.aload_n 0, 1) := by decide +kernel
theorem d_P_init_55 : decode b_P_init 55 = .ok (.sipush 200, 3) := by decide +kernel
theorem d_P_init_58 : decode b_P_init 58 = .ok (.newarray .int, 2) := by decide +kernel
theorem d_P_init_60 : decode b_P_init 60 = .ok (.putfield 31, 3) := by decide +kernel
theorem d_P_init_63 : decode b_P_init 63 = .ok (.return_, 1) := by decide +kernel
theorem d_H_init_0 : decode b_H_init 0 = .ok (.aload_n 0, 1) := by decide +kernel
theorem d_H_init_1 : decode b_H_init 1 = .ok (.invokespecial 3, 3) := by decide +kernel
theorem d_H_init_4 : decode b_H_init 4 = .ok (.aload_n 0, 1) := by decide +kernel
theorem d_H_init_5 : decode b_H_init 5 = .ok (.aload_n 1, 1) := by decide +kernel
theorem d_H_init_6 : decode b_H_init 6 = .ok (.putfield 9, 3) := by decide +kernel
theorem d_H_init_9 : decode b_H_init 9 = .ok (.aload_n 0, 1) := by decide +kernel
theorem d_H_init_10 : decode b_H_init 10 = .ok (.aload_n 2, 1) := by decide +kernel
theorem d_H_init_11 : decode b_H_init 11 = .ok (.putfield 15, 3) := by decide +kernel
theorem d_H_init_14 : decode b_H_init 14 = .ok (.aload_n 0, 1) := by decide +kernel
theorem d_H_init_15 : decode b_H_init 15 = .ok (.iload_n 3, 1) := by decide +kernel
theorem d_H_init_16 : decode b_H_init 16 = .ok (.newarray .long, 2) := by decide +kernel
theorem d_H_init_18 : decode b_H_init 18 = .ok (.putfield 19, 3) := by decide +kernel
theorem d_H_init_21 : decode b_H_init 21 = .ok (.aload_n 0, 1) := by decide +kernel
theorem d_H_init_22 : decode b_H_init 22 = .ok (.iload_n 3, 1) := by decide +kernel
theorem d_H_init_23 : decode b_H_init 23 = .ok (.iload 4, 2) := by decide +kernel
theorem d_H_init_25 : decode b_H_init 25 = .ok (.multianewarray 23 2, 4) := by decide +kernel
theorem d_H_init_29 : decode b_H_init 29 = .ok (.putfield 25, 3) := by decide +kernel
theorem d_H_init_32 : decode b_H_init 32 = .ok (.aload_n 0, 1) := by decide +kernel
theorem d_H_init_33 : decode b_H_init 33 = .ok (.iload 4, 2) := by decide +kernel
theorem d_H_init_35 : decode b_H_init 35 = .ok (.newarray .int, 2) := by decide +kernel
theorem d_H_init_37 : decode b_H_init 37 = .ok (.putfield 28, 3) := by decide +kernel
theorem d_H_init_40 : decode b_H_init 40 = .ok (.aload_n 0, 1) := by decide +kernel
theorem d_H_init_41 : decode b_H_init 41 = .ok (.iload 4, 2) := by decide +kernel
theorem d_H_init_43 : decode b_H_init 43 = .ok (.newarray .int, 2) := by decide +kernel
theorem d_H_init_45 : decode b_H_init 45 = .ok (.putfield 32, 3) := by decide +kernel
theorem d_H_init_48 : decode b_H_init 48 = .ok (.aload_n 0, 1) := by decide +kernel
theorem d_H_init_49 : decode b_H_init 49 = .ok (.iload 4, 2) := by decide +kernel
theorem d_H_init_51 : decode b_H_init 51 = .ok (.newarray .int, 2) := by decide +kernel
theorem d_H_init_53 : decode b_H_init 53 = .ok (.putfield 35, 3) := by decide +kernel
theorem d_H_init_56 : decode b_H_init 56 = .ok (.aload_n 0, 1) := by decide +kernel
theorem d_H_init_57 : decode b_H_init 57 = .ok (.iload 4, 2) := by decide +kernel
theorem d_H_init_59 : decode b_H_init 59 = .ok (.newarray .int, 2) := by decide +kernel
theorem d_H_init_61 : decode b_H_init 61 = .ok (.putfield 38, 3) := by decide +kernel
theorem d_H_init_64 : decode b_H_init 64 = .ok (.aload_n 0, 1) := by decide +kernel
theorem d_H_init_65 : decode b_H_init 65 = .ok (.iconst 0, 1) := by decide +kernel
theorem d_H_init_66 : decode b_H_init 66 = .ok (.invokevirtual 41, 3) := by decide +kernel
theorem d_H_init_69 : decode b_H_init 69 = .ok (.return_, 1) := by decide +kernel
theorem d_H_clear_0 : decode b_H_clear 0 = .ok (.aload_n 0, 1) := by decide +kernel
theorem d_H_clear_1 : decode b_H_clear 1 = .ok (.iload_n 1, 1) := by decide +kernel
theorem d_H_clear_2 : decode b_H_clear 2 = .ok (.putfield 45, 3) := by decide +kernel
theorem d_H_clear_5 : decode b_H_clear 5 = .ok (.aload_n 0, 1) := by decide +kernel
theorem d_H_clear_6 : decode b_H_clear 6 = .ok (.iconst 0, 1) := by decide +kernel
theorem d_H_clear_7 : decode b_H_clear 7 = .ok (.putfield 49, 3) := by decide +kernel
theorem d_H_clear_10 : decode b_H_clear 10 = .ok (.aload_n 0, 1) := by decide +kernel
theorem d_H_clear_11 : decode b_H_clear 11 = .ok (.iconst 1, 1) := by decide +kernel
theorem d_H_clear_12 : decode b_H_clear 12 = .ok (.putfield 52, 3) := by decide +kernel
theorem d_H_clear_15 : decode b_H_clear 15 = .ok (.aload_n 0, 1) := by decide +kernel
theorem d_H_clear_16 : decode b_H_clear 16 = .ok (.iconst 0, 1) := by decide +kernel
theorem d_H_clear_17 : decode b_H_clear 17 = .ok (.putfield 55, 3) := by decide +kernel
theorem d_H_clear_20 : decode b_H_clear 20 = .ok (.aload_n 0, 1) := by decide +kernel
theorem d_H_clear_21 : decode b_H_clear 21 = .ok (.getfield 28, 3) := by decide +kernel
theorem d_H_clear_24 : decode b_H_clear 24 = .ok (.iconst 0, 1) := by decide +kernel
theorem d_H_clear_25 : decode b_H_clear 25 = .ok (.iload_n 1, 1) := by decide +kernel
theorem d_H_clear_26 : decode b_H_clear 26 = .ok (.iastore, 1) := by decide +kernel
theorem d_H_clear_27 : decode b_H_clear 27 = .ok (.return_, 1) := by decide +kernel
theorem d_C_open_0 : decode b_C_open 0 = .ok (.aload_n 0, 1) := by decide +kernel
theorem d_C_open_1 : decode b_C_open 1 = .ok (.getfield 28, 3) := by decide +kernel
theorem d_C_open_4 : decode b_C_open 4 = .ok (.invokevirtual 131, 3) := by decide +kernel
theorem d_C_open_7 : decode b_C_open 7 = .ok (.ireturn, 1) := by decide +kernel
theorem d_H_leavesSome_0 : decode b_H_leavesSome 0 = .ok (.aload_n 0, 1) := by decide +kernel
theorem d_H_leavesSome_1 : decode b_H_leavesSome 1 = .ok (.getfield 9, 3) := by decide +kernel
theorem d_H_leavesSome_4 : decode b_H_leavesSome 4 = .ok (.aload_n 0, 1) := by decide +kernel
theorem d_H_leavesSome_5 : decode b_H_leavesSome 5 = .ok (.getfield 45, 3) := by decide +kernel
theorem d_H_leavesSome_8 : decode b_H_leavesSome 8 = .ok (.invokevirtual 100, 3) := by decide +kernel
theorem d_H_leavesSome_11 : decode b_H_leavesSome 11 = .ok (.ifCond .eq 24, 3) := by decide +kernel
theorem d_H_leavesSome_14 : decode b_H_leavesSome 14 = .ok (.aload_n 0, 1) := by decide +kernel
theorem d_H_leavesSome_15 : decode b_H_leavesSome 15 = .ok (.iconst 1, 1) := by decide +kernel
theorem d_H_leavesSome_16 : decode b_H_leavesSome 16 = .ok (.aload_n 0, 1) := by decide +kernel
theorem d_H_leavesSome_17 : decode b_H_leavesSome 17 = .ok (.getfield 49, 3) := by decide +kernel
theorem d_H_leavesSome_20 : decode b_H_leavesSome 20 = .ok (.ishl, 1) := by decide +kernel
theorem d_H_leavesSome_21 : decode b_H_leavesSome 21 = .ok (.iconst 1, 1) := by decide +kernel
theorem d_H_leavesSome_22 : decode b_H_leavesSome 22 = .ok (.isub, 1) := by decide +kernel
theorem d_H_leavesSome_23 : decode b_H_leavesSome 23 = .ok (.lconst 0, 1) := by decide +kernel
theorem d_H_leavesSome_24 : decode b_H_leavesSome 24 = .ok (.iconst 0, 1) := by decide +kernel
theorem d_H_leavesSome_25 : decode b_H_leavesSome 25 = .ok (.invokevirtual 96, 3) := by decide +kernel
theorem d_H_leavesSome_28 : decode b_H_leavesSome 28 = .ok (.ifCond .eq 7, 3) := by decide +kernel
theorem d_H_leavesSome_31 : decode b_H_leavesSome 31 = .ok (.iconst 1, 1) := by decide +kernel
theorem d_H_leavesSome_32 : decode b_H_leavesSome 32 = .ok (.goto 4, 3) := by decide +kernel
theorem d_H_leavesSome_35 : decode b_H_leavesSome 35 = .ok (.iconst 0, 1) := by decide +kernel
theorem d_H_leavesSome_36 : decode b_H_leavesSome 36 = .ok (.ireturn, 1) := by decide +kernel
theorem d_S_isSortLiving_0 : decode b_S_isSortLiving 0 = .ok (.aload_n 0, 1) := by decide +kernel
theorem d_S_isSortLiving_1 : decode b_S_isSortLiving 1 = .ok (.getfield 18, 3) := by decide +kernel
theorem d_S_isSortLiving_4 : decode b_S_isSortLiving 4 = .ok (.iload_n 1, 1) := by decide +kernel
theorem d_S_isSortLiving_5 : decode b_S_isSortLiving 5 = .ok (.ishr, 1) := by decide +kernel
theorem d_S_isSortLiving_6 : decode b_S_isSortLiving 6 = .ok (.iconst 1, 1) := by decide +kernel
theorem d_S_isSortLiving_7 : decode b_S_isSortLiving 7 = .ok (.iand, 1) := by decide +kernel
theorem d_S_isSortLiving_8 : decode b_S_isSortLiving 8 = .ok (.ifCond .eq 7, 3) := by decide +kernel
theorem d_S_isSortLiving_11 : decode b_S_isSortLiving 11 = .ok (.iconst 1, 1) := by decide +kernel
theorem d_S_isSortLiving_12 : decode b_S_isSortLiving 12 = .ok (.goto 4, 3) := by decide +kernel
theorem d_S_isSortLiving_15 : decode b_S_isSortLiving 15 = .ok (.iconst 0, 1) := by decide +kernel
theorem d_S_isSortLiving_16 : decode b_S_isSortLiving 16 = .ok (.ireturn, 1) := by decide +kernel
theorem d_H_escapes_0 : decode b_H_escapes 0 = .ok (.iload_n 1, 1) := by decide +kernel
theorem d_H_escapes_1 : decode b_H_escapes 1 = .ok (.ifCond .ne 5, 3) := by decide +kernel
theorem d_H_escapes_4 : decode b_H_escapes 4 = .ok (.iconst 1, 1) := by decide +kernel
theorem d_H_escapes_5 : decode b_H_escapes 5 = .ok (.ireturn, 1) := by decide +kernel
theorem d_H_escapes_6 : decode b_H_escapes 6 = .ok (.aload_n 0, 1) := by decide +kernel
theorem d_H_escapes_7 : decode b_H_escapes 7 = .ok (.getfield 19, 3) := by decide +kernel
theorem d_H_escapes_10 : decode b_H_escapes 10 = .ok (.aload_n 0, 1) := by decide +kernel
theorem d_H_escapes_11 : decode b_H_escapes 11 = .ok (.iload_n 1, 1) := by decide +kernel
theorem d_H_escapes_12 : decode b_H_escapes 12 = .ok (.lload_n 2, 1) := by decide +kernel
theorem d_H_escapes_13 : decode b_H_escapes 13 = .ok (.invokevirtual 116, 3) := by decide +kernel
theorem d_H_escapes_16 : decode b_H_escapes 16 = .ok (.laload, 1) := by decide +kernel
theorem d_H_escapes_17 : decode b_H_escapes 17 = .ok (.lload_n 2, 1) := by decide +kernel
theorem d_H_escapes_18 : decode b_H_escapes 18 = .ok (.ldc2_w 120, 3) := by decide +kernel
theorem d_H_escapes_21 : decode b_H_escapes 21 = .ok (.lxor, 1) := by decide +kernel
theorem d_H_escapes_22 : decode b_H_escapes 22 = .ok (.land, 1) := by decide +kernel
theorem d_H_escapes_23 : decode b_H_escapes 23 = .ok (.lstore 5, 2) := by decide +kernel
theorem d_H_escapes_25 : decode b_H_escapes 25 = .ok (.lload 5, 2) := by decide +kernel
theorem d_H_escapes_27 : decode b_H_escapes 27 = .ok (.lconst 0, 1) := by decide +kernel
theorem d_H_escapes_28 : decode b_H_escapes 28 = .ok (.lcmp, 1) := by decide +kernel
theorem d_H_escapes_29 : decode b_H_escapes 29 = .ok (.ifCond .eq 10, 3) := by decide +kernel
theorem d_H_escapes_32 : decode b_H_escapes 32 = .ok (.iload 4, 2) := by decide +kernel
theorem d_H_escapes_34 : decode b_H_escapes 34 = .ok (.bipush 40, 2) := by decide +kernel
theorem d_H_escapes_36 : decode b_H_escapes 36 = .ok (.if_icmp .lt 5, 3) := by decide +kernel
theorem d_H_escapes_39 : decode b_H_escapes 39 = .ok (.iconst 0, 1) := by decide +kernel
theorem d_H_escapes_40 : decode b_H_escapes 40 = .ok (.ireturn, 1) := by decide +kernel
theorem d_H_escapes_41 : decode b_H_escapes 41 = .ok (.lload 5, 2) := by decide +kernel
theorem d_H_escapes_43 : decode b_H_escapes 43 = .ok (.invokestatic 122, 3) := by decide +kernel
theorem d_H_escapes_46 : decode b_H_escapes 46 = .ok (.istore 7, 2) := by decide +kernel
theorem d_H_escapes_48 : decode b_H_escapes 48 = .ok (.lload_n 2, 1) := by decide +kernel
theorem d_H_escapes_49 : decode b_H_escapes 49 = .ok (.lconst 1, 1) := by decide +kernel
theorem d_H_escapes_50 : decode b_H_escapes 50 = .ok (.iload 7, 2) := by decide +kernel
theorem d_H_escapes_52 : decode b_H_escapes 52 = .ok (.lshl, 1) := by decide +kernel
theorem d_H_escapes_53 : decode b_H_escapes 53 = .ok (.lor, 1) := by decide +kernel
theorem d_H_escapes_54 : decode b_H_escapes 54 = .ok (.lstore 8, 2) := by decide +kernel
theorem d_H_escapes_56 : decode b_H_escapes 56 = .ok (.aload_n 0, 1) := by decide +kernel
theorem d_H_escapes_57 : decode b_H_escapes 57 = .ok (.iload_n 1, 1) := by decide +kernel
theorem d_H_escapes_58 : decode b_H_escapes 58 = .ok (.iload 7, 2) := by decide +kernel
theorem d_H_escapes_60 : decode b_H_escapes 60 = .ok (.invokevirtual 128, 3) := by decide +kernel
theorem d_H_escapes_63 : decode b_H_escapes 63 = .ok (.istore 10, 2) := by decide +kernel
theorem d_H_escapes_65 : decode b_H_escapes 65 = .ok (.aload_n 0, 1) := by decide +kernel
theorem d_H_escapes_66 : decode b_H_escapes 66 = .ok (.getfield 28, 3) := by decide +kernel
theorem d_H_escapes_69 : decode b_H_escapes 69 = .ok (.iload 7, 2) := by decide +kernel
theorem d_H_escapes_71 : decode b_H_escapes 71 = .ok (.iaload, 1) := by decide +kernel
theorem d_H_escapes_72 : decode b_H_escapes 72 = .ok (.ifCond .ne 16, 3) := by decide +kernel
theorem d_H_escapes_75 : decode b_H_escapes 75 = .ok (.aload_n 0, 1) := by decide +kernel
theorem d_H_escapes_76 : decode b_H_escapes 76 = .ok (.iload 10, 2) := by decide +kernel
theorem d_H_escapes_78 : decode b_H_escapes 78 = .ok (.lload 8, 2) := by decide +kernel
theorem d_H_escapes_80 : decode b_H_escapes 80 = .ok (.iload 4, 2) := by decide +kernel
theorem d_H_escapes_82 : decode b_H_escapes 82 = .ok (.iconst 1, 1) := by decide +kernel
theorem d_H_escapes_83 : decode b_H_escapes 83 = .ok (.iadd, 1) := by decide +kernel
theorem d_H_escapes_84 : decode b_H_escapes 84 = .ok (.invokevirtual 96, 3) := by decide +kernel
theorem d_H_escapes_87 : decode b_H_escapes 87 = .ok (.ireturn, 1) := by decide +kernel
theorem d_H_escapes_88 : decode b_H_escapes 88 = .ok (.aload_n 0, 1) := by decide +kernel
theorem d_H_escapes_89 : decode b_H_escapes 89 = .ok (.getfield 9, 3) := by decide +kernel
theorem d_H_escapes_92 : decode b_H_escapes 92 = .ok (.aload_n 0, 1) := by decide +kernel
theorem d_H_escapes_93 : decode b_H_escapes 93 = .ok (.getfield 28, 3) := by decide +kernel
theorem d_H_escapes_96 : decode b_H_escapes 96 = .ok (.iload 7, 2) := by decide +kernel
theorem d_H_escapes_98 : decode b_H_escapes 98 = .ok (.iaload, 1) := by decide +kernel
theorem d_H_escapes_99 : decode b_H_escapes 99 = .ok (.invokevirtual 131, 3) := by decide +kernel
theorem d_H_escapes_102 : decode b_H_escapes 102 = .ok (.istore 11, 2) := by decide +kernel
theorem d_H_escapes_104 : decode b_H_escapes 104 = .ok (.iload 11, 2) := by decide +kernel
theorem d_H_escapes_106 : decode b_H_escapes 106 = .ok (.aload_n 0, 1) := by decide +kernel
theorem d_H_escapes_107 : decode b_H_escapes 107 = .ok (.iload_n 1, 1) := by decide +kernel
theorem d_H_escapes_108 : decode b_H_escapes 108 = .ok (.iload 7, 2) := by decide +kernel
theorem d_H_escapes_110 : decode b_H_escapes 110 = .ok (.invokevirtual 134, 3) := by decide +kernel
theorem d_H_escapes_113 : decode b_H_escapes 113 = .ok (.iconst (-1), 1) := by decide +kernel
theorem d_H_escapes_114 : decode b_H_escapes 114 = .ok (.ixor, 1) := by decide +kernel
theorem d_H_escapes_115 : decode b_H_escapes 115 = .ok (.iand, 1) := by decide +kernel
theorem d_H_escapes_116 : decode b_H_escapes 116 = .ok (.ifCond .eq 16, 3) := by decide +kernel
theorem d_H_escapes_119 : decode b_H_escapes 119 = .ok (.aload_n 0, 1) := by decide +kernel
theorem d_H_escapes_120 : decode b_H_escapes 120 = .ok (.iload 10, 2) := by decide +kernel
theorem d_H_escapes_122 : decode b_H_escapes 122 = .ok (.lload 8, 2) := by decide +kernel
theorem d_H_escapes_124 : decode b_H_escapes 124 = .ok (.iload 4, 2) := by decide +kernel
theorem d_H_escapes_126 : decode b_H_escapes 126 = .ok (.iconst 1, 1) := by decide +kernel
theorem d_H_escapes_127 : decode b_H_escapes 127 = .ok (.iadd, 1) := by decide +kernel
theorem d_H_escapes_128 : decode b_H_escapes 128 = .ok (.invokevirtual 96, 3) := by decide +kernel
theorem d_H_escapes_131 : decode b_H_escapes 131 = .ok (.ireturn, 1) := by decide +kernel
theorem d_H_escapes_132 : decode b_H_escapes 132 = .ok (.iconst 0, 1) := by decide +kernel
theorem d_H_escapes_133 : decode b_H_escapes 133 = .ok (.istore 12, 2) := by decide +kernel
theorem d_H_escapes_135 : decode b_H_escapes 135 = .ok (.iload 12, 2) := by decide +kernel
theorem d_H_escapes_137 : decode b_H_escapes 137 = .ok (.bipush 30, 2) := by decide +kernel
theorem d_H_escapes_139 : decode b_H_escapes 139 = .ok (.if_icmp .ge 58, 3) := by decide +kernel
theorem d_H_escapes_142 : decode b_H_escapes 142 = .ok (.iload 11, 2) := by decide +kernel
theorem d_H_escapes_144 : decode b_H_escapes 144 = .ok (.iload 12, 2) := by decide +kernel
theorem d_H_escapes_146 : decode b_H_escapes 146 = .ok (.ishr, 1) := by decide +kernel
theorem d_H_escapes_147 : decode b_H_escapes 147 = .ok (.iconst 1, 1) := by decide +kernel
theorem d_H_escapes_148 : decode b_H_escapes 148 = .ok (.iand, 1) := by decide +kernel
theorem d_H_escapes_149 : decode b_H_escapes 149 = .ok (.ifCond .eq 7, 3) := by decide +kernel
theorem d_H_escapes_152 : decode b_H_escapes 152 = .ok (.iconst 1, 1) := by decide +kernel
theorem d_H_escapes_153 : decode b_H_escapes 153 = .ok (.goto 4, 3) := by decide +kernel
theorem d_H_escapes_156 : decode b_H_escapes 156 = .ok (.iconst 0, 1) := by decide +kernel
theorem d_H_escapes_157 : decode b_H_escapes 157 = .ok (.istore 13, 2) := by decide +kernel
theorem d_H_escapes_159 : decode b_H_escapes 159 = .ok (.iload 13, 2) := by decide +kernel
theorem d_H_escapes_161 : decode b_H_escapes 161 = .ok (.ifCond .eq 30, 3) := by decide +kernel
theorem d_H_escapes_164 : decode b_H_escapes 164 = .ok (.aload_n 0, 1) := by decide +kernel
theorem d_H_escapes_165 : decode b_H_escapes 165 = .ok (.iload 10, 2) := by decide +kernel
theorem d_H_escapes_167 : decode b_H_escapes 167 = .ok (.aload_n 0, 1) := by decide +kernel
theorem d_H_escapes_168 : decode b_H_escapes 168 = .ok (.iload_n 1, 1) := by decide +kernel
theorem d_H_escapes_169 : decode b_H_escapes 169 = .ok (.iload 7, 2) := by decide +kernel
theorem d_H_escapes_171 : decode b_H_escapes 171 = .ok (.iload 12, 2) := by decide +kernel
theorem d_H_escapes_173 : decode b_H_escapes 173 = .ok (.invokevirtual 137, 3) := by decide +kernel
theorem d_H_escapes_176 : decode b_H_escapes 176 = .ok (.ior, 1) := by decide +kernel
theorem d_H_escapes_177 : decode b_H_escapes 177 = .ok (.lload 8, 2) := by decide +kernel
theorem d_H_escapes_179 : decode b_H_escapes 179 = .ok (.iload 4, 2) := by decide +kernel
theorem d_H_escapes_181 : decode b_H_escapes 181 = .ok (.iconst 1, 1) := by decide +kernel
theorem d_H_escapes_182 : decode b_H_escapes 182 = .ok (.iadd, 1) := by decide +kernel
theorem d_H_escapes_183 : decode b_H_escapes 183 = .ok (.invokevirtual 96, 3) := by decide +kernel
theorem d_H_escapes_186 : decode b_H_escapes 186 = .ok (.ifCond .eq 5, 3) := by decide +kernel
theorem d_H_escapes_189 : decode b_H_escapes 189 = .ok (.iconst 1, 1) := by decide +kernel
theorem d_H_escapes_190 : decode b_H_escapes 190 = .ok (.ireturn, 1) := by decide +kernel
theorem d_H_escapes_191 : decode b_H_escapes 191 = .ok (.iinc 12 1, 3) := by decide +kernel
theorem d_H_escapes_194 : decode b_H_escapes 194 = .ok (.goto (-59), 3) := by decide +kernel
theorem d_H_escapes_197 : decode b_H_escapes 197 = .ok (.iconst 0, 1) := by decide +kernel
theorem d_H_escapes_198 : decode b_H_escapes 198 = .ok (.ireturn, 1) := by decide +kernel
theorem d_H_rowWithLeastLeft_0 : decode b_H_rowWithLeastLeft 0 = .ok (.iconst 0, 1) := by decide +kernel
theorem d_H_rowWithLeastLeft_1 : decode b_H_rowWithLeastLeft 1 = .ok (.istore 4, 2) := by decide +kernel
theorem d_H_rowWithLeastLeft_3 : decode b_H_rowWithLeastLeft 3 = .ok (.bipush 41, 2) := by decide +kernel
theorem d_H_rowWithLeastLeft_5 : decode b_H_rowWithLeastLeft 5 = .ok (.istore 5, 2) := by decide +kernel
theorem d_H_rowWithLeastLeft_7 : decode b_H_rowWithLeastLeft 7 = .ok (.iconst 0, 1) := by decide +kernel
theorem d_H_rowWithLeastLeft_8 : decode b_H_rowWithLeastLeft 8 = .ok (.istore 6, 2) := by decide +kernel
theorem d_H_rowWithLeastLeft_10 : decode b_H_rowWithLeastLeft 10 = .ok (.iload 6, 2) := by decide +kernel
theorem d_H_rowWithLeastLeft_12 : decode b_H_rowWithLeastLeft 12 = .ok (.aload_n 0, 1) := by decide +kernel
theorem d_H_rowWithLeastLeft_13 : decode b_H_rowWithLeastLeft 13 = .ok (.getfield 49, 3) := by decide +kernel
theorem d_H_rowWithLeastLeft_16 : decode b_H_rowWithLeastLeft 16 = .ok (.if_icmp .ge 51, 3) := by decide +kernel
theorem d_H_rowWithLeastLeft_19 : decode b_H_rowWithLeastLeft 19 = .ok (.aload_n 0, 1) := by decide +kernel
theorem d_H_rowWithLeastLeft_20 : decode b_H_rowWithLeastLeft 20 = .ok (.getfield 19, 3) := by decide +kernel
theorem d_H_rowWithLeastLeft_23 : decode b_H_rowWithLeastLeft 23 = .ok (.iload 6, 2) := by decide +kernel
theorem d_H_rowWithLeastLeft_25 : decode b_H_rowWithLeastLeft 25 = .ok (.laload, 1) := by decide +kernel
theorem d_H_rowWithLeastLeft_26 : decode b_H_rowWithLeastLeft 26 = .ok (.lload_n 2, 1) := by decide +kernel
theorem d_H_rowWithLeastLeft_27 : decode b_H_rowWithLeastLeft 27 = .ok (.ldc2_w 120, 3) := by decide +kernel
theorem d_H_rowWithLeastLeft_30 : decode b_H_rowWithLeastLeft 30 = .ok (.lxor, 1) := by decide +kernel
theorem d_H_rowWithLeastLeft_31 : decode b_H_rowWithLeastLeft 31 = .ok (.land, 1) := by decide +kernel
theorem d_H_rowWithLeastLeft_32 : decode b_H_rowWithLeastLeft 32 = .ok (.invokestatic 140, 3) := by decide +kernel
theorem d_H_rowWithLeastLeft_35 : decode b_H_rowWithLeastLeft 35 = .ok (.istore 7, 2) := by decide +kernel
theorem d_H_rowWithLeastLeft_37 : decode b_H_rowWithLeastLeft 37 = .ok (.iload_n 1, 1) := by decide +kernel
theorem d_H_rowWithLeastLeft_38 : decode b_H_rowWithLeastLeft 38 = .ok (.iload 6, 2) := by decide +kernel
theorem d_H_rowWithLeastLeft_40 : decode b_H_rowWithLeastLeft 40 = .ok (.ishr, 1) := by decide +kernel
theorem d_H_rowWithLeastLeft_41 : decode b_H_rowWithLeastLeft 41 = .ok (.iconst 1, 1) := by decide +kernel
theorem d_H_rowWithLeastLeft_42 : decode b_H_rowWithLeastLeft 42 = .ok (.iand, 1) := by decide +kernel
theorem d_H_rowWithLeastLeft_43 : decode b_H_rowWithLeastLeft 43 = .ok (.ifCond .eq 18, 3) := by decide +kernel
theorem d_H_rowWithLeastLeft_46 : decode b_H_rowWithLeastLeft 46 = .ok (.iload 7, 2) := by decide +kernel
theorem d_H_rowWithLeastLeft_48 : decode b_H_rowWithLeastLeft 48 = .ok (.iload 5, 2) := by decide +kernel
theorem d_H_rowWithLeastLeft_50 : decode b_H_rowWithLeastLeft 50 = .ok (.if_icmp .ge 11, 3) := by decide +kernel
theorem d_H_rowWithLeastLeft_53 : decode b_H_rowWithLeastLeft 53 = .ok (.iload 6, 2) := by decide +kernel
theorem d_H_rowWithLeastLeft_55 : decode b_H_rowWithLeastLeft 55 = .ok (.istore 4, 2) := by decide +kernel
theorem d_H_rowWithLeastLeft_57 : decode b_H_rowWithLeastLeft 57 = .ok (.iload 7, 2) := by decide +kernel
theorem d_H_rowWithLeastLeft_59 : decode b_H_rowWithLeastLeft 59 = .ok (.istore 5, 2) := by decide +kernel
theorem d_H_rowWithLeastLeft_61 : decode b_H_rowWithLeastLeft 61 = .ok (.iinc 6 1, 3) := by decide +kernel
theorem d_H_rowWithLeastLeft_64 : decode b_H_rowWithLeastLeft 64 = .ok (.goto (-54), 3) := by decide +kernel
theorem d_H_rowWithLeastLeft_67 : decode b_H_rowWithLeastLeft 67 = .ok (.iload 4, 2) := by decide +kernel
theorem d_H_rowWithLeastLeft_69 : decode b_H_rowWithLeastLeft 69 = .ok (.ireturn, 1) := by decide +kernel
theorem d_JL_bitCount_0 : decode b_JL_bitCount 0 = .ok (.lload_n 0, 1) := by decide +kernel
theorem d_JL_bitCount_1 : decode b_JL_bitCount 1 = .ok (.lload_n 0, 1) := by decide +kernel
theorem d_JL_bitCount_2 : decode b_JL_bitCount 2 = .ok (.iconst 1, 1) := by decide +kernel
theorem d_JL_bitCount_3 : decode b_JL_bitCount 3 = .ok (.lushr, 1) := by decide +kernel
theorem d_JL_bitCount_4 : decode b_JL_bitCount 4 = .ok (.ldc2_w 314, 3) := by decide +kernel
theorem d_JL_bitCount_7 : decode b_JL_bitCount 7 = .ok (.land, 1) := by decide +kernel
theorem d_JL_bitCount_8 : decode b_JL_bitCount 8 = .ok (.lsub, 1) := by decide +kernel
theorem d_JL_bitCount_9 : decode b_JL_bitCount 9 = .ok (.lstore_n 0, 1) := by decide +kernel
theorem d_JL_bitCount_10 : decode b_JL_bitCount 10 = .ok (.lload_n 0, 1) := by decide +kernel
theorem d_JL_bitCount_11 : decode b_JL_bitCount 11 = .ok (.ldc2_w 316, 3) := by decide +kernel
theorem d_JL_bitCount_14 : decode b_JL_bitCount 14 = .ok (.land, 1) := by decide +kernel
theorem d_JL_bitCount_15 : decode b_JL_bitCount 15 = .ok (.lload_n 0, 1) := by decide +kernel
theorem d_JL_bitCount_16 : decode b_JL_bitCount 16 = .ok (.iconst 2, 1) := by decide +kernel
theorem d_JL_bitCount_17 : decode b_JL_bitCount 17 = .ok (.lushr, 1) := by decide +kernel
theorem d_JL_bitCount_18 : decode b_JL_bitCount 18 = .ok (.ldc2_w 316, 3) := by decide +kernel
theorem d_JL_bitCount_21 : decode b_JL_bitCount 21 = .ok (.land, 1) := by decide +kernel
theorem d_JL_bitCount_22 : decode b_JL_bitCount 22 = .ok (.ladd, 1) := by decide +kernel
theorem d_JL_bitCount_23 : decode b_JL_bitCount 23 = .ok (.lstore_n 0, 1) := by decide +kernel
theorem d_JL_bitCount_24 : decode b_JL_bitCount 24 = .ok (.lload_n 0, 1) := by decide +kernel
theorem d_JL_bitCount_25 : decode b_JL_bitCount 25 = .ok (.lload_n 0, 1) := by decide +kernel
theorem d_JL_bitCount_26 : decode b_JL_bitCount 26 = .ok (.iconst 4, 1) := by decide +kernel
theorem d_JL_bitCount_27 : decode b_JL_bitCount 27 = .ok (.lushr, 1) := by decide +kernel
theorem d_JL_bitCount_28 : decode b_JL_bitCount 28 = .ok (.ladd, 1) := by decide +kernel
theorem d_JL_bitCount_29 : decode b_JL_bitCount 29 = .ok (.ldc2_w 318, 3) := by decide +kernel
theorem d_JL_bitCount_32 : decode b_JL_bitCount 32 = .ok (.land, 1) := by decide +kernel
theorem d_JL_bitCount_33 : decode b_JL_bitCount 33 = .ok (.lstore_n 0, 1) := by decide +kernel
theorem d_JL_bitCount_34 : decode b_JL_bitCount 34 = .ok (.lload_n 0, 1) := by decide +kernel
theorem d_JL_bitCount_35 : decode b_JL_bitCount 35 = .ok (.lload_n 0, 1) := by decide +kernel
theorem d_JL_bitCount_36 : decode b_JL_bitCount 36 = .ok (.bipush 8, 2) := by decide +kernel
theorem d_JL_bitCount_38 : decode b_JL_bitCount 38 = .ok (.lushr, 1) := by decide +kernel
theorem d_JL_bitCount_39 : decode b_JL_bitCount 39 = .ok (.ladd, 1) := by decide +kernel
theorem d_JL_bitCount_40 : decode b_JL_bitCount 40 = .ok (.lstore_n 0, 1) := by decide +kernel
theorem d_JL_bitCount_41 : decode b_JL_bitCount 41 = .ok (.lload_n 0, 1) := by decide +kernel
theorem d_JL_bitCount_42 : decode b_JL_bitCount 42 = .ok (.lload_n 0, 1) := by decide +kernel
theorem d_JL_bitCount_43 : decode b_JL_bitCount 43 = .ok (.bipush 16, 2) := by decide +kernel
theorem d_JL_bitCount_45 : decode b_JL_bitCount 45 = .ok (.lushr, 1) := by decide +kernel
theorem d_JL_bitCount_46 : decode b_JL_bitCount 46 = .ok (.ladd, 1) := by decide +kernel
theorem d_JL_bitCount_47 : decode b_JL_bitCount 47 = .ok (.lstore_n 0, 1) := by decide +kernel
theorem d_JL_bitCount_48 : decode b_JL_bitCount 48 = .ok (.lload_n 0, 1) := by decide +kernel
theorem d_JL_bitCount_49 : decode b_JL_bitCount 49 = .ok (.lload_n 0, 1) := by decide +kernel
theorem d_JL_bitCount_50 : decode b_JL_bitCount 50 = .ok (.bipush 32, 2) := by decide +kernel
theorem d_JL_bitCount_52 : decode b_JL_bitCount 52 = .ok (.lushr, 1) := by decide +kernel
theorem d_JL_bitCount_53 : decode b_JL_bitCount 53 = .ok (.ladd, 1) := by decide +kernel
theorem d_JL_bitCount_54 : decode b_JL_bitCount 54 = .ok (.lstore_n 0, 1) := by decide +kernel
theorem d_JL_bitCount_55 : decode b_JL_bitCount 55 = .ok (.lload_n 0, 1) := by decide +kernel
theorem d_JL_bitCount_56 : decode b_JL_bitCount 56 = .ok (.l2i, 1) := by decide +kernel
theorem d_JL_bitCount_57 : decode b_JL_bitCount 57 = .ok (.bipush 127, 2) := by decide +kernel
theorem d_JL_bitCount_59 : decode b_JL_bitCount 59 = .ok (.iand, 1) := by decide +kernel
theorem d_JL_bitCount_60 : decode b_JL_bitCount 60 = .ok (.ireturn, 1) := by decide +kernel
theorem d_JL_numberOfTrailingZeros_0 : decode b_JL_numberOfTrailingZeros 0 = .ok (.lload_n 0, 1) := by decide +kernel
theorem d_JL_numberOfTrailingZeros_1 : decode b_JL_numberOfTrailingZeros 1 = .ok (.l2i, 1) := by decide +kernel
theorem d_JL_numberOfTrailingZeros_2 : decode b_JL_numberOfTrailingZeros 2 = .ok (.istore_n 2, 1) := by decide +kernel
theorem d_JL_numberOfTrailingZeros_3 : decode b_JL_numberOfTrailingZeros 3 = .ok (.iload_n 2, 1) := by decide +kernel
theorem d_JL_numberOfTrailingZeros_4 : decode b_JL_numberOfTrailingZeros 4 = .ok (.ifCond .ne 17, 3) := by decide +kernel
theorem d_JL_numberOfTrailingZeros_7 : decode b_JL_numberOfTrailingZeros 7 = .ok (.bipush 32, 2) := by decide +kernel
theorem d_JL_numberOfTrailingZeros_9 : decode b_JL_numberOfTrailingZeros 9 = .ok (.lload_n 0, 1) := by decide +kernel
theorem d_JL_numberOfTrailingZeros_10 : decode b_JL_numberOfTrailingZeros 10 = .ok (.bipush 32, 2) := by decide +kernel
theorem d_JL_numberOfTrailingZeros_12 : decode b_JL_numberOfTrailingZeros 12 = .ok (.lushr, 1) := by decide +kernel
theorem d_JL_numberOfTrailingZeros_13 : decode b_JL_numberOfTrailingZeros 13 = .ok (.l2i, 1) := by decide +kernel
theorem d_JL_numberOfTrailingZeros_14 : decode b_JL_numberOfTrailingZeros 14 = .ok (.invokestatic 311, 3) := by decide +kernel
theorem d_JL_numberOfTrailingZeros_17 : decode b_JL_numberOfTrailingZeros 17 = .ok (.iadd, 1) := by decide +kernel
theorem d_JL_numberOfTrailingZeros_18 : decode b_JL_numberOfTrailingZeros 18 = .ok (.goto 7, 3) := by decide +kernel
theorem d_JL_numberOfTrailingZeros_21 : decode b_JL_numberOfTrailingZeros 21 = .ok (.iload_n 2, 1) := by decide +kernel
theorem d_JL_numberOfTrailingZeros_22 : decode b_JL_numberOfTrailingZeros 22 = .ok (.invokestatic 311, 3) := by decide +kernel
theorem d_JL_numberOfTrailingZeros_25 : decode b_JL_numberOfTrailingZeros 25 = .ok (.ireturn, 1) := by decide +kernel
theorem d_JI_numberOfTrailingZeros_0 : decode b_JI_numberOfTrailingZeros 0 = .ok (.iload_n 0, 1) := by decide +kernel
theorem d_JI_numberOfTrailingZeros_1 : decode b_JI_numberOfTrailingZeros 1 = .ok (.iconst (-1), 1) := by decide +kernel
theorem d_JI_numberOfTrailingZeros_2 : decode b_JI_numberOfTrailingZeros 2 = .ok (.ixor, 1) := by decide +kernel
theorem d_JI_numberOfTrailingZeros_3 : decode b_JI_numberOfTrailingZeros 3 = .ok (.iload_n 0, 1) := by decide +kernel
theorem d_JI_numberOfTrailingZeros_4 : decode b_JI_numberOfTrailingZeros 4 = .ok (.iconst 1, 1) := by decide +kernel
theorem d_JI_numberOfTrailingZeros_5 : decode b_JI_numberOfTrailingZeros 5 = .ok (.isub, 1) := by decide +kernel
theorem d_JI_numberOfTrailingZeros_6 : decode b_JI_numberOfTrailingZeros 6 = .ok (.iand, 1) := by decide +kernel
theorem d_JI_numberOfTrailingZeros_7 : decode b_JI_numberOfTrailingZeros 7 = .ok (.istore_n 0, 1) := by decide +kernel
theorem d_JI_numberOfTrailingZeros_8 : decode b_JI_numberOfTrailingZeros 8 = .ok (.iload_n 0, 1) := by decide +kernel
theorem d_JI_numberOfTrailingZeros_9 : decode b_JI_numberOfTrailingZeros 9 = .ok (.ifCond .gt 8, 3) := by decide +kernel
theorem d_JI_numberOfTrailingZeros_12 : decode b_JI_numberOfTrailingZeros 12 = .ok (.iload_n 0, 1) := by decide +kernel
theorem d_JI_numberOfTrailingZeros_13 : decode b_JI_numberOfTrailingZeros 13 = .ok (.bipush 32, 2) := by decide +kernel
theorem d_JI_numberOfTrailingZeros_15 : decode b_JI_numberOfTrailingZeros 15 = .ok (.iand, 1) := by decide +kernel
theorem d_JI_numberOfTrailingZeros_16 : decode b_JI_numberOfTrailingZeros 16 = .ok (.ireturn, 1) := by decide +kernel
theorem d_JI_numberOfTrailingZeros_17 : decode b_JI_numberOfTrailingZeros 17 = .ok (.iconst 1, 1) := by decide +kernel
theorem d_JI_numberOfTrailingZeros_18 : decode b_JI_numberOfTrailingZeros 18 = .ok (.istore_n 1, 1) := by decide +kernel
theorem d_JI_numberOfTrailingZeros_19 : decode b_JI_numberOfTrailingZeros 19 = .ok (.iload_n 0, 1) := by decide +kernel
theorem d_JI_numberOfTrailingZeros_20 : decode b_JI_numberOfTrailingZeros 20 = .ok (.ldc_w 264, 3) := by decide +kernel
theorem d_JI_numberOfTrailingZeros_23 : decode b_JI_numberOfTrailingZeros 23 = .ok (.if_icmp .le 11, 3) := by decide +kernel
theorem d_JI_numberOfTrailingZeros_26 : decode b_JI_numberOfTrailingZeros 26 = .ok (.iinc 1 16, 3) := by decide +kernel
theorem d_JI_numberOfTrailingZeros_29 : decode b_JI_numberOfTrailingZeros 29 = .ok (.iload_n 0, 1) := by decide +kernel
theorem d_JI_numberOfTrailingZeros_30 : decode b_JI_numberOfTrailingZeros 30 = .ok (.bipush 16, 2) := by decide +kernel
theorem d_JI_numberOfTrailingZeros_32 : decode b_JI_numberOfTrailingZeros 32 = .ok (.iushr, 1) := by decide +kernel
theorem d_JI_numberOfTrailingZeros_33 : decode b_JI_numberOfTrailingZeros 33 = .ok (.istore_n 0, 1) := by decide +kernel
theorem d_JI_numberOfTrailingZeros_34 : decode b_JI_numberOfTrailingZeros 34 = .ok (.iload_n 0, 1) := by decide +kernel
theorem d_JI_numberOfTrailingZeros_35 : decode b_JI_numberOfTrailingZeros 35 = .ok (.sipush 256, 3) := by decide +kernel
theorem d_JI_numberOfTrailingZeros_38 : decode b_JI_numberOfTrailingZeros 38 = .ok (.if_icmp .le 11, 3) := by decide +kernel
theorem d_JI_numberOfTrailingZeros_41 : decode b_JI_numberOfTrailingZeros 41 = .ok (.iinc 1 8, 3) := by decide +kernel
theorem d_JI_numberOfTrailingZeros_44 : decode b_JI_numberOfTrailingZeros 44 = .ok (.iload_n 0, 1) := by decide +kernel
theorem d_JI_numberOfTrailingZeros_45 : decode b_JI_numberOfTrailingZeros 45 = .ok (.bipush 8, 2) := by decide +kernel
theorem d_JI_numberOfTrailingZeros_47 : decode b_JI_numberOfTrailingZeros 47 = .ok (.iushr, 1) := by decide +kernel
theorem d_JI_numberOfTrailingZeros_48 : decode b_JI_numberOfTrailingZeros 48 = .ok (.istore_n 0, 1) := by decide +kernel
theorem d_JI_numberOfTrailingZeros_49 : decode b_JI_numberOfTrailingZeros 49 = .ok (.iload_n 0, 1) := by decide +kernel
theorem d_JI_numberOfTrailingZeros_50 : decode b_JI_numberOfTrailingZeros 50 = .ok (.bipush 16, 2) := by decide +kernel
theorem d_JI_numberOfTrailingZeros_52 : decode b_JI_numberOfTrailingZeros 52 = .ok (.if_icmp .le 10, 3) := by decide +kernel
theorem d_JI_numberOfTrailingZeros_55 : decode b_JI_numberOfTrailingZeros 55 = .ok (.iinc 1 4, 3) := by decide +kernel
theorem d_JI_numberOfTrailingZeros_58 : decode b_JI_numberOfTrailingZeros 58 = .ok (.iload_n 0, 1) := by decide +kernel
theorem d_JI_numberOfTrailingZeros_59 : decode b_JI_numberOfTrailingZeros 59 = .ok (.iconst 4, 1) := by decide +kernel
theorem d_JI_numberOfTrailingZeros_60 : decode b_JI_numberOfTrailingZeros 60 = .ok (.iushr, 1) := by decide +kernel
theorem d_JI_numberOfTrailingZeros_61 : decode b_JI_numberOfTrailingZeros 61 = .ok (.istore_n 0, 1) := by decide +kernel
theorem d_JI_numberOfTrailingZeros_62 : decode b_JI_numberOfTrailingZeros 62 = .ok (.iload_n 0, 1) := by decide +kernel
theorem d_JI_numberOfTrailingZeros_63 : decode b_JI_numberOfTrailingZeros 63 = .ok (.iconst 4, 1) := by decide +kernel
theorem d_JI_numberOfTrailingZeros_64 : decode b_JI_numberOfTrailingZeros 64 = .ok (.if_icmp .le 10, 3) := by decide +kernel
theorem d_JI_numberOfTrailingZeros_67 : decode b_JI_numberOfTrailingZeros 67 = .ok (.iinc 1 2, 3) := by decide +kernel
theorem d_JI_numberOfTrailingZeros_70 : decode b_JI_numberOfTrailingZeros 70 = .ok (.iload_n 0, 1) := by decide +kernel
theorem d_JI_numberOfTrailingZeros_71 : decode b_JI_numberOfTrailingZeros 71 = .ok (.iconst 2, 1) := by decide +kernel
theorem d_JI_numberOfTrailingZeros_72 : decode b_JI_numberOfTrailingZeros 72 = .ok (.iushr, 1) := by decide +kernel
theorem d_JI_numberOfTrailingZeros_73 : decode b_JI_numberOfTrailingZeros 73 = .ok (.istore_n 0, 1) := by decide +kernel
theorem d_JI_numberOfTrailingZeros_74 : decode b_JI_numberOfTrailingZeros 74 = .ok (.iload_n 1, 1) := by decide +kernel
theorem d_JI_numberOfTrailingZeros_75 : decode b_JI_numberOfTrailingZeros 75 = .ok (.iload_n 0, 1) := by decide +kernel
theorem d_JI_numberOfTrailingZeros_76 : decode b_JI_numberOfTrailingZeros 76 = .ok (.iconst 1, 1) := by decide +kernel
theorem d_JI_numberOfTrailingZeros_77 : decode b_JI_numberOfTrailingZeros 77 = .ok (.iushr, 1) := by decide +kernel
theorem d_JI_numberOfTrailingZeros_78 : decode b_JI_numberOfTrailingZeros 78 = .ok (.iadd, 1) := by decide +kernel
theorem d_JI_numberOfTrailingZeros_79 : decode b_JI_numberOfTrailingZeros 79 = .ok (.ireturn, 1) := by decide +kernel
theorem d_H_rowsSilentAt_0 : decode b_H_rowsSilentAt 0 = .ok (.iconst 0, 1) := by decide +kernel
theorem d_H_rowsSilentAt_1 : decode b_H_rowsSilentAt 1 = .ok (.istore_n 3, 1) := by decide +kernel
theorem d_H_rowsSilentAt_2 : decode b_H_rowsSilentAt 2 = .ok (.iconst 0, 1) := by decide +kernel
theorem d_H_rowsSilentAt_3 : decode b_H_rowsSilentAt 3 = .ok (.istore 4, 2) := by decide +kernel
theorem d_H_rowsSilentAt_5 : decode b_H_rowsSilentAt 5 = .ok (.iload 4, 2) := by decide +kernel
theorem d_H_rowsSilentAt_7 : decode b_H_rowsSilentAt 7 = .ok (.aload_n 0, 1) := by decide +kernel
theorem d_H_rowsSilentAt_8 : decode b_H_rowsSilentAt 8 = .ok (.getfield 49, 3) := by decide +kernel
theorem d_H_rowsSilentAt_11 : decode b_H_rowsSilentAt 11 = .ok (.if_icmp .ge 35, 3) := by decide +kernel
theorem d_H_rowsSilentAt_14 : decode b_H_rowsSilentAt 14 = .ok (.iload_n 1, 1) := by decide +kernel
theorem d_H_rowsSilentAt_15 : decode b_H_rowsSilentAt 15 = .ok (.iload 4, 2) := by decide +kernel
theorem d_H_rowsSilentAt_17 : decode b_H_rowsSilentAt 17 = .ok (.ishr, 1) := by decide +kernel
theorem d_H_rowsSilentAt_18 : decode b_H_rowsSilentAt 18 = .ok (.iconst 1, 1) := by decide +kernel
theorem d_H_rowsSilentAt_19 : decode b_H_rowsSilentAt 19 = .ok (.iand, 1) := by decide +kernel
theorem d_H_rowsSilentAt_20 : decode b_H_rowsSilentAt 20 = .ok (.ifCond .eq 20, 3) := by decide +kernel
theorem d_H_rowsSilentAt_23 : decode b_H_rowsSilentAt 23 = .ok (.aload_n 0, 1) := by decide +kernel
theorem d_H_rowsSilentAt_24 : decode b_H_rowsSilentAt 24 = .ok (.iload 4, 2) := by decide +kernel
theorem d_H_rowsSilentAt_26 : decode b_H_rowsSilentAt 26 = .ok (.iload_n 2, 1) := by decide +kernel
theorem d_H_rowsSilentAt_27 : decode b_H_rowsSilentAt 27 = .ok (.invokevirtual 106, 3) := by decide +kernel
theorem d_H_rowsSilentAt_30 : decode b_H_rowsSilentAt 30 = .ok (.ifCond .ne 10, 3) := by decide +kernel
theorem d_H_rowsSilentAt_33 : decode b_H_rowsSilentAt 33 = .ok (.iload_n 3, 1) := by decide +kernel
theorem d_H_rowsSilentAt_34 : decode b_H_rowsSilentAt 34 = .ok (.iconst 1, 1) := by decide +kernel
theorem d_H_rowsSilentAt_35 : decode b_H_rowsSilentAt 35 = .ok (.iload 4, 2) := by decide +kernel
theorem d_H_rowsSilentAt_37 : decode b_H_rowsSilentAt 37 = .ok (.ishl, 1) := by decide +kernel
theorem d_H_rowsSilentAt_38 : decode b_H_rowsSilentAt 38 = .ok (.ior, 1) := by decide +kernel
theorem d_H_rowsSilentAt_39 : decode b_H_rowsSilentAt 39 = .ok (.istore_n 3, 1) := by decide +kernel
theorem d_H_rowsSilentAt_40 : decode b_H_rowsSilentAt 40 = .ok (.iinc 4 1, 3) := by decide +kernel
theorem d_H_rowsSilentAt_43 : decode b_H_rowsSilentAt 43 = .ok (.goto (-38), 3) := by decide +kernel
theorem d_H_rowsSilentAt_46 : decode b_H_rowsSilentAt 46 = .ok (.iload_n 3, 1) := by decide +kernel
theorem d_H_rowsSilentAt_47 : decode b_H_rowsSilentAt 47 = .ok (.ireturn, 1) := by decide +kernel
theorem d_H_isAsked_0 : decode b_H_isAsked 0 = .ok (.aload_n 0, 1) := by decide +kernel
theorem d_H_isAsked_1 : decode b_H_isAsked 1 = .ok (.getfield 19, 3) := by decide +kernel
theorem d_H_isAsked_4 : decode b_H_isAsked 4 = .ok (.iload_n 1, 1) := by decide +kernel
theorem d_H_isAsked_5 : decode b_H_isAsked 5 = .ok (.laload, 1) := by decide +kernel
theorem d_H_isAsked_6 : decode b_H_isAsked 6 = .ok (.iload_n 2, 1) := by decide +kernel
theorem d_H_isAsked_7 : decode b_H_isAsked 7 = .ok (.lshr, 1) := by decide +kernel
theorem d_H_isAsked_8 : decode b_H_isAsked 8 = .ok (.lconst 1, 1) := by decide +kernel
theorem d_H_isAsked_9 : decode b_H_isAsked 9 = .ok (.land, 1) := by decide +kernel
theorem d_H_isAsked_10 : decode b_H_isAsked 10 = .ok (.lconst 0, 1) := by decide +kernel
theorem d_H_isAsked_11 : decode b_H_isAsked 11 = .ok (.lcmp, 1) := by decide +kernel
theorem d_H_isAsked_12 : decode b_H_isAsked 12 = .ok (.ifCond .eq 7, 3) := by decide +kernel
theorem d_H_isAsked_15 : decode b_H_isAsked 15 = .ok (.iconst 1, 1) := by decide +kernel
theorem d_H_isAsked_16 : decode b_H_isAsked 16 = .ok (.goto 4, 3) := by decide +kernel
theorem d_H_isAsked_19 : decode b_H_isAsked 19 = .ok (.iconst 0, 1) := by decide +kernel
theorem d_H_isAsked_20 : decode b_H_isAsked 20 = .ok (.ireturn, 1) := by decide +kernel
theorem d_S_livingConsOf_0 : decode b_S_livingConsOf 0 = .ok (.aload_n 0, 1) := by decide +kernel
theorem d_S_livingConsOf_1 : decode b_S_livingConsOf 1 = .ok (.getfield 24, 3) := by decide +kernel
theorem d_S_livingConsOf_4 : decode b_S_livingConsOf 4 = .ok (.iload_n 1, 1) := by decide +kernel
theorem d_S_livingConsOf_5 : decode b_S_livingConsOf 5 = .ok (.iaload, 1) := by decide +kernel
theorem d_S_livingConsOf_6 : decode b_S_livingConsOf 6 = .ok (.aload_n 0, 1) := by decide +kernel
theorem d_S_livingConsOf_7 : decode b_S_livingConsOf 7 = .ok (.getfield 21, 3) := by decide +kernel
theorem d_S_livingConsOf_10 : decode b_S_livingConsOf 10 = .ok (.iand, 1) := by decide +kernel
theorem d_S_livingConsOf_11 : decode b_S_livingConsOf 11 = .ok (.ireturn, 1) := by decide +kernel
theorem d_H_consAskedAt_0 : decode b_H_consAskedAt 0 = .ok (.iconst 0, 1) := by decide +kernel
theorem d_H_consAskedAt_1 : decode b_H_consAskedAt 1 = .ok (.istore_n 3, 1) := by decide +kernel
theorem d_H_consAskedAt_2 : decode b_H_consAskedAt 2 = .ok (.iconst 0, 1) := by decide +kernel
theorem d_H_consAskedAt_3 : decode b_H_consAskedAt 3 = .ok (.istore 4, 2) := by decide +kernel
theorem d_H_consAskedAt_5 : decode b_H_consAskedAt 5 = .ok (.iload 4, 2) := by decide +kernel
theorem d_H_consAskedAt_7 : decode b_H_consAskedAt 7 = .ok (.aload_n 0, 1) := by decide +kernel
theorem d_H_consAskedAt_8 : decode b_H_consAskedAt 8 = .ok (.getfield 49, 3) := by decide +kernel
theorem d_H_consAskedAt_11 : decode b_H_consAskedAt 11 = .ok (.if_icmp .ge 42, 3) := by decide +kernel
theorem d_H_consAskedAt_14 : decode b_H_consAskedAt 14 = .ok (.iload_n 1, 1) := by decide +kernel
theorem d_H_consAskedAt_15 : decode b_H_consAskedAt 15 = .ok (.iload 4, 2) := by decide +kernel
theorem d_H_consAskedAt_17 : decode b_H_consAskedAt 17 = .ok (.ishr, 1) := by decide +kernel
theorem d_H_consAskedAt_18 : decode b_H_consAskedAt 18 = .ok (.iconst 1, 1) := by decide +kernel
theorem d_H_consAskedAt_19 : decode b_H_consAskedAt 19 = .ok (.iand, 1) := by decide +kernel
theorem d_H_consAskedAt_20 : decode b_H_consAskedAt 20 = .ok (.ifCond .eq 27, 3) := by decide +kernel
theorem d_H_consAskedAt_23 : decode b_H_consAskedAt 23 = .ok (.aload_n 0, 1) := by decide +kernel
theorem d_H_consAskedAt_24 : decode b_H_consAskedAt 24 = .ok (.iload 4, 2) := by decide +kernel
theorem d_H_consAskedAt_26 : decode b_H_consAskedAt 26 = .ok (.iload_n 2, 1) := by decide +kernel
theorem d_H_consAskedAt_27 : decode b_H_consAskedAt 27 = .ok (.invokevirtual 106, 3) := by decide +kernel
theorem d_H_consAskedAt_30 : decode b_H_consAskedAt 30 = .ok (.ifCond .eq 17, 3) := by decide +kernel
theorem d_H_consAskedAt_33 : decode b_H_consAskedAt 33 = .ok (.iload_n 3, 1) := by decide +kernel
theorem d_H_consAskedAt_34 : decode b_H_consAskedAt 34 = .ok (.iconst 1, 1) := by decide +kernel
theorem d_H_consAskedAt_35 : decode b_H_consAskedAt 35 = .ok (.aload_n 0, 1) := by decide +kernel
theorem d_H_consAskedAt_36 : decode b_H_consAskedAt 36 = .ok (.getfield 25, 3) := by decide +kernel
theorem d_H_consAskedAt_39 : decode b_H_consAskedAt 39 = .ok (.iload 4, 2) := by decide +kernel
theorem d_H_consAskedAt_41 : decode b_H_consAskedAt 41 = .ok (.aaload, 1) := by decide +kernel
theorem d_H_consAskedAt_42 : decode b_H_consAskedAt 42 = .ok (.iload_n 2, 1) := by decide +kernel
theorem d_H_consAskedAt_43 : decode b_H_consAskedAt 43 = .ok (.iaload, 1) := by decide +kernel
theorem d_H_consAskedAt_44 : decode b_H_consAskedAt 44 = .ok (.ishl, 1) := by decide +kernel
theorem d_H_consAskedAt_45 : decode b_H_consAskedAt 45 = .ok (.ior, 1) := by decide +kernel
theorem d_H_consAskedAt_46 : decode b_H_consAskedAt 46 = .ok (.istore_n 3, 1) := by decide +kernel
theorem d_H_consAskedAt_47 : decode b_H_consAskedAt 47 = .ok (.iinc 4 1, 3) := by decide +kernel
theorem d_H_consAskedAt_50 : decode b_H_consAskedAt 50 = .ok (.goto (-45), 3) := by decide +kernel
theorem d_H_consAskedAt_53 : decode b_H_consAskedAt 53 = .ok (.iload_n 3, 1) := by decide +kernel
theorem d_H_consAskedAt_54 : decode b_H_consAskedAt 54 = .ok (.ireturn, 1) := by decide +kernel
theorem d_H_rowsAsking_0 : decode b_H_rowsAsking 0 = .ok (.iconst 0, 1) := by decide +kernel
theorem d_H_rowsAsking_1 : decode b_H_rowsAsking 1 = .ok (.istore 4, 2) := by decide +kernel
theorem d_H_rowsAsking_3 : decode b_H_rowsAsking 3 = .ok (.iconst 0, 1) := by decide +kernel
theorem d_H_rowsAsking_4 : decode b_H_rowsAsking 4 = .ok (.istore 5, 2) := by decide +kernel
theorem d_H_rowsAsking_6 : decode b_H_rowsAsking 6 = .ok (.iload 5, 2) := by decide +kernel
theorem d_H_rowsAsking_8 : decode b_H_rowsAsking 8 = .ok (.aload_n 0, 1) := by decide +kernel
theorem d_H_rowsAsking_9 : decode b_H_rowsAsking 9 = .ok (.getfield 49, 3) := by decide +kernel
theorem d_H_rowsAsking_12 : decode b_H_rowsAsking 12 = .ok (.if_icmp .ge 50, 3) := by decide +kernel
theorem d_H_rowsAsking_15 : decode b_H_rowsAsking 15 = .ok (.iload_n 1, 1) := by decide +kernel
theorem d_H_rowsAsking_16 : decode b_H_rowsAsking 16 = .ok (.iload 5, 2) := by decide +kernel
theorem d_H_rowsAsking_18 : decode b_H_rowsAsking 18 = .ok (.ishr, 1) := by decide +kernel
theorem d_H_rowsAsking_19 : decode b_H_rowsAsking 19 = .ok (.iconst 1, 1) := by decide +kernel
theorem d_H_rowsAsking_20 : decode b_H_rowsAsking 20 = .ok (.iand, 1) := by decide +kernel
theorem d_H_rowsAsking_21 : decode b_H_rowsAsking 21 = .ok (.ifCond .eq 35, 3) := by decide +kernel
theorem d_H_rowsAsking_24 : decode b_H_rowsAsking 24 = .ok (.aload_n 0, 1) := by decide +kernel
theorem d_H_rowsAsking_25 : decode b_H_rowsAsking 25 = .ok (.iload 5, 2) := by decide +kernel
theorem d_H_rowsAsking_27 : decode b_H_rowsAsking 27 = .ok (.iload_n 2, 1) := by decide +kernel
theorem d_H_rowsAsking_28 : decode b_H_rowsAsking 28 = .ok (.invokevirtual 106, 3) := by decide +kernel
theorem d_H_rowsAsking_31 : decode b_H_rowsAsking 31 = .ok (.ifCond .eq 25, 3) := by decide +kernel
theorem d_H_rowsAsking_34 : decode b_H_rowsAsking 34 = .ok (.aload_n 0, 1) := by decide +kernel
theorem d_H_rowsAsking_35 : decode b_H_rowsAsking 35 = .ok (.getfield 25, 3) := by decide +kernel
theorem d_H_rowsAsking_38 : decode b_H_rowsAsking 38 = .ok (.iload 5, 2) := by decide +kernel
theorem d_H_rowsAsking_40 : decode b_H_rowsAsking 40 = .ok (.aaload, 1) := by decide +kernel
theorem d_H_rowsAsking_41 : decode b_H_rowsAsking 41 = .ok (.iload_n 2, 1) := by decide +kernel
theorem d_H_rowsAsking_42 : decode b_H_rowsAsking 42 = .ok (.iaload, 1) := by decide +kernel
theorem d_H_rowsAsking_43 : decode b_H_rowsAsking 43 = .ok (.iload_n 3, 1) := by decide +kernel
theorem d_H_rowsAsking_44 : decode b_H_rowsAsking 44 = .ok (.if_icmp .ne 12, 3) := by decide +kernel
theorem d_H_rowsAsking_47 : decode b_H_rowsAsking 47 = .ok (.iload 4, 2) := by decide +kernel
theorem d_H_rowsAsking_49 : decode b_H_rowsAsking 49 = .ok (.iconst 1, 1) := by decide +kernel
theorem d_H_rowsAsking_50 : decode b_H_rowsAsking 50 = .ok (.iload 5, 2) := by decide +kernel
theorem d_H_rowsAsking_52 : decode b_H_rowsAsking 52 = .ok (.ishl, 1) := by decide +kernel
theorem d_H_rowsAsking_53 : decode b_H_rowsAsking 53 = .ok (.ior, 1) := by decide +kernel
theorem d_H_rowsAsking_54 : decode b_H_rowsAsking 54 = .ok (.istore 4, 2) := by decide +kernel
theorem d_H_rowsAsking_56 : decode b_H_rowsAsking 56 = .ok (.iinc 5 1, 3) := by decide +kernel
theorem d_H_rowsAsking_59 : decode b_H_rowsAsking 59 = .ok (.goto (-53), 3) := by decide +kernel
theorem d_H_rowsAsking_62 : decode b_H_rowsAsking 62 = .ok (.iload 4, 2) := by decide +kernel
theorem d_H_rowsAsking_64 : decode b_H_rowsAsking 64 = .ok (.ireturn, 1) := by decide +kernel
theorem d_C_count_0 : decode b_C_count 0 = .ok (.iload_n 1, 1) := by decide +kernel
theorem d_C_count_1 : decode b_C_count 1 = .ok (.tableswitch 90 0 5 #[39, 47, 55, 63, 71, 79], 39) := by decide +kernel
theorem d_C_count_40 : decode b_C_count 40 = .ok (.aload_n 0, 1) := by decide +kernel
theorem d_C_count_41 : decode b_C_count 41 = .ok (.getfield 10, 3) := by decide +kernel
theorem d_C_count_44 : decode b_C_count 44 = .ok (.getfield 35, 3) := by decide +kernel
theorem d_C_count_47 : decode b_C_count 47 = .ok (.ireturn, 1) := by decide +kernel
theorem d_C_count_48 : decode b_C_count 48 = .ok (.aload_n 0, 1) := by decide +kernel
theorem d_C_count_49 : decode b_C_count 49 = .ok (.getfield 10, 3) := by decide +kernel
theorem d_C_count_52 : decode b_C_count 52 = .ok (.getfield 61, 3) := by decide +kernel
theorem d_C_count_55 : decode b_C_count 55 = .ok (.ireturn, 1) := by decide +kernel
theorem d_C_count_56 : decode b_C_count 56 = .ok (.aload_n 0, 1) := by decide +kernel
theorem d_C_count_57 : decode b_C_count 57 = .ok (.getfield 19, 3) := by decide +kernel
theorem d_C_count_60 : decode b_C_count 60 = .ok (.getfield 148, 3) := by decide +kernel
theorem d_C_count_63 : decode b_C_count 63 = .ok (.ireturn, 1) := by decide +kernel
theorem d_C_count_64 : decode b_C_count 64 = .ok (.aload_n 0, 1) := by decide +kernel
theorem d_C_count_65 : decode b_C_count 65 = .ok (.getfield 28, 3) := by decide +kernel
theorem d_C_count_68 : decode b_C_count 68 = .ok (.getfield 114, 3) := by decide +kernel
theorem d_C_count_71 : decode b_C_count 71 = .ok (.ireturn, 1) := by decide +kernel
theorem d_C_count_72 : decode b_C_count 72 = .ok (.aload_n 0, 1) := by decide +kernel
theorem d_C_count_73 : decode b_C_count 73 = .ok (.getfield 28, 3) := by decide +kernel
theorem d_C_count_76 : decode b_C_count 76 = .ok (.invokevirtual 151, 3) := by decide +kernel
theorem d_C_count_79 : decode b_C_count 79 = .ok (.ireturn, 1) := by decide +kernel
theorem d_C_count_80 : decode b_C_count 80 = .ok (.aload_n 0, 1) := by decide +kernel
theorem d_C_count_81 : decode b_C_count 81 = .ok (.getfield 10, 3) := by decide +kernel
theorem d_C_count_84 : decode b_C_count 84 = .ok (.getfield 154, 3) := by decide +kernel
theorem d_C_count_87 : decode b_C_count 87 = .ok (.invokestatic 157, 3) := by decide +kernel
theorem d_C_count_90 : decode b_C_count 90 = .ok (.ireturn, 1) := by decide +kernel
theorem d_C_count_91 : decode b_C_count 91 = .ok (.iconst (-1), 1) := by decide +kernel
theorem d_C_count_92 : decode b_C_count 92 = .ok (.ireturn, 1) := by decide +kernel
theorem d_H_reachedRows_0 : decode b_H_reachedRows 0 = .ok (.iconst 0, 1) := by decide +kernel
theorem d_H_reachedRows_1 : decode b_H_reachedRows 1 = .ok (.istore_n 1, 1) := by decide +kernel
theorem d_H_reachedRows_2 : decode b_H_reachedRows 2 = .ok (.iconst 0, 1) := by decide +kernel
theorem d_H_reachedRows_3 : decode b_H_reachedRows 3 = .ok (.istore_n 2, 1) := by decide +kernel
theorem d_H_reachedRows_4 : decode b_H_reachedRows 4 = .ok (.iload_n 2, 1) := by decide +kernel
theorem d_H_reachedRows_5 : decode b_H_reachedRows 5 = .ok (.aload_n 0, 1) := by decide +kernel
theorem d_H_reachedRows_6 : decode b_H_reachedRows 6 = .ok (.getfield 49, 3) := by decide +kernel
theorem d_H_reachedRows_9 : decode b_H_reachedRows 9 = .ok (.if_icmp .ge 20, 3) := by decide +kernel
theorem d_H_reachedRows_12 : decode b_H_reachedRows 12 = .ok (.aload_n 0, 1) := by decide +kernel
theorem d_H_reachedRows_13 : decode b_H_reachedRows 13 = .ok (.iload_n 2, 1) := by decide +kernel
theorem d_H_reachedRows_14 : decode b_H_reachedRows 14 = .ok (.invokevirtual 103, 3) := by decide +kernel
theorem d_H_reachedRows_17 : decode b_H_reachedRows 17 = .ok (.ifCond .eq 6, 3) := by decide +kernel
theorem d_H_reachedRows_20 : decode b_H_reachedRows 20 = .ok (.iinc 1 1, 3) := by decide +kernel
theorem d_H_reachedRows_23 : decode b_H_reachedRows 23 = .ok (.iinc 2 1, 3) := by decide +kernel
theorem d_H_reachedRows_26 : decode b_H_reachedRows 26 = .ok (.goto (-22), 3) := by decide +kernel
theorem d_H_reachedRows_29 : decode b_H_reachedRows 29 = .ok (.iload_n 1, 1) := by decide +kernel
theorem d_H_reachedRows_30 : decode b_H_reachedRows 30 = .ok (.ireturn, 1) := by decide +kernel
theorem d_H_reaches_0 : decode b_H_reaches 0 = .ok (.aload_n 0, 1) := by decide +kernel
theorem d_H_reaches_1 : decode b_H_reaches 1 = .ok (.iload_n 1, 1) := by decide +kernel
theorem d_H_reaches_2 : decode b_H_reaches 2 = .ok (.invokevirtual 88, 3) := by decide +kernel
theorem d_H_reaches_5 : decode b_H_reaches 5 = .ok (.ifCond .eq 26, 3) := by decide +kernel
theorem d_H_reaches_8 : decode b_H_reaches 8 = .ok (.aload_n 0, 1) := by decide +kernel
theorem d_H_reaches_9 : decode b_H_reaches 9 = .ok (.aload_n 0, 1) := by decide +kernel
theorem d_H_reaches_10 : decode b_H_reaches 10 = .ok (.iload_n 1, 1) := by decide +kernel
theorem d_H_reaches_11 : decode b_H_reaches 11 = .ok (.invokevirtual 92, 3) := by decide +kernel
theorem d_H_reaches_14 : decode b_H_reaches 14 = .ok (.aload_n 0, 1) := by decide +kernel
theorem d_H_reaches_15 : decode b_H_reaches 15 = .ok (.getfield 19, 3) := by decide +kernel
theorem d_H_reaches_18 : decode b_H_reaches 18 = .ok (.iload_n 1, 1) := by decide +kernel
theorem d_H_reaches_19 : decode b_H_reaches 19 = .ok (.laload, 1) := by decide +kernel
theorem d_H_reaches_20 : decode b_H_reaches 20 = .ok (.iconst 0, 1) := by decide +kernel
theorem d_H_reaches_21 : decode b_H_reaches 21 = .ok (.invokevirtual 96, 3) := by decide +kernel
theorem d_H_reaches_24 : decode b_H_reaches 24 = .ok (.ifCond .eq 7, 3) := by decide +kernel
theorem d_H_reaches_27 : decode b_H_reaches 27 = .ok (.iconst 1, 1) := by decide +kernel
theorem d_H_reaches_28 : decode b_H_reaches 28 = .ok (.goto 4, 3) := by decide +kernel
theorem d_H_reaches_31 : decode b_H_reaches 31 = .ok (.iconst 0, 1) := by decide +kernel
theorem d_H_reaches_32 : decode b_H_reaches 32 = .ok (.ireturn, 1) := by decide +kernel
theorem d_H_hasValue_0 : decode b_H_hasValue 0 = .ok (.aload_n 0, 1) := by decide +kernel
theorem d_H_hasValue_1 : decode b_H_hasValue 1 = .ok (.getfield 9, 3) := by decide +kernel
theorem d_H_hasValue_4 : decode b_H_hasValue 4 = .ok (.aload_n 0, 1) := by decide +kernel
theorem d_H_hasValue_5 : decode b_H_hasValue 5 = .ok (.getfield 45, 3) := by decide +kernel
theorem d_H_hasValue_8 : decode b_H_hasValue 8 = .ok (.invokevirtual 100, 3) := by decide +kernel
theorem d_H_hasValue_11 : decode b_H_hasValue 11 = .ok (.ifCond .ne 5, 3) := by decide +kernel
theorem d_H_hasValue_14 : decode b_H_hasValue 14 = .ok (.iconst 0, 1) := by decide +kernel
theorem d_H_hasValue_15 : decode b_H_hasValue 15 = .ok (.ireturn, 1) := by decide +kernel
theorem d_H_hasValue_16 : decode b_H_hasValue 16 = .ok (.iconst 0, 1) := by decide +kernel
theorem d_H_hasValue_17 : decode b_H_hasValue 17 = .ok (.istore_n 2, 1) := by decide +kernel
theorem d_H_hasValue_18 : decode b_H_hasValue 18 = .ok (.iload_n 2, 1) := by decide +kernel
theorem d_H_hasValue_19 : decode b_H_hasValue 19 = .ok (.aload_n 0, 1) := by decide +kernel
theorem d_H_hasValue_20 : decode b_H_hasValue 20 = .ok (.getfield 52, 3) := by decide +kernel
theorem d_H_hasValue_23 : decode b_H_hasValue 23 = .ok (.if_icmp .ge 57, 3) := by decide +kernel
theorem d_H_hasValue_26 : decode b_H_hasValue 26 = .ok (.aload_n 0, 1) := by decide +kernel
theorem d_H_hasValue_27 : decode b_H_hasValue 27 = .ok (.iload_n 1, 1) := by decide +kernel
theorem d_H_hasValue_28 : decode b_H_hasValue 28 = .ok (.iload_n 2, 1) := by decide +kernel
theorem d_H_hasValue_29 : decode b_H_hasValue 29 = .ok (.invokevirtual 106, 3) := by decide +kernel
theorem d_H_hasValue_32 : decode b_H_hasValue 32 = .ok (.ifCond .eq 16, 3) := by decide +kernel
theorem d_H_hasValue_35 : decode b_H_hasValue 35 = .ok (.aload_n 0, 1) := by decide +kernel
theorem d_H_hasValue_36 : decode b_H_hasValue 36 = .ok (.getfield 28, 3) := by decide +kernel
theorem d_H_hasValue_39 : decode b_H_hasValue 39 = .ok (.iload_n 2, 1) := by decide +kernel
theorem d_H_hasValue_40 : decode b_H_hasValue 40 = .ok (.iaload, 1) := by decide +kernel
theorem d_H_hasValue_41 : decode b_H_hasValue 41 = .ok (.ifCond .eq 7, 3) := by decide +kernel
theorem d_H_hasValue_44 : decode b_H_hasValue 44 = .ok (.iconst 1, 1) := by decide +kernel
theorem d_H_hasValue_45 : decode b_H_hasValue 45 = .ok (.goto 4, 3) := by decide +kernel
theorem d_H_hasValue_48 : decode b_H_hasValue 48 = .ok (.iconst 0, 1) := by decide +kernel
theorem d_H_hasValue_49 : decode b_H_hasValue 49 = .ok (.istore_n 3, 1) := by decide +kernel
theorem d_H_hasValue_50 : decode b_H_hasValue 50 = .ok (.iload_n 3, 1) := by decide +kernel
theorem d_H_hasValue_51 : decode b_H_hasValue 51 = .ok (.ifCond .eq 23, 3) := by decide +kernel
theorem d_H_hasValue_54 : decode b_H_hasValue 54 = .ok (.aload_n 0, 1) := by decide +kernel
theorem d_H_hasValue_55 : decode b_H_hasValue 55 = .ok (.getfield 9, 3) := by decide +kernel
theorem d_H_hasValue_58 : decode b_H_hasValue 58 = .ok (.aload_n 0, 1) := by decide +kernel
theorem d_H_hasValue_59 : decode b_H_hasValue 59 = .ok (.getfield 25, 3) := by decide +kernel
theorem d_H_hasValue_62 : decode b_H_hasValue 62 = .ok (.iload_n 1, 1) := by decide +kernel
theorem d_H_hasValue_63 : decode b_H_hasValue 63 = .ok (.aaload, 1) := by decide +kernel
theorem d_H_hasValue_64 : decode b_H_hasValue 64 = .ok (.iload_n 2, 1) := by decide +kernel
theorem d_H_hasValue_65 : decode b_H_hasValue 65 = .ok (.iaload, 1) := by decide +kernel
theorem d_H_hasValue_66 : decode b_H_hasValue 66 = .ok (.invokevirtual 110, 3) := by decide +kernel
theorem d_H_hasValue_69 : decode b_H_hasValue 69 = .ok (.ifCond .ne 5, 3) := by decide +kernel
theorem d_H_hasValue_72 : decode b_H_hasValue 72 = .ok (.iconst 0, 1) := by decide +kernel
theorem d_H_hasValue_73 : decode b_H_hasValue 73 = .ok (.ireturn, 1) := by decide +kernel
theorem d_H_hasValue_74 : decode b_H_hasValue 74 = .ok (.iinc 2 1, 3) := by decide +kernel
theorem d_H_hasValue_77 : decode b_H_hasValue 77 = .ok (.goto (-59), 3) := by decide +kernel
theorem d_H_hasValue_80 : decode b_H_hasValue 80 = .ok (.iconst 1, 1) := by decide +kernel
theorem d_H_hasValue_81 : decode b_H_hasValue 81 = .ok (.ireturn, 1) := by decide +kernel
theorem d_S_isConLiving_0 : decode b_S_isConLiving 0 = .ok (.aload_n 0, 1) := by decide +kernel
theorem d_S_isConLiving_1 : decode b_S_isConLiving 1 = .ok (.getfield 21, 3) := by decide +kernel
theorem d_S_isConLiving_4 : decode b_S_isConLiving 4 = .ok (.iload_n 1, 1) := by decide +kernel
theorem d_S_isConLiving_5 : decode b_S_isConLiving 5 = .ok (.ishr, 1) := by decide +kernel
theorem d_S_isConLiving_6 : decode b_S_isConLiving 6 = .ok (.iconst 1, 1) := by decide +kernel
theorem d_S_isConLiving_7 : decode b_S_isConLiving 7 = .ok (.iand, 1) := by decide +kernel
theorem d_S_isConLiving_8 : decode b_S_isConLiving 8 = .ok (.ifCond .eq 7, 3) := by decide +kernel
theorem d_S_isConLiving_11 : decode b_S_isConLiving 11 = .ok (.iconst 1, 1) := by decide +kernel
theorem d_S_isConLiving_12 : decode b_S_isConLiving 12 = .ok (.goto 4, 3) := by decide +kernel
theorem d_S_isConLiving_15 : decode b_S_isConLiving 15 = .ok (.iconst 0, 1) := by decide +kernel
theorem d_S_isConLiving_16 : decode b_S_isConLiving 16 = .ok (.ireturn, 1) := by decide +kernel
theorem d_H_rowsBeforeThatAgree_0 : decode b_H_rowsBeforeThatAgree 0 = .ok (.iconst 0, 1) := by decide +kernel
theorem d_H_rowsBeforeThatAgree_1 : decode b_H_rowsBeforeThatAgree 1 = .ok (.istore_n 2, 1) := by decide +kernel
theorem d_H_rowsBeforeThatAgree_2 : decode b_H_rowsBeforeThatAgree 2 = .ok (.iconst 0, 1) := by decide +kernel
theorem d_H_rowsBeforeThatAgree_3 : decode b_H_rowsBeforeThatAgree 3 = .ok (.istore_n 3, 1) := by decide +kernel
theorem d_H_rowsBeforeThatAgree_4 : decode b_H_rowsBeforeThatAgree 4 = .ok (.iload_n 3, 1) := by decide +kernel
theorem d_H_rowsBeforeThatAgree_5 : decode b_H_rowsBeforeThatAgree 5 = .ok (.iload_n 1, 1) := by decide +kernel
theorem d_H_rowsBeforeThatAgree_6 : decode b_H_rowsBeforeThatAgree 6 = .ok (.if_icmp .ge 24, 3) := by decide +kernel
theorem d_H_rowsBeforeThatAgree_9 : decode b_H_rowsBeforeThatAgree 9 = .ok (.aload_n 0, 1) := by decide +kernel
theorem d_H_rowsBeforeThatAgree_10 : decode b_H_rowsBeforeThatAgree 10 = .ok (.iload_n 3, 1) := by decide +kernel
theorem d_H_rowsBeforeThatAgree_11 : decode b_H_rowsBeforeThatAgree 11 = .ok (.iload_n 1, 1) := by decide +kernel
theorem d_H_rowsBeforeThatAgree_12 : decode b_H_rowsBeforeThatAgree 12 = .ok (.invokevirtual 113, 3) := by decide +kernel
theorem d_H_rowsBeforeThatAgree_15 : decode b_H_rowsBeforeThatAgree 15 = .ok (.ifCond .eq 9, 3) := by decide +kernel
theorem d_H_rowsBeforeThatAgree_18 : decode b_H_rowsBeforeThatAgree 18 = .ok (.iload_n 2, 1) := by decide +kernel
theorem d_H_rowsBeforeThatAgree_19 : decode b_H_rowsBeforeThatAgree 19 = .ok (.iconst 1, 1) := by decide +kernel
theorem d_H_rowsBeforeThatAgree_20 : decode b_H_rowsBeforeThatAgree 20 = .ok (.iload_n 3, 1) := by decide +kernel
theorem d_H_rowsBeforeThatAgree_21 : decode b_H_rowsBeforeThatAgree 21 = .ok (.ishl, 1) := by decide +kernel
theorem d_H_rowsBeforeThatAgree_22 : decode b_H_rowsBeforeThatAgree 22 = .ok (.ior, 1) := by decide +kernel
theorem d_H_rowsBeforeThatAgree_23 : decode b_H_rowsBeforeThatAgree 23 = .ok (.istore_n 2, 1) := by decide +kernel
theorem d_H_rowsBeforeThatAgree_24 : decode b_H_rowsBeforeThatAgree 24 = .ok (.iinc 3 1, 3) := by decide +kernel
theorem d_H_rowsBeforeThatAgree_27 : decode b_H_rowsBeforeThatAgree 27 = .ok (.goto (-23), 3) := by decide +kernel
theorem d_H_rowsBeforeThatAgree_30 : decode b_H_rowsBeforeThatAgree 30 = .ok (.iload_n 2, 1) := by decide +kernel
theorem d_H_rowsBeforeThatAgree_31 : decode b_H_rowsBeforeThatAgree 31 = .ok (.ireturn, 1) := by decide +kernel
theorem d_H_agree_0 : decode b_H_agree 0 = .ok (.iconst 0, 1) := by decide +kernel
theorem d_H_agree_1 : decode b_H_agree 1 = .ok (.istore_n 3, 1) := by decide +kernel
theorem d_H_agree_2 : decode b_H_agree 2 = .ok (.iload_n 3, 1) := by decide +kernel
theorem d_H_agree_3 : decode b_H_agree 3 = .ok (.aload_n 0, 1) := by decide +kernel
theorem d_H_agree_4 : decode b_H_agree 4 = .ok (.getfield 52, 3) := by decide +kernel
theorem d_H_agree_7 : decode b_H_agree 7 = .ok (.if_icmp .ge 60, 3) := by decide +kernel
theorem d_H_agree_10 : decode b_H_agree 10 = .ok (.aload_n 0, 1) := by decide +kernel
theorem d_H_agree_11 : decode b_H_agree 11 = .ok (.iload_n 1, 1) := by decide +kernel
theorem d_H_agree_12 : decode b_H_agree 12 = .ok (.iload_n 3, 1) := by decide +kernel
theorem d_H_agree_13 : decode b_H_agree 13 = .ok (.invokevirtual 106, 3) := by decide +kernel
theorem d_H_agree_16 : decode b_H_agree 16 = .ok (.ifCond .eq 16, 3) := by decide +kernel
theorem d_H_agree_19 : decode b_H_agree 19 = .ok (.aload_n 0, 1) := by decide +kernel
theorem d_H_agree_20 : decode b_H_agree 20 = .ok (.iload_n 2, 1) := by decide +kernel
theorem d_H_agree_21 : decode b_H_agree 21 = .ok (.iload_n 3, 1) := by decide +kernel
theorem d_H_agree_22 : decode b_H_agree 22 = .ok (.invokevirtual 106, 3) := by decide +kernel
theorem d_H_agree_25 : decode b_H_agree 25 = .ok (.ifCond .eq 7, 3) := by decide +kernel
theorem d_H_agree_28 : decode b_H_agree 28 = .ok (.iconst 1, 1) := by decide +kernel
theorem d_H_agree_29 : decode b_H_agree 29 = .ok (.goto 4, 3) := by decide +kernel
theorem d_H_agree_32 : decode b_H_agree 32 = .ok (.iconst 0, 1) := by decide +kernel
theorem d_H_agree_33 : decode b_H_agree 33 = .ok (.istore 4, 2) := by decide +kernel
theorem d_H_agree_35 : decode b_H_agree 35 = .ok (.iload 4, 2) := by decide +kernel
theorem d_H_agree_37 : decode b_H_agree 37 = .ok (.ifCond .eq 24, 3) := by decide +kernel
theorem d_H_agree_40 : decode b_H_agree 40 = .ok (.aload_n 0, 1) := by decide +kernel
theorem d_H_agree_41 : decode b_H_agree 41 = .ok (.getfield 25, 3) := by decide +kernel
theorem d_H_agree_44 : decode b_H_agree 44 = .ok (.iload_n 1, 1) := by decide +kernel
theorem d_H_agree_45 : decode b_H_agree 45 = .ok (.aaload, 1) := by decide +kernel
theorem d_H_agree_46 : decode b_H_agree 46 = .ok (.iload_n 3, 1) := by decide +kernel
theorem d_H_agree_47 : decode b_H_agree 47 = .ok (.iaload, 1) := by decide +kernel
theorem d_H_agree_48 : decode b_H_agree 48 = .ok (.aload_n 0, 1) := by decide +kernel
theorem d_H_agree_49 : decode b_H_agree 49 = .ok (.getfield 25, 3) := by decide +kernel
theorem d_H_agree_52 : decode b_H_agree 52 = .ok (.iload_n 2, 1) := by decide +kernel
theorem d_H_agree_53 : decode b_H_agree 53 = .ok (.aaload, 1) := by decide +kernel
theorem d_H_agree_54 : decode b_H_agree 54 = .ok (.iload_n 3, 1) := by decide +kernel
theorem d_H_agree_55 : decode b_H_agree 55 = .ok (.iaload, 1) := by decide +kernel
theorem d_H_agree_56 : decode b_H_agree 56 = .ok (.if_icmp .eq 5, 3) := by decide +kernel
theorem d_H_agree_59 : decode b_H_agree 59 = .ok (.iconst 0, 1) := by decide +kernel
theorem d_H_agree_60 : decode b_H_agree 60 = .ok (.ireturn, 1) := by decide +kernel
theorem d_H_agree_61 : decode b_H_agree 61 = .ok (.iinc 3 1, 3) := by decide +kernel
theorem d_H_agree_64 : decode b_H_agree 64 = .ok (.goto (-62), 3) := by decide +kernel
theorem d_H_agree_67 : decode b_H_agree 67 = .ok (.iconst 1, 1) := by decide +kernel
theorem d_H_agree_68 : decode b_H_agree 68 = .ok (.ireturn, 1) := by decide +kernel
theorem d_JI_bitCount_0 : decode b_JI_bitCount 0 = .ok (.iload_n 0, 1) := by decide +kernel
theorem d_JI_bitCount_1 : decode b_JI_bitCount 1 = .ok (.iload_n 0, 1) := by decide +kernel
theorem d_JI_bitCount_2 : decode b_JI_bitCount 2 = .ok (.iconst 1, 1) := by decide +kernel
theorem d_JI_bitCount_3 : decode b_JI_bitCount 3 = .ok (.iushr, 1) := by decide +kernel
theorem d_JI_bitCount_4 : decode b_JI_bitCount 4 = .ok (.ldc_w 265, 3) := by decide +kernel
theorem d_JI_bitCount_7 : decode b_JI_bitCount 7 = .ok (.iand, 1) := by decide +kernel
theorem d_JI_bitCount_8 : decode b_JI_bitCount 8 = .ok (.isub, 1) := by decide +kernel
theorem d_JI_bitCount_9 : decode b_JI_bitCount 9 = .ok (.istore_n 0, 1) := by decide +kernel
theorem d_JI_bitCount_10 : decode b_JI_bitCount 10 = .ok (.iload_n 0, 1) := by decide +kernel
theorem d_JI_bitCount_11 : decode b_JI_bitCount 11 = .ok (.ldc_w 266, 3) := by decide +kernel
theorem d_JI_bitCount_14 : decode b_JI_bitCount 14 = .ok (.iand, 1) := by decide +kernel
theorem d_JI_bitCount_15 : decode b_JI_bitCount 15 = .ok (.iload_n 0, 1) := by decide +kernel
theorem d_JI_bitCount_16 : decode b_JI_bitCount 16 = .ok (.iconst 2, 1) := by decide +kernel
theorem d_JI_bitCount_17 : decode b_JI_bitCount 17 = .ok (.iushr, 1) := by decide +kernel
theorem d_JI_bitCount_18 : decode b_JI_bitCount 18 = .ok (.ldc_w 266, 3) := by decide +kernel
theorem d_JI_bitCount_21 : decode b_JI_bitCount 21 = .ok (.iand, 1) := by decide +kernel
theorem d_JI_bitCount_22 : decode b_JI_bitCount 22 = .ok (.iadd, 1) := by decide +kernel
theorem d_JI_bitCount_23 : decode b_JI_bitCount 23 = .ok (.istore_n 0, 1) := by decide +kernel
theorem d_JI_bitCount_24 : decode b_JI_bitCount 24 = .ok (.iload_n 0, 1) := by decide +kernel
theorem d_JI_bitCount_25 : decode b_JI_bitCount 25 = .ok (.iload_n 0, 1) := by decide +kernel
theorem d_JI_bitCount_26 : decode b_JI_bitCount 26 = .ok (.iconst 4, 1) := by decide +kernel
theorem d_JI_bitCount_27 : decode b_JI_bitCount 27 = .ok (.iushr, 1) := by decide +kernel
theorem d_JI_bitCount_28 : decode b_JI_bitCount 28 = .ok (.iadd, 1) := by decide +kernel
theorem d_JI_bitCount_29 : decode b_JI_bitCount 29 = .ok (.ldc_w 267, 3) := by decide +kernel
theorem d_JI_bitCount_32 : decode b_JI_bitCount 32 = .ok (.iand, 1) := by decide +kernel
theorem d_JI_bitCount_33 : decode b_JI_bitCount 33 = .ok (.istore_n 0, 1) := by decide +kernel
theorem d_JI_bitCount_34 : decode b_JI_bitCount 34 = .ok (.iload_n 0, 1) := by decide +kernel
theorem d_JI_bitCount_35 : decode b_JI_bitCount 35 = .ok (.iload_n 0, 1) := by decide +kernel
theorem d_JI_bitCount_36 : decode b_JI_bitCount 36 = .ok (.bipush 8, 2) := by decide +kernel
theorem d_JI_bitCount_38 : decode b_JI_bitCount 38 = .ok (.iushr, 1) := by decide +kernel
theorem d_JI_bitCount_39 : decode b_JI_bitCount 39 = .ok (.iadd, 1) := by decide +kernel
theorem d_JI_bitCount_40 : decode b_JI_bitCount 40 = .ok (.istore_n 0, 1) := by decide +kernel
theorem d_JI_bitCount_41 : decode b_JI_bitCount 41 = .ok (.iload_n 0, 1) := by decide +kernel
theorem d_JI_bitCount_42 : decode b_JI_bitCount 42 = .ok (.iload_n 0, 1) := by decide +kernel
theorem d_JI_bitCount_43 : decode b_JI_bitCount 43 = .ok (.bipush 16, 2) := by decide +kernel
theorem d_JI_bitCount_45 : decode b_JI_bitCount 45 = .ok (.iushr, 1) := by decide +kernel
theorem d_JI_bitCount_46 : decode b_JI_bitCount 46 = .ok (.iadd, 1) := by decide +kernel
theorem d_JI_bitCount_47 : decode b_JI_bitCount 47 = .ok (.istore_n 0, 1) := by decide +kernel
theorem d_JI_bitCount_48 : decode b_JI_bitCount 48 = .ok (.iload_n 0, 1) := by decide +kernel
theorem d_JI_bitCount_49 : decode b_JI_bitCount 49 = .ok (.bipush 63, 2) := by decide +kernel
theorem d_JI_bitCount_51 : decode b_JI_bitCount 51 = .ok (.iand, 1) := by decide +kernel
theorem d_JI_bitCount_52 : decode b_JI_bitCount 52 = .ok (.ireturn, 1) := by decide +kernel
theorem d_L_sort_0 : decode b_L_sort 0 = .ok (.aload_n 1, 1) := by decide +kernel
theorem d_L_sort_1 : decode b_L_sort 1 = .ok (.iconst 0, 1) := by decide +kernel
theorem d_L_sort_2 : decode b_L_sort 2 = .ok (.aload_n 0, 1) := by decide +kernel
theorem d_L_sort_3 : decode b_L_sort 3 = .ok (.invokevirtual 7, 3) := by decide +kernel
theorem d_L_sort_6 : decode b_L_sort 6 = .ok (.i2l, 1) := by decide +kernel
theorem d_L_sort_7 : decode b_L_sort 7 = .ok (.lastore, 1) := by decide +kernel
theorem d_L_sort_8 : decode b_L_sort 8 = .ok (.goto 6, 3) := by decide +kernel
theorem d_L_sort_11 : decode b_L_sort 11 = .ok (.astore_n 2, 1) := by decide +kernel
theorem d_L_sort_12 : decode b_L_sort 12 = .ok (.iconst 1, 1) := by decide +kernel
theorem d_L_sort_13 : decode b_L_sort 13 = .ok (.ireturn, 1) := by decide +kernel
theorem d_L_sort_14 : decode b_L_sort 14 = .ok (.iconst 0, 1) := by decide +kernel
theorem d_L_sort_15 : decode b_L_sort 15 = .ok (.ireturn, 1) := by decide +kernel
theorem d_C_sort_0 : decode b_C_sort 0 = .ok (.aload_n 0, 1) := by decide +kernel
theorem d_C_sort_1 : decode b_C_sort 1 = .ok (.getfield 10, 3) := by decide +kernel
theorem d_C_sort_4 : decode b_C_sort 4 = .ok (.getfield 35, 3) := by decide +kernel
theorem d_C_sort_7 : decode b_C_sort 7 = .ok (.bipush 12, 2) := by decide +kernel
theorem d_C_sort_9 : decode b_C_sort 9 = .ok (.if_icmp .lt 13, 3) := by decide +kernel
theorem d_C_sort_12 : decode b_C_sort 12 = .ok (.new 39, 3) := by decide +kernel
theorem d_C_sort_15 : decode b_C_sort 15 = .ok (.dup, 1) := by decide +kernel
theorem d_C_sort_16 : decode b_C_sort 16 = .ok (.ldc 41, 2) := by decide +kernel
theorem d_C_sort_18 : decode b_C_sort 18 = .ok (.invokespecial 43, 3) := by decide +kernel
theorem d_C_sort_21 : decode b_C_sort 21 = .ok (.athrow, 1) := by decide +kernel
theorem d_C_sort_22 : decode b_C_sort 22 = .ok (.aload_n 0, 1) := by decide +kernel
theorem d_C_sort_23 : decode b_C_sort 23 = .ok (.getfield 10, 3) := by decide +kernel
theorem d_C_sort_26 : decode b_C_sort 26 = .ok (.invokevirtual 46, 3) := by decide +kernel
theorem d_C_sort_29 : decode b_C_sort 29 = .ok (.ireturn, 1) := by decide +kernel
theorem d_S_addSort_0 : decode b_S_addSort 0 = .ok (.aload_n 0, 1) := by decide +kernel
theorem d_S_addSort_1 : decode b_S_addSort 1 = .ok (.getfield 9, 3) := by decide +kernel
theorem d_S_addSort_4 : decode b_S_addSort 4 = .ok (.istore_n 1, 1) := by decide +kernel
theorem d_S_addSort_5 : decode b_S_addSort 5 = .ok (.aload_n 0, 1) := by decide +kernel
theorem d_S_addSort_6 : decode b_S_addSort 6 = .ok (.dup, 1) := by decide +kernel
theorem d_S_addSort_7 : decode b_S_addSort 7 = .ok (.getfield 9, 3) := by decide +kernel
theorem d_S_addSort_10 : decode b_S_addSort 10 = .ok (.iconst 1, 1) := by decide +kernel
theorem d_S_addSort_11 : decode b_S_addSort 11 = .ok (.iadd, 1) := by decide +kernel
theorem d_S_addSort_12 : decode b_S_addSort 12 = .ok (.putfield 9, 3) := by decide +kernel
theorem d_S_addSort_15 : decode b_S_addSort 15 = .ok (.iload_n 1, 1) := by decide +kernel
theorem d_S_addSort_16 : decode b_S_addSort 16 = .ok (.ireturn, 1) := by decide +kernel
theorem d_L_con_0 : decode b_L_con 0 = .ok (.aload 5, 2) := by decide +kernel
theorem d_L_con_2 : decode b_L_con 2 = .ok (.iconst 0, 1) := by decide +kernel
theorem d_L_con_3 : decode b_L_con 3 = .ok (.aload_n 0, 1) := by decide +kernel
theorem d_L_con_4 : decode b_L_con 4 = .ok (.iload_n 1, 1) := by decide +kernel
theorem d_L_con_5 : decode b_L_con 5 = .ok (.iload_n 2, 1) := by decide +kernel
theorem d_L_con_6 : decode b_L_con 6 = .ok (.iload_n 3, 1) := by decide +kernel
theorem d_L_con_7 : decode b_L_con 7 = .ok (.iload 4, 2) := by decide +kernel
theorem d_L_con_9 : decode b_L_con 9 = .ok (.invokevirtual 15, 3) := by decide +kernel
theorem d_L_con_12 : decode b_L_con 12 = .ok (.i2l, 1) := by decide +kernel
theorem d_L_con_13 : decode b_L_con 13 = .ok (.lastore, 1) := by decide +kernel
theorem d_L_con_14 : decode b_L_con 14 = .ok (.goto 11, 3) := by decide +kernel
theorem d_L_con_17 : decode b_L_con 17 = .ok (.astore 6, 2) := by decide +kernel
theorem d_L_con_19 : decode b_L_con 19 = .ok (.iconst 1, 1) := by decide +kernel
theorem d_L_con_20 : decode b_L_con 20 = .ok (.ireturn, 1) := by decide +kernel
theorem d_L_con_21 : decode b_L_con 21 = .ok (.astore 6, 2) := by decide +kernel
theorem d_L_con_23 : decode b_L_con 23 = .ok (.iconst 2, 1) := by decide +kernel
theorem d_L_con_24 : decode b_L_con 24 = .ok (.ireturn, 1) := by decide +kernel
theorem d_L_con_25 : decode b_L_con 25 = .ok (.iconst 0, 1) := by decide +kernel
theorem d_L_con_26 : decode b_L_con 26 = .ok (.ireturn, 1) := by decide +kernel
theorem d_C_con_0 : decode b_C_con 0 = .ok (.aload_n 0, 1) := by decide +kernel
theorem d_C_con_1 : decode b_C_con 1 = .ok (.iload_n 1, 1) := by decide +kernel
theorem d_C_con_2 : decode b_C_con 2 = .ok (.invokevirtual 50, 3) := by decide +kernel
theorem d_C_con_5 : decode b_C_con 5 = .ok (.iload_n 1, 1) := by decide +kernel
theorem d_C_con_6 : decode b_C_con 6 = .ok (.ifCond .ne 13, 3) := by decide +kernel
theorem d_C_con_9 : decode b_C_con 9 = .ok (.new 54, 3) := by decide +kernel
theorem d_C_con_12 : decode b_C_con 12 = .ok (.dup, 1) := by decide +kernel
theorem d_C_con_13 : decode b_C_con 13 = .ok (.ldc 56, 2) := by decide +kernel
theorem d_C_con_15 : decode b_C_con 15 = .ok (.invokespecial 58, 3) := by decide +kernel
theorem d_C_con_18 : decode b_C_con 18 = .ok (.athrow, 1) := by decide +kernel
theorem d_C_con_19 : decode b_C_con 19 = .ok (.iload_n 2, 1) := by decide +kernel
theorem d_C_con_20 : decode b_C_con 20 = .ok (.ifCond .lt 8, 3) := by decide +kernel
theorem d_C_con_23 : decode b_C_con 23 = .ok (.iload_n 2, 1) := by decide +kernel
theorem d_C_con_24 : decode b_C_con 24 = .ok (.iconst 2, 1) := by decide +kernel
theorem d_C_con_25 : decode b_C_con 25 = .ok (.if_icmp .le 13, 3) := by decide +kernel
theorem d_C_con_28 : decode b_C_con 28 = .ok (.new 54, 3) := by decide +kernel
theorem d_C_con_31 : decode b_C_con 31 = .ok (.dup, 1) := by decide +kernel
theorem d_C_con_32 : decode b_C_con 32 = .ok (.ldc 59, 2) := by decide +kernel
theorem d_C_con_34 : decode b_C_con 34 = .ok (.invokespecial 58, 3) := by decide +kernel
theorem d_C_con_37 : decode b_C_con 37 = .ok (.athrow, 1) := by decide +kernel
theorem d_C_con_38 : decode b_C_con 38 = .ok (.iload_n 2, 1) := by decide +kernel
theorem d_C_con_39 : decode b_C_con 39 = .ok (.ifCond .le 8, 3) := by decide +kernel
theorem d_C_con_42 : decode b_C_con 42 = .ok (.aload_n 0, 1) := by decide +kernel
theorem d_C_con_43 : decode b_C_con 43 = .ok (.iload_n 3, 1) := by decide +kernel
theorem d_C_con_44 : decode b_C_con 44 = .ok (.invokevirtual 50, 3) := by decide +kernel
theorem d_C_con_47 : decode b_C_con 47 = .ok (.iload_n 2, 1) := by decide +kernel
theorem d_C_con_48 : decode b_C_con 48 = .ok (.iconst 1, 1) := by decide +kernel
theorem d_C_con_49 : decode b_C_con 49 = .ok (.if_icmp .le 9, 3) := by decide +kernel
theorem d_C_con_52 : decode b_C_con 52 = .ok (.aload_n 0, 1) := by decide +kernel
theorem d_C_con_53 : decode b_C_con 53 = .ok (.iload 4, 2) := by decide +kernel
theorem d_C_con_55 : decode b_C_con 55 = .ok (.invokevirtual 50, 3) := by decide +kernel
theorem d_C_con_58 : decode b_C_con 58 = .ok (.aload_n 0, 1) := by decide +kernel
theorem d_C_con_59 : decode b_C_con 59 = .ok (.getfield 10, 3) := by decide +kernel
theorem d_C_con_62 : decode b_C_con 62 = .ok (.getfield 61, 3) := by decide +kernel
theorem d_C_con_65 : decode b_C_con 65 = .ok (.bipush 30, 2) := by decide +kernel
theorem d_C_con_67 : decode b_C_con 67 = .ok (.if_icmp .lt 13, 3) := by decide +kernel
theorem d_C_con_70 : decode b_C_con 70 = .ok (.new 39, 3) := by decide +kernel
theorem d_C_con_73 : decode b_C_con 73 = .ok (.dup, 1) := by decide +kernel
theorem d_C_con_74 : decode b_C_con 74 = .ok (.ldc 64, 2) := by decide +kernel
theorem d_C_con_76 : decode b_C_con 76 = .ok (.invokespecial 43, 3) := by decide +kernel
theorem d_C_con_79 : decode b_C_con 79 = .ok (.athrow, 1) := by decide +kernel
theorem d_C_con_80 : decode b_C_con 80 = .ok (.aload_n 0, 1) := by decide +kernel
theorem d_C_con_81 : decode b_C_con 81 = .ok (.getfield 10, 3) := by decide +kernel
theorem d_C_con_84 : decode b_C_con 84 = .ok (.iload_n 1, 1) := by decide +kernel
theorem d_C_con_85 : decode b_C_con 85 = .ok (.iload_n 2, 1) := by decide +kernel
theorem d_C_con_86 : decode b_C_con 86 = .ok (.iload_n 3, 1) := by decide +kernel
theorem d_C_con_87 : decode b_C_con 87 = .ok (.iload 4, 2) := by decide +kernel
theorem d_C_con_89 : decode b_C_con 89 = .ok (.invokevirtual 66, 3) := by decide +kernel
theorem d_C_con_92 : decode b_C_con 92 = .ok (.ireturn, 1) := by decide +kernel
theorem d_C_needSort_0 : decode b_C_needSort 0 = .ok (.aload_n 0, 1) := by decide +kernel
theorem d_C_needSort_1 : decode b_C_needSort 1 = .ok (.getfield 10, 3) := by decide +kernel
theorem d_C_needSort_4 : decode b_C_needSort 4 = .ok (.iload_n 1, 1) := by decide +kernel
theorem d_C_needSort_5 : decode b_C_needSort 5 = .ok (.invokevirtual 162, 3) := by decide +kernel
theorem d_C_needSort_8 : decode b_C_needSort 8 = .ok (.ifCond .ne 13, 3) := by decide +kernel
theorem d_C_needSort_11 : decode b_C_needSort 11 = .ok (.new 54, 3) := by decide +kernel
theorem d_C_needSort_14 : decode b_C_needSort 14 = .ok (.dup, 1) := by decide +kernel
theorem d_C_needSort_15 : decode b_C_needSort 15 = .ok (.ldc 165, 2) := by decide +kernel
theorem d_C_needSort_17 : decode b_C_needSort 17 = .ok (.invokespecial 58, 3) := by decide +kernel
theorem d_C_needSort_20 : decode b_C_needSort 20 = .ok (.athrow, 1) := by decide +kernel
theorem d_C_needSort_21 : decode b_C_needSort 21 = .ok (.return_, 1) := by decide +kernel
theorem d_S_hasSort_0 : decode b_S_hasSort 0 = .ok (.iload_n 1, 1) := by decide +kernel
theorem d_S_hasSort_1 : decode b_S_hasSort 1 = .ok (.ifCond .lt 15, 3) := by decide +kernel
theorem d_S_hasSort_4 : decode b_S_hasSort 4 = .ok (.iload_n 1, 1) := by decide +kernel
theorem d_S_hasSort_5 : decode b_S_hasSort 5 = .ok (.aload_n 0, 1) := by decide +kernel
theorem d_S_hasSort_6 : decode b_S_hasSort 6 = .ok (.getfield 9, 3) := by decide +kernel
theorem d_S_hasSort_9 : decode b_S_hasSort 9 = .ok (.if_icmp .ge 7, 3) := by decide +kernel
theorem d_S_hasSort_12 : decode b_S_hasSort 12 = .ok (.iconst 1, 1) := by decide +kernel
theorem d_S_hasSort_13 : decode b_S_hasSort 13 = .ok (.goto 4, 3) := by decide +kernel
theorem d_S_hasSort_16 : decode b_S_hasSort 16 = .ok (.iconst 0, 1) := by decide +kernel
theorem d_S_hasSort_17 : decode b_S_hasSort 17 = .ok (.ireturn, 1) := by decide +kernel
theorem d_S_addCon_0 : decode b_S_addCon 0 = .ok (.aload_n 0, 1) := by decide +kernel
theorem d_S_addCon_1 : decode b_S_addCon 1 = .ok (.getfield 15, 3) := by decide +kernel
theorem d_S_addCon_4 : decode b_S_addCon 4 = .ok (.istore 5, 2) := by decide +kernel
theorem d_S_addCon_6 : decode b_S_addCon 6 = .ok (.aload_n 0, 1) := by decide +kernel
theorem d_S_addCon_7 : decode b_S_addCon 7 = .ok (.getfield 28, 3) := by decide +kernel
theorem d_S_addCon_10 : decode b_S_addCon 10 = .ok (.iload 5, 2) := by decide +kernel
theorem d_S_addCon_12 : decode b_S_addCon 12 = .ok (.iload_n 1, 1) := by decide +kernel
theorem d_S_addCon_13 : decode b_S_addCon 13 = .ok (.iastore, 1) := by decide +kernel
theorem d_S_addCon_14 : decode b_S_addCon 14 = .ok (.aload_n 0, 1) := by decide +kernel
theorem d_S_addCon_15 : decode b_S_addCon 15 = .ok (.getfield 31, 3) := by decide +kernel
theorem d_S_addCon_18 : decode b_S_addCon 18 = .ok (.iload 5, 2) := by decide +kernel
theorem d_S_addCon_20 : decode b_S_addCon 20 = .ok (.iload_n 2, 1) := by decide +kernel
theorem d_S_addCon_21 : decode b_S_addCon 21 = .ok (.iastore, 1) := by decide +kernel
theorem d_S_addCon_22 : decode b_S_addCon 22 = .ok (.aload_n 0, 1) := by decide +kernel
theorem d_S_addCon_23 : decode b_S_addCon 23 = .ok (.getfield 34, 3) := by decide +kernel
theorem d_S_addCon_26 : decode b_S_addCon 26 = .ok (.iload 5, 2) := by decide +kernel
theorem d_S_addCon_28 : decode b_S_addCon 28 = .ok (.iload_n 3, 1) := by decide +kernel
theorem d_S_addCon_29 : decode b_S_addCon 29 = .ok (.iastore, 1) := by decide +kernel
theorem d_S_addCon_30 : decode b_S_addCon 30 = .ok (.aload_n 0, 1) := by decide +kernel
theorem d_S_addCon_31 : decode b_S_addCon 31 = .ok (.getfield 37, 3) := by decide +kernel
theorem d_S_addCon_34 : decode b_S_addCon 34 = .ok (.iload 5, 2) := by decide +kernel
theorem d_S_addCon_36 : decode b_S_addCon 36 = .ok (.iload 4, 2) := by decide +kernel
theorem d_S_addCon_38 : decode b_S_addCon 38 = .ok (.iastore, 1) := by decide +kernel
theorem d_S_addCon_39 : decode b_S_addCon 39 = .ok (.aload_n 0, 1) := by decide +kernel
theorem d_S_addCon_40 : decode b_S_addCon 40 = .ok (.getfield 24, 3) := by decide +kernel
theorem d_S_addCon_43 : decode b_S_addCon 43 = .ok (.iload_n 1, 1) := by decide +kernel
theorem d_S_addCon_44 : decode b_S_addCon 44 = .ok (.dup2, 1) := by decide +kernel
theorem d_S_addCon_45 : decode b_S_addCon 45 = .ok (.iaload, 1) := by decide +kernel
theorem d_S_addCon_46 : decode b_S_addCon 46 = .ok (.iconst 1, 1) := by decide +kernel
theorem d_S_addCon_47 : decode b_S_addCon 47 = .ok (.iload 5, 2) := by decide +kernel
theorem d_S_addCon_49 : decode b_S_addCon 49 = .ok (.ishl, 1) := by decide +kernel
theorem d_S_addCon_50 : decode b_S_addCon 50 = .ok (.ior, 1) := by decide +kernel
theorem d_S_addCon_51 : decode b_S_addCon 51 = .ok (.iastore, 1) := by decide +kernel
theorem d_S_addCon_52 : decode b_S_addCon 52 = .ok (.aload_n 0, 1) := by decide +kernel
theorem d_S_addCon_53 : decode b_S_addCon 53 = .ok (.dup, 1) := by decide +kernel
theorem d_S_addCon_54 : decode b_S_addCon 54 = .ok (.getfield 15, 3) := by decide +kernel
theorem d_S_addCon_57 : decode b_S_addCon 57 = .ok (.iconst 1, 1) := by decide +kernel
theorem d_S_addCon_58 : decode b_S_addCon 58 = .ok (.iadd, 1) := by decide +kernel
theorem d_S_addCon_59 : decode b_S_addCon 59 = .ok (.putfield 15, 3) := by decide +kernel
theorem d_S_addCon_62 : decode b_S_addCon 62 = .ok (.aload_n 0, 1) := by decide +kernel
theorem d_S_addCon_63 : decode b_S_addCon 63 = .ok (.invokevirtual 40, 3) := by decide +kernel
theorem d_S_addCon_66 : decode b_S_addCon 66 = .ok (.iload 5, 2) := by decide +kernel
theorem d_S_addCon_68 : decode b_S_addCon 68 = .ok (.ireturn, 1) := by decide +kernel
theorem d_S_findLiving_0 : decode b_S_findLiving 0 = .ok (.aload_n 0, 1) := by decide +kernel
theorem d_S_findLiving_1 : decode b_S_findLiving 1 = .ok (.iconst 1, 1) := by decide +kernel
theorem d_S_findLiving_2 : decode b_S_findLiving 2 = .ok (.aload_n 0, 1) := by decide +kernel
theorem d_S_findLiving_3 : decode b_S_findLiving 3 = .ok (.getfield 9, 3) := by decide +kernel
theorem d_S_findLiving_6 : decode b_S_findLiving 6 = .ok (.ishl, 1) := by decide +kernel
theorem d_S_findLiving_7 : decode b_S_findLiving 7 = .ok (.iconst 1, 1) := by decide +kernel
theorem d_S_findLiving_8 : decode b_S_findLiving 8 = .ok (.isub, 1) := by decide +kernel
theorem d_S_findLiving_9 : decode b_S_findLiving 9 = .ok (.putfield 18, 3) := by decide +kernel
theorem d_S_findLiving_12 : decode b_S_findLiving 12 = .ok (.iconst 0, 1) := by decide +kernel
theorem d_S_findLiving_13 : decode b_S_findLiving 13 = .ok (.istore_n 1, 1) := by decide +kernel
theorem d_S_findLiving_14 : decode b_S_findLiving 14 = .ok (.iload_n 1, 1) := by decide +kernel
theorem d_S_findLiving_15 : decode b_S_findLiving 15 = .ok (.aload_n 0, 1) := by decide +kernel
theorem d_S_findLiving_16 : decode b_S_findLiving 16 = .ok (.getfield 9, 3) := by decide +kernel
theorem d_S_findLiving_19 : decode b_S_findLiving 19 = .ok (.if_icmp .ge 25, 3) := by decide +kernel
theorem d_S_findLiving_22 : decode b_S_findLiving 22 = .ok (.aload_n 0, 1) := by decide +kernel
theorem d_S_findLiving_23 : decode b_S_findLiving 23 = .ok (.aload_n 0, 1) := by decide +kernel
theorem d_S_findLiving_24 : decode b_S_findLiving 24 = .ok (.invokevirtual 43, 3) := by decide +kernel
theorem d_S_findLiving_27 : decode b_S_findLiving 27 = .ok (.putfield 21, 3) := by decide +kernel
theorem d_S_findLiving_30 : decode b_S_findLiving 30 = .ok (.aload_n 0, 1) := by decide +kernel
theorem d_S_findLiving_31 : decode b_S_findLiving 31 = .ok (.aload_n 0, 1) := by decide +kernel
theorem d_S_findLiving_32 : decode b_S_findLiving 32 = .ok (.invokevirtual 47, 3) := by decide +kernel
theorem d_S_findLiving_35 : decode b_S_findLiving 35 = .ok (.putfield 18, 3) := by decide +kernel
theorem d_S_findLiving_38 : decode b_S_findLiving 38 = .ok (.iinc 1 1, 3) := by decide +kernel
theorem d_S_findLiving_41 : decode b_S_findLiving 41 = .ok (.goto (-27), 3) := by decide +kernel
theorem d_S_findLiving_44 : decode b_S_findLiving 44 = .ok (.return_, 1) := by decide +kernel
theorem d_S_consWithLivingParts_0 : decode b_S_consWithLivingParts 0 = .ok (.iconst 0, 1) := by decide +kernel
theorem d_S_consWithLivingParts_1 : decode b_S_consWithLivingParts 1 = .ok (.istore_n 1, 1) := by decide +kernel
theorem d_S_consWithLivingParts_2 : decode b_S_consWithLivingParts 2 = .ok (.iconst 0, 1) := by decide +kernel
theorem d_S_consWithLivingParts_3 : decode b_S_consWithLivingParts 3 = .ok (.istore_n 2, 1) := by decide +kernel
theorem d_S_consWithLivingParts_4 : decode b_S_consWithLivingParts 4 = .ok (.iload_n 2, 1) := by decide +kernel
theorem d_S_consWithLivingParts_5 : decode b_S_consWithLivingParts 5 = .ok (.aload_n 0, 1) := by decide +kernel
theorem d_S_consWithLivingParts_6 : decode b_S_consWithLivingParts 6 = .ok (.getfield 15, 3) := by decide +kernel
theorem d_S_consWithLivingParts_9 : decode b_S_consWithLivingParts 9 = .ok (.if_icmp .ge 65, 3) := by decide +kernel
theorem d_S_consWithLivingParts_12 : decode b_S_consWithLivingParts 12 = .ok (.iconst 1, 1) := by decide +kernel
theorem d_S_consWithLivingParts_13 : decode b_S_consWithLivingParts 13 = .ok (.istore_n 3, 1) := by decide +kernel
theorem d_S_consWithLivingParts_14 : decode b_S_consWithLivingParts 14 = .ok (.iconst 0, 1) := by decide +kernel
theorem d_S_consWithLivingParts_15 : decode b_S_consWithLivingParts 15 = .ok (.istore 4, 2) := by decide +kernel
theorem d_S_consWithLivingParts_17 : decode b_S_consWithLivingParts 17 = .ok (.iload 4, 2) := by decide +kernel
theorem d_S_consWithLivingParts_19 : decode b_S_consWithLivingParts 19 = .ok (.aload_n 0, 1) := by decide +kernel
theorem d_S_consWithLivingParts_20 : decode b_S_consWithLivingParts 20 = .ok (.getfield 31, 3) := by decide +kernel
theorem d_S_consWithLivingParts_23 : decode b_S_consWithLivingParts 23 = .ok (.iload_n 2, 1) := by decide +kernel
theorem d_S_consWithLivingParts_24 : decode b_S_consWithLivingParts 24 = .ok (.iaload, 1) := by decide +kernel
theorem d_S_consWithLivingParts_25 : decode b_S_consWithLivingParts 25 = .ok (.if_icmp .ge 33, 3) := by decide +kernel
theorem d_S_consWithLivingParts_28 : decode b_S_consWithLivingParts 28 = .ok (.iload_n 3, 1) := by decide +kernel
theorem d_S_consWithLivingParts_29 : decode b_S_consWithLivingParts 29 = .ok (.ifCond .eq 21, 3) := by decide +kernel
theorem d_S_consWithLivingParts_32 : decode b_S_consWithLivingParts 32 = .ok (.aload_n 0, 1) := by decide +kernel
theorem d_S_consWithLivingParts_33 : decode b_S_consWithLivingParts 33 = .ok (.aload_n 0, 1) := by decide +kernel
theorem d_S_consWithLivingParts_34 : decode b_S_consWithLivingParts 34 = .ok (.iload_n 2, 1) := by decide +kernel
theorem d_S_consWithLivingParts_35 : decode b_S_consWithLivingParts 35 = .ok (.iload 4, 2) := by decide +kernel
theorem d_S_consWithLivingParts_37 : decode b_S_consWithLivingParts 37 = .ok (.invokevirtual 50, 3) := by decide +kernel
theorem d_S_consWithLivingParts_40 : decode b_S_consWithLivingParts 40 = .ok (.invokevirtual 54, 3) := by decide +kernel
theorem d_S_consWithLivingParts_43 : decode b_S_consWithLivingParts 43 = .ok (.ifCond .eq 7, 3) := by decide +kernel
theorem d_S_consWithLivingParts_46 : decode b_S_consWithLivingParts 46 = .ok (.iconst 1, 1) := by decide +kernel
theorem d_S_consWithLivingParts_47 : decode b_S_consWithLivingParts 47 = .ok (.goto 4, 3) := by decide +kernel
theorem d_S_consWithLivingParts_50 : decode b_S_consWithLivingParts 50 = .ok (.iconst 0, 1) := by decide +kernel
theorem d_S_consWithLivingParts_51 : decode b_S_consWithLivingParts 51 = .ok (.istore_n 3, 1) := by decide +kernel
theorem d_S_consWithLivingParts_52 : decode b_S_consWithLivingParts 52 = .ok (.iinc 4 1, 3) := by decide +kernel
theorem d_S_consWithLivingParts_55 : decode b_S_consWithLivingParts 55 = .ok (.goto (-38), 3) := by decide +kernel
theorem d_S_consWithLivingParts_58 : decode b_S_consWithLivingParts 58 = .ok (.iload_n 3, 1) := by decide +kernel
theorem d_S_consWithLivingParts_59 : decode b_S_consWithLivingParts 59 = .ok (.ifCond .eq 9, 3) := by decide +kernel
theorem d_S_consWithLivingParts_62 : decode b_S_consWithLivingParts 62 = .ok (.iload_n 1, 1) := by decide +kernel
theorem d_S_consWithLivingParts_63 : decode b_S_consWithLivingParts 63 = .ok (.iconst 1, 1) := by decide +kernel
theorem d_S_consWithLivingParts_64 : decode b_S_consWithLivingParts 64 = .ok (.iload_n 2, 1) := by decide +kernel
theorem d_S_consWithLivingParts_65 : decode b_S_consWithLivingParts 65 = .ok (.ishl, 1) := by decide +kernel
theorem d_S_consWithLivingParts_66 : decode b_S_consWithLivingParts 66 = .ok (.ior, 1) := by decide +kernel
theorem d_S_consWithLivingParts_67 : decode b_S_consWithLivingParts 67 = .ok (.istore_n 1, 1) := by decide +kernel
theorem d_S_consWithLivingParts_68 : decode b_S_consWithLivingParts 68 = .ok (.iinc 2 1, 3) := by decide +kernel
theorem d_S_consWithLivingParts_71 : decode b_S_consWithLivingParts 71 = .ok (.goto (-67), 3) := by decide +kernel
theorem d_S_consWithLivingParts_74 : decode b_S_consWithLivingParts 74 = .ok (.iload_n 1, 1) := by decide +kernel
theorem d_S_consWithLivingParts_75 : decode b_S_consWithLivingParts 75 = .ok (.ireturn, 1) := by decide +kernel
theorem d_S_partSort_0 : decode b_S_partSort 0 = .ok (.iload_n 2, 1) := by decide +kernel
theorem d_S_partSort_1 : decode b_S_partSort 1 = .ok (.ifCond .ne 12, 3) := by decide +kernel
theorem d_S_partSort_4 : decode b_S_partSort 4 = .ok (.aload_n 0, 1) := by decide +kernel
theorem d_S_partSort_5 : decode b_S_partSort 5 = .ok (.getfield 34, 3) := by decide +kernel
theorem d_S_partSort_8 : decode b_S_partSort 8 = .ok (.iload_n 1, 1) := by decide +kernel
theorem d_S_partSort_9 : decode b_S_partSort 9 = .ok (.iaload, 1) := by decide +kernel
theorem d_S_partSort_10 : decode b_S_partSort 10 = .ok (.goto 9, 3) := by decide +kernel
theorem d_S_partSort_13 : decode b_S_partSort 13 = .ok (.aload_n 0, 1) := by decide +kernel
theorem d_S_partSort_14 : decode b_S_partSort 14 = .ok (.getfield 37, 3) := by decide +kernel
theorem d_S_partSort_17 : decode b_S_partSort 17 = .ok (.iload_n 1, 1) := by decide +kernel
theorem d_S_partSort_18 : decode b_S_partSort 18 = .ok (.iaload, 1) := by decide +kernel
theorem d_S_partSort_19 : decode b_S_partSort 19 = .ok (.ireturn, 1) := by decide +kernel
theorem d_S_sortsWithLivingCons_0 : decode b_S_sortsWithLivingCons 0 = .ok (.iconst 1, 1) := by decide +kernel
theorem d_S_sortsWithLivingCons_1 : decode b_S_sortsWithLivingCons 1 = .ok (.istore_n 1, 1) := by decide +kernel
theorem d_S_sortsWithLivingCons_2 : decode b_S_sortsWithLivingCons 2 = .ok (.iconst 1, 1) := by decide +kernel
theorem d_S_sortsWithLivingCons_3 : decode b_S_sortsWithLivingCons 3 = .ok (.istore_n 2, 1) := by decide +kernel
theorem d_S_sortsWithLivingCons_4 : decode b_S_sortsWithLivingCons 4 = .ok (.iload_n 2, 1) := by decide +kernel
theorem d_S_sortsWithLivingCons_5 : decode b_S_sortsWithLivingCons 5 = .ok (.aload_n 0, 1) := by decide +kernel
theorem d_S_sortsWithLivingCons_6 : decode b_S_sortsWithLivingCons 6 = .ok (.getfield 9, 3) := by decide +kernel
theorem d_S_sortsWithLivingCons_9 : decode b_S_sortsWithLivingCons 9 = .ok (.if_icmp .ge 23, 3) := by decide +kernel
theorem d_S_sortsWithLivingCons_12 : decode b_S_sortsWithLivingCons 12 = .ok (.aload_n 0, 1) := by decide +kernel
theorem d_S_sortsWithLivingCons_13 : decode b_S_sortsWithLivingCons 13 = .ok (.iload_n 2, 1) := by decide +kernel
theorem d_S_sortsWithLivingCons_14 : decode b_S_sortsWithLivingCons 14 = .ok (.invokevirtual 58, 3) := by decide +kernel
theorem d_S_sortsWithLivingCons_17 : decode b_S_sortsWithLivingCons 17 = .ok (.ifCond .eq 9, 3) := by decide +kernel
theorem d_S_sortsWithLivingCons_20 : decode b_S_sortsWithLivingCons 20 = .ok (.iload_n 1, 1) := by decide +kernel
theorem d_S_sortsWithLivingCons_21 : decode b_S_sortsWithLivingCons 21 = .ok (.iconst 1, 1) := by decide +kernel
theorem d_S_sortsWithLivingCons_22 : decode b_S_sortsWithLivingCons 22 = .ok (.iload_n 2, 1) := by decide +kernel
theorem d_S_sortsWithLivingCons_23 : decode b_S_sortsWithLivingCons 23 = .ok (.ishl, 1) := by decide +kernel
theorem d_S_sortsWithLivingCons_24 : decode b_S_sortsWithLivingCons 24 = .ok (.ior, 1) := by decide +kernel
theorem d_S_sortsWithLivingCons_25 : decode b_S_sortsWithLivingCons 25 = .ok (.istore_n 1, 1) := by decide +kernel
theorem d_S_sortsWithLivingCons_26 : decode b_S_sortsWithLivingCons 26 = .ok (.iinc 2 1, 3) := by decide +kernel
theorem d_S_sortsWithLivingCons_29 : decode b_S_sortsWithLivingCons 29 = .ok (.goto (-25), 3) := by decide +kernel
theorem d_S_sortsWithLivingCons_32 : decode b_S_sortsWithLivingCons 32 = .ok (.iload_n 1, 1) := by decide +kernel
theorem d_S_sortsWithLivingCons_33 : decode b_S_sortsWithLivingCons 33 = .ok (.ireturn, 1) := by decide +kernel
theorem d_L_any_0 : decode b_L_any 0 = .ok (.aload_n 2, 1) := by decide +kernel
theorem d_L_any_1 : decode b_L_any 1 = .ok (.iconst 0, 1) := by decide +kernel
theorem d_L_any_2 : decode b_L_any 2 = .ok (.aload_n 0, 1) := by decide +kernel
theorem d_L_any_3 : decode b_L_any 3 = .ok (.iload_n 1, 1) := by decide +kernel
theorem d_L_any_4 : decode b_L_any 4 = .ok (.invokevirtual 21, 3) := by decide +kernel
theorem d_L_any_7 : decode b_L_any 7 = .ok (.i2l, 1) := by decide +kernel
theorem d_L_any_8 : decode b_L_any 8 = .ok (.lastore, 1) := by decide +kernel
theorem d_L_any_9 : decode b_L_any 9 = .ok (.goto 9, 3) := by decide +kernel
theorem d_L_any_12 : decode b_L_any 12 = .ok (.astore_n 3, 1) := by decide +kernel
theorem d_L_any_13 : decode b_L_any 13 = .ok (.iconst 1, 1) := by decide +kernel
theorem d_L_any_14 : decode b_L_any 14 = .ok (.ireturn, 1) := by decide +kernel
theorem d_L_any_15 : decode b_L_any 15 = .ok (.astore_n 3, 1) := by decide +kernel
theorem d_L_any_16 : decode b_L_any 16 = .ok (.iconst 2, 1) := by decide +kernel
theorem d_L_any_17 : decode b_L_any 17 = .ok (.ireturn, 1) := by decide +kernel
theorem d_L_any_18 : decode b_L_any 18 = .ok (.iconst 0, 1) := by decide +kernel
theorem d_L_any_19 : decode b_L_any 19 = .ok (.ireturn, 1) := by decide +kernel
theorem d_C_any_0 : decode b_C_any 0 = .ok (.aload_n 0, 1) := by decide +kernel
theorem d_C_any_1 : decode b_C_any 1 = .ok (.iload_n 1, 1) := by decide +kernel
theorem d_C_any_2 : decode b_C_any 2 = .ok (.invokevirtual 50, 3) := by decide +kernel
theorem d_C_any_5 : decode b_C_any 5 = .ok (.aload_n 0, 1) := by decide +kernel
theorem d_C_any_6 : decode b_C_any 6 = .ok (.iconst 0, 1) := by decide +kernel
theorem d_C_any_7 : decode b_C_any 7 = .ok (.invokevirtual 70, 3) := by decide +kernel
theorem d_C_any_10 : decode b_C_any 10 = .ok (.aload_n 0, 1) := by decide +kernel
theorem d_C_any_11 : decode b_C_any 11 = .ok (.getfield 19, 3) := by decide +kernel
theorem d_C_any_14 : decode b_C_any 14 = .ok (.iload_n 1, 1) := by decide +kernel
theorem d_C_any_15 : decode b_C_any 15 = .ok (.invokevirtual 73, 3) := by decide +kernel
theorem d_C_any_18 : decode b_C_any 18 = .ok (.ireturn, 1) := by decide +kernel
theorem d_C_needRoomForPattern_0 : decode b_C_needRoomForPattern 0 = .ok (.aload_n 0, 1) := by decide +kernel
theorem d_C_needRoomForPattern_1 : decode b_C_needRoomForPattern 1 = .ok (.getfield 19, 3) := by decide +kernel
theorem d_C_needRoomForPattern_4 : decode b_C_needRoomForPattern 4 = .ok (.getfield 148, 3) := by decide +kernel
theorem d_C_needRoomForPattern_7 : decode b_C_needRoomForPattern 7 = .ok (.sipush 200, 3) := by decide +kernel
theorem d_C_needRoomForPattern_10 : decode b_C_needRoomForPattern 10 = .ok (.if_icmp .lt 13, 3) := by decide +kernel
theorem d_C_needRoomForPattern_13 : decode b_C_needRoomForPattern 13 = .ok (.new 39, 3) := by decide +kernel
theorem d_C_needRoomForPattern_16 : decode b_C_needRoomForPattern 16 = .ok (.dup, 1) := by decide +kernel
theorem d_C_needRoomForPattern_17 : decode b_C_needRoomForPattern 17 = .ok (.ldc 179, 2) := by decide +kernel
theorem d_C_needRoomForPattern_19 : decode b_C_needRoomForPattern 19 = .ok (.invokespecial 43, 3) := by decide +kernel
theorem d_C_needRoomForPattern_22 : decode b_C_needRoomForPattern 22 = .ok (.athrow, 1) := by decide +kernel
theorem d_C_needRoomForPattern_23 : decode b_C_needRoomForPattern 23 = .ok (.iload_n 1, 1) := by decide +kernel
theorem d_C_needRoomForPattern_24 : decode b_C_needRoomForPattern 24 = .ok (.bipush 12, 2) := by decide +kernel
theorem d_C_needRoomForPattern_26 : decode b_C_needRoomForPattern 26 = .ok (.if_icmp .le 13, 3) := by decide +kernel
theorem d_C_needRoomForPattern_29 : decode b_C_needRoomForPattern 29 = .ok (.new 39, 3) := by decide +kernel
theorem d_C_needRoomForPattern_32 : decode b_C_needRoomForPattern 32 = .ok (.dup, 1) := by decide +kernel
theorem d_C_needRoomForPattern_33 : decode b_C_needRoomForPattern 33 = .ok (.ldc 181, 2) := by decide +kernel
theorem d_C_needRoomForPattern_35 : decode b_C_needRoomForPattern 35 = .ok (.invokespecial 43, 3) := by decide +kernel
theorem d_C_needRoomForPattern_38 : decode b_C_needRoomForPattern 38 = .ok (.athrow, 1) := by decide +kernel
theorem d_C_needRoomForPattern_39 : decode b_C_needRoomForPattern 39 = .ok (.return_, 1) := by decide +kernel
theorem d_P_addAny_0 : decode b_P_addAny 0 = .ok (.aload_n 0, 1) := by decide +kernel
theorem d_P_addAny_1 : decode b_P_addAny 1 = .ok (.iconst 0, 1) := by decide +kernel
theorem d_P_addAny_2 : decode b_P_addAny 2 = .ok (.iload_n 1, 1) := by decide +kernel
theorem d_P_addAny_3 : decode b_P_addAny 3 = .ok (.iconst 0, 1) := by decide +kernel
theorem d_P_addAny_4 : decode b_P_addAny 4 = .ok (.iconst 0, 1) := by decide +kernel
theorem d_P_addAny_5 : decode b_P_addAny 5 = .ok (.invokevirtual 34, 3) := by decide +kernel
theorem d_P_addAny_8 : decode b_P_addAny 8 = .ok (.ireturn, 1) := by decide +kernel
theorem d_P_addPattern_0 : decode b_P_addPattern 0 = .ok (.aload_n 0, 1) := by decide +kernel
theorem d_P_addPattern_1 : decode b_P_addPattern 1 = .ok (.getfield 9, 3) := by decide +kernel
theorem d_P_addPattern_4 : decode b_P_addPattern 4 = .ok (.istore 5, 2) := by decide +kernel
theorem d_P_addPattern_6 : decode b_P_addPattern 6 = .ok (.aload_n 0, 1) := by decide +kernel
theorem d_P_addPattern_7 : decode b_P_addPattern 7 = .ok (.getfield 15, 3) := by decide +kernel
theorem d_P_addPattern_10 : decode b_P_addPattern 10 = .ok (.iload 5, 2) := by decide +kernel
theorem d_P_addPattern_12 : decode b_P_addPattern 12 = .ok (.iload_n 1, 1) := by decide +kernel
theorem d_P_addPattern_13 : decode b_P_addPattern 13 = .ok (.iastore, 1) := by decide +kernel
theorem d_P_addPattern_14 : decode b_P_addPattern 14 = .ok (.aload_n 0, 1) := by decide +kernel
theorem d_P_addPattern_15 : decode b_P_addPattern 15 = .ok (.getfield 19, 3) := by decide +kernel
theorem d_P_addPattern_18 : decode b_P_addPattern 18 = .ok (.iload 5, 2) := by decide +kernel
theorem d_P_addPattern_20 : decode b_P_addPattern 20 = .ok (.iload_n 2, 1) := by decide +kernel
theorem d_P_addPattern_21 : decode b_P_addPattern 21 = .ok (.iastore, 1) := by decide +kernel
theorem d_P_addPattern_22 : decode b_P_addPattern 22 = .ok (.aload_n 0, 1) := by decide +kernel
theorem d_P_addPattern_23 : decode b_P_addPattern 23 = .ok (.getfield 22, 3) := by decide +kernel
theorem d_P_addPattern_26 : decode b_P_addPattern 26 = .ok (.iload 5, 2) := by decide +kernel
theorem d_P_addPattern_28 : decode b_P_addPattern 28 = .ok (.iload_n 3, 1) := by decide +kernel
theorem d_P_addPattern_29 : decode b_P_addPattern 29 = .ok (.iastore, 1) := by decide +kernel
theorem d_P_addPattern_30 : decode b_P_addPattern 30 = .ok (.aload_n 0, 1) := by decide +kernel
theorem d_P_addPattern_31 : decode b_P_addPattern 31 = .ok (.getfield 31, 3) := by decide +kernel
theorem d_P_addPattern_34 : decode b_P_addPattern 34 = .ok (.iload 5, 2) := by decide +kernel
theorem d_P_addPattern_36 : decode b_P_addPattern 36 = .ok (.iload 4, 2) := by decide +kernel
theorem d_P_addPattern_38 : decode b_P_addPattern 38 = .ok (.iastore, 1) := by decide +kernel
theorem d_P_addPattern_39 : decode b_P_addPattern 39 = .ok (.aload_n 0, 1) := by decide +kernel
theorem d_P_addPattern_40 : decode b_P_addPattern 40 = .ok (.dup, 1) := by decide +kernel
theorem d_P_addPattern_41 : decode b_P_addPattern 41 = .ok (.getfield 9, 3) := by decide +kernel
theorem d_P_addPattern_44 : decode b_P_addPattern 44 = .ok (.iconst 1, 1) := by decide +kernel
theorem d_P_addPattern_45 : decode b_P_addPattern 45 = .ok (.iadd, 1) := by decide +kernel
theorem d_P_addPattern_46 : decode b_P_addPattern 46 = .ok (.putfield 9, 3) := by decide +kernel
theorem d_P_addPattern_49 : decode b_P_addPattern 49 = .ok (.iload 5, 2) := by decide +kernel
theorem d_P_addPattern_51 : decode b_P_addPattern 51 = .ok (.ireturn, 1) := by decide +kernel
theorem d_L_number_0 : decode b_L_number 0 = .ok (.aload_n 2, 1) := by decide +kernel
theorem d_L_number_1 : decode b_L_number 1 = .ok (.iconst 0, 1) := by decide +kernel
theorem d_L_number_2 : decode b_L_number 2 = .ok (.aload_n 0, 1) := by decide +kernel
theorem d_L_number_3 : decode b_L_number 3 = .ok (.iload_n 1, 1) := by decide +kernel
theorem d_L_number_4 : decode b_L_number 4 = .ok (.invokevirtual 25, 3) := by decide +kernel
theorem d_L_number_7 : decode b_L_number 7 = .ok (.i2l, 1) := by decide +kernel
theorem d_L_number_8 : decode b_L_number 8 = .ok (.lastore, 1) := by decide +kernel
theorem d_L_number_9 : decode b_L_number 9 = .ok (.goto 6, 3) := by decide +kernel
theorem d_L_number_12 : decode b_L_number 12 = .ok (.astore_n 3, 1) := by decide +kernel
theorem d_L_number_13 : decode b_L_number 13 = .ok (.iconst 1, 1) := by decide +kernel
theorem d_L_number_14 : decode b_L_number 14 = .ok (.ireturn, 1) := by decide +kernel
theorem d_L_number_15 : decode b_L_number 15 = .ok (.iconst 0, 1) := by decide +kernel
theorem d_L_number_16 : decode b_L_number 16 = .ok (.ireturn, 1) := by decide +kernel
theorem d_C_number_0 : decode b_C_number 0 = .ok (.aload_n 0, 1) := by decide +kernel
theorem d_C_number_1 : decode b_C_number 1 = .ok (.iconst 1, 1) := by decide +kernel
theorem d_C_number_2 : decode b_C_number 2 = .ok (.invokevirtual 70, 3) := by decide +kernel
theorem d_C_number_5 : decode b_C_number 5 = .ok (.aload_n 0, 1) := by decide +kernel
theorem d_C_number_6 : decode b_C_number 6 = .ok (.getfield 19, 3) := by decide +kernel
theorem d_C_number_9 : decode b_C_number 9 = .ok (.iload_n 1, 1) := by decide +kernel
theorem d_C_number_10 : decode b_C_number 10 = .ok (.invokevirtual 77, 3) := by decide +kernel
theorem d_C_number_13 : decode b_C_number 13 = .ok (.ireturn, 1) := by decide +kernel
theorem d_P_addNumber_0 : decode b_P_addNumber 0 = .ok (.aload_n 0, 1) := by decide +kernel
theorem d_P_addNumber_1 : decode b_P_addNumber 1 = .ok (.iconst 1, 1) := by decide +kernel
theorem d_P_addNumber_2 : decode b_P_addNumber 2 = .ok (.iconst 0, 1) := by decide +kernel
theorem d_P_addNumber_3 : decode b_P_addNumber 3 = .ok (.iload_n 1, 1) := by decide +kernel
theorem d_P_addNumber_4 : decode b_P_addNumber 4 = .ok (.iconst 1, 1) := by decide +kernel
theorem d_P_addNumber_5 : decode b_P_addNumber 5 = .ok (.invokevirtual 34, 3) := by decide +kernel
theorem d_P_addNumber_8 : decode b_P_addNumber 8 = .ok (.ireturn, 1) := by decide +kernel
theorem d_L_made_0 : decode b_L_made 0 = .ok (.aload 4, 2) := by decide +kernel
theorem d_L_made_2 : decode b_L_made 2 = .ok (.iconst 0, 1) := by decide +kernel
theorem d_L_made_3 : decode b_L_made 3 = .ok (.aload_n 0, 1) := by decide +kernel
theorem d_L_made_4 : decode b_L_made 4 = .ok (.iload_n 1, 1) := by decide +kernel
theorem d_L_made_5 : decode b_L_made 5 = .ok (.iload_n 2, 1) := by decide +kernel
theorem d_L_made_6 : decode b_L_made 6 = .ok (.iload_n 3, 1) := by decide +kernel
theorem d_L_made_7 : decode b_L_made 7 = .ok (.invokevirtual 28, 3) := by decide +kernel
theorem d_L_made_10 : decode b_L_made 10 = .ok (.i2l, 1) := by decide +kernel
theorem d_L_made_11 : decode b_L_made 11 = .ok (.lastore, 1) := by decide +kernel
theorem d_L_made_12 : decode b_L_made 12 = .ok (.goto 11, 3) := by decide +kernel
theorem d_L_made_15 : decode b_L_made 15 = .ok (.astore 5, 2) := by decide +kernel
theorem d_L_made_17 : decode b_L_made 17 = .ok (.iconst 1, 1) := by decide +kernel
theorem d_L_made_18 : decode b_L_made 18 = .ok (.ireturn, 1) := by decide +kernel
theorem d_L_made_19 : decode b_L_made 19 = .ok (.astore 5, 2) := by decide +kernel
theorem d_L_made_21 : decode b_L_made 21 = .ok (.iconst 2, 1) := by decide +kernel
theorem d_L_made_22 : decode b_L_made 22 = .ok (.ireturn, 1) := by decide +kernel
theorem d_L_made_23 : decode b_L_made 23 = .ok (.iconst 0, 1) := by decide +kernel
theorem d_L_made_24 : decode b_L_made 24 = .ok (.ireturn, 1) := by decide +kernel
theorem d_C_made_0 : decode b_C_made 0 = .ok (.aload_n 0, 1) := by decide +kernel
theorem d_C_made_1 : decode b_C_made 1 = .ok (.getfield 10, 3) := by decide +kernel
theorem d_C_made_4 : decode b_C_made 4 = .ok (.iload_n 1, 1) := by decide +kernel
theorem d_C_made_5 : decode b_C_made 5 = .ok (.invokevirtual 80, 3) := by decide +kernel
theorem d_C_made_8 : decode b_C_made 8 = .ok (.ifCond .ne 13, 3) := by decide +kernel
theorem d_C_made_11 : decode b_C_made 11 = .ok (.new 54, 3) := by decide +kernel
theorem d_C_made_14 : decode b_C_made 14 = .ok (.dup, 1) := by decide +kernel
theorem d_C_made_15 : decode b_C_made 15 = .ok (.ldc 84, 2) := by decide +kernel
theorem d_C_made_17 : decode b_C_made 17 = .ok (.invokespecial 58, 3) := by decide +kernel
theorem d_C_made_20 : decode b_C_made 20 = .ok (.athrow, 1) := by decide +kernel
theorem d_C_made_21 : decode b_C_made 21 = .ok (.aload_n 0, 1) := by decide +kernel
theorem d_C_made_22 : decode b_C_made 22 = .ok (.getfield 10, 3) := by decide +kernel
theorem d_C_made_25 : decode b_C_made 25 = .ok (.getfield 86, 3) := by decide +kernel
theorem d_C_made_28 : decode b_C_made 28 = .ok (.iload_n 1, 1) := by decide +kernel
theorem d_C_made_29 : decode b_C_made 29 = .ok (.iaload, 1) := by decide +kernel
theorem d_C_made_30 : decode b_C_made 30 = .ok (.istore 4, 2) := by decide +kernel
theorem d_C_made_32 : decode b_C_made 32 = .ok (.iconst 1, 1) := by decide +kernel
theorem d_C_made_33 : decode b_C_made 33 = .ok (.istore 5, 2) := by decide +kernel
theorem d_C_made_35 : decode b_C_made 35 = .ok (.iload 4, 2) := by decide +kernel
theorem d_C_made_37 : decode b_C_made 37 = .ok (.ifCond .le 31, 3) := by decide +kernel
theorem d_C_made_40 : decode b_C_made 40 = .ok (.aload_n 0, 1) := by decide +kernel
theorem d_C_made_41 : decode b_C_made 41 = .ok (.iload_n 2, 1) := by decide +kernel
theorem d_C_made_42 : decode b_C_made 42 = .ok (.aload_n 0, 1) := by decide +kernel
theorem d_C_made_43 : decode b_C_made 43 = .ok (.getfield 10, 3) := by decide +kernel
theorem d_C_made_46 : decode b_C_made 46 = .ok (.iload_n 1, 1) := by decide +kernel
theorem d_C_made_47 : decode b_C_made 47 = .ok (.iconst 0, 1) := by decide +kernel
theorem d_C_made_48 : decode b_C_made 48 = .ok (.invokevirtual 90, 3) := by decide +kernel
theorem d_C_made_51 : decode b_C_made 51 = .ok (.invokevirtual 94, 3) := by decide +kernel
theorem d_C_made_54 : decode b_C_made 54 = .ok (.iload 5, 2) := by decide +kernel
theorem d_C_made_56 : decode b_C_made 56 = .ok (.aload_n 0, 1) := by decide +kernel
theorem d_C_made_57 : decode b_C_made 57 = .ok (.getfield 19, 3) := by decide +kernel
theorem d_C_made_60 : decode b_C_made 60 = .ok (.getfield 98, 3) := by decide +kernel
theorem d_C_made_63 : decode b_C_made 63 = .ok (.iload_n 2, 1) := by decide +kernel
theorem d_C_made_64 : decode b_C_made 64 = .ok (.iaload, 1) := by decide +kernel
theorem d_C_made_65 : decode b_C_made 65 = .ok (.iadd, 1) := by decide +kernel
theorem d_C_made_66 : decode b_C_made 66 = .ok (.istore 5, 2) := by decide +kernel
theorem d_C_made_68 : decode b_C_made 68 = .ok (.iload 4, 2) := by decide +kernel
theorem d_C_made_70 : decode b_C_made 70 = .ok (.iconst 1, 1) := by decide +kernel
theorem d_C_made_71 : decode b_C_made 71 = .ok (.if_icmp .le 31, 3) := by decide +kernel
theorem d_C_made_74 : decode b_C_made 74 = .ok (.aload_n 0, 1) := by decide +kernel
theorem d_C_made_75 : decode b_C_made 75 = .ok (.iload_n 3, 1) := by decide +kernel
theorem d_C_made_76 : decode b_C_made 76 = .ok (.aload_n 0, 1) := by decide +kernel
theorem d_C_made_77 : decode b_C_made 77 = .ok (.getfield 10, 3) := by decide +kernel
theorem d_C_made_80 : decode b_C_made 80 = .ok (.iload_n 1, 1) := by decide +kernel
theorem d_C_made_81 : decode b_C_made 81 = .ok (.iconst 1, 1) := by decide +kernel
theorem d_C_made_82 : decode b_C_made 82 = .ok (.invokevirtual 90, 3) := by decide +kernel
theorem d_C_made_85 : decode b_C_made 85 = .ok (.invokevirtual 94, 3) := by decide +kernel
theorem d_C_made_88 : decode b_C_made 88 = .ok (.iload 5, 2) := by decide +kernel
theorem d_C_made_90 : decode b_C_made 90 = .ok (.aload_n 0, 1) := by decide +kernel
theorem d_C_made_91 : decode b_C_made 91 = .ok (.getfield 19, 3) := by decide +kernel
theorem d_C_made_94 : decode b_C_made 94 = .ok (.getfield 98, 3) := by decide +kernel
theorem d_C_made_97 : decode b_C_made 97 = .ok (.iload_n 3, 1) := by decide +kernel
theorem d_C_made_98 : decode b_C_made 98 = .ok (.iaload, 1) := by decide +kernel
theorem d_C_made_99 : decode b_C_made 99 = .ok (.iadd, 1) := by decide +kernel
theorem d_C_made_100 : decode b_C_made 100 = .ok (.istore 5, 2) := by decide +kernel
theorem d_C_made_102 : decode b_C_made 102 = .ok (.aload_n 0, 1) := by decide +kernel
theorem d_C_made_103 : decode b_C_made 103 = .ok (.iload 5, 2) := by decide +kernel
theorem d_C_made_105 : decode b_C_made 105 = .ok (.invokevirtual 70, 3) := by decide +kernel
theorem d_C_made_108 : decode b_C_made 108 = .ok (.aload_n 0, 1) := by decide +kernel
theorem d_C_made_109 : decode b_C_made 109 = .ok (.getfield 19, 3) := by decide +kernel
theorem d_C_made_112 : decode b_C_made 112 = .ok (.aload_n 0, 1) := by decide +kernel
theorem d_C_made_113 : decode b_C_made 113 = .ok (.getfield 10, 3) := by decide +kernel
theorem d_C_made_116 : decode b_C_made 116 = .ok (.getfield 101, 3) := by decide +kernel
theorem d_C_made_119 : decode b_C_made 119 = .ok (.iload_n 1, 1) := by decide +kernel
theorem d_C_made_120 : decode b_C_made 120 = .ok (.iaload, 1) := by decide +kernel
theorem d_C_made_121 : decode b_C_made 121 = .ok (.iload_n 1, 1) := by decide +kernel
theorem d_C_made_122 : decode b_C_made 122 = .ok (.iload_n 2, 1) := by decide +kernel
theorem d_C_made_123 : decode b_C_made 123 = .ok (.iload_n 3, 1) := by decide +kernel
theorem d_C_made_124 : decode b_C_made 124 = .ok (.iload 5, 2) := by decide +kernel
theorem d_C_made_126 : decode b_C_made 126 = .ok (.invokevirtual 104, 3) := by decide +kernel
theorem d_C_made_129 : decode b_C_made 129 = .ok (.ireturn, 1) := by decide +kernel
theorem d_S_hasCon_0 : decode b_S_hasCon 0 = .ok (.iload_n 1, 1) := by decide +kernel
theorem d_S_hasCon_1 : decode b_S_hasCon 1 = .ok (.ifCond .lt 15, 3) := by decide +kernel
theorem d_S_hasCon_4 : decode b_S_hasCon 4 = .ok (.iload_n 1, 1) := by decide +kernel
theorem d_S_hasCon_5 : decode b_S_hasCon 5 = .ok (.aload_n 0, 1) := by decide +kernel
theorem d_S_hasCon_6 : decode b_S_hasCon 6 = .ok (.getfield 15, 3) := by decide +kernel
theorem d_S_hasCon_9 : decode b_S_hasCon 9 = .ok (.if_icmp .ge 7, 3) := by decide +kernel
theorem d_S_hasCon_12 : decode b_S_hasCon 12 = .ok (.iconst 1, 1) := by decide +kernel
theorem d_S_hasCon_13 : decode b_S_hasCon 13 = .ok (.goto 4, 3) := by decide +kernel
theorem d_S_hasCon_16 : decode b_S_hasCon 16 = .ok (.iconst 0, 1) := by decide +kernel
theorem d_S_hasCon_17 : decode b_S_hasCon 17 = .ok (.ireturn, 1) := by decide +kernel
theorem d_C_needPatternOf_0 : decode b_C_needPatternOf 0 = .ok (.aload_n 0, 1) := by decide +kernel
theorem d_C_needPatternOf_1 : decode b_C_needPatternOf 1 = .ok (.iload_n 1, 1) := by decide +kernel
theorem d_C_needPatternOf_2 : decode b_C_needPatternOf 2 = .ok (.invokevirtual 172, 3) := by decide +kernel
theorem d_C_needPatternOf_5 : decode b_C_needPatternOf 5 = .ok (.aload_n 0, 1) := by decide +kernel
theorem d_C_needPatternOf_6 : decode b_C_needPatternOf 6 = .ok (.getfield 19, 3) := by decide +kernel
