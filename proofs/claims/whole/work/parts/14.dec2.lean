theorem d_C_needPatternOf_9 : decode b_C_needPatternOf 9 = .ok (.getfield 175, 3) := by decide +kernel
theorem d_C_needPatternOf_12 : decode b_C_needPatternOf 12 = .ok (.iload_n 1, 1) := by decide +kernel
theorem d_C_needPatternOf_13 : decode b_C_needPatternOf 13 = .ok (.iaload, 1) := by decide +kernel
theorem d_C_needPatternOf_14 : decode b_C_needPatternOf 14 = .ok (.iload_n 2, 1) := by decide +kernel
theorem d_C_needPatternOf_15 : decode b_C_needPatternOf 15 = .ok (.if_icmp .eq 13, 3) := by decide +kernel
theorem d_C_needPatternOf_18 : decode b_C_needPatternOf 18 = .ok (.new 54, 3) := by decide +kernel
theorem d_C_needPatternOf_21 : decode b_C_needPatternOf 21 = .ok (.dup, 1) := by decide +kernel
theorem d_C_needPatternOf_22 : decode b_C_needPatternOf 22 = .ok (.ldc 177, 2) := by decide +kernel
theorem d_C_needPatternOf_24 : decode b_C_needPatternOf 24 = .ok (.invokespecial 58, 3) := by decide +kernel
theorem d_C_needPatternOf_27 : decode b_C_needPatternOf 27 = .ok (.athrow, 1) := by decide +kernel
theorem d_C_needPatternOf_28 : decode b_C_needPatternOf 28 = .ok (.return_, 1) := by decide +kernel
theorem d_C_needPattern_0 : decode b_C_needPattern 0 = .ok (.aload_n 0, 1) := by decide +kernel
theorem d_C_needPattern_1 : decode b_C_needPattern 1 = .ok (.getfield 19, 3) := by decide +kernel
theorem d_C_needPattern_4 : decode b_C_needPattern 4 = .ok (.iload_n 1, 1) := by decide +kernel
theorem d_C_needPattern_5 : decode b_C_needPattern 5 = .ok (.invokevirtual 167, 3) := by decide +kernel
theorem d_C_needPattern_8 : decode b_C_needPattern 8 = .ok (.ifCond .ne 13, 3) := by decide +kernel
theorem d_C_needPattern_11 : decode b_C_needPattern 11 = .ok (.new 54, 3) := by decide +kernel
theorem d_C_needPattern_14 : decode b_C_needPattern 14 = .ok (.dup, 1) := by decide +kernel
theorem d_C_needPattern_15 : decode b_C_needPattern 15 = .ok (.ldc 170, 2) := by decide +kernel
theorem d_C_needPattern_17 : decode b_C_needPattern 17 = .ok (.invokespecial 58, 3) := by decide +kernel
theorem d_C_needPattern_20 : decode b_C_needPattern 20 = .ok (.athrow, 1) := by decide +kernel
theorem d_C_needPattern_21 : decode b_C_needPattern 21 = .ok (.return_, 1) := by decide +kernel
theorem d_P_hasPattern_0 : decode b_P_hasPattern 0 = .ok (.iload_n 1, 1) := by decide +kernel
theorem d_P_hasPattern_1 : decode b_P_hasPattern 1 = .ok (.ifCond .lt 15, 3) := by decide +kernel
theorem d_P_hasPattern_4 : decode b_P_hasPattern 4 = .ok (.iload_n 1, 1) := by decide +kernel
theorem d_P_hasPattern_5 : decode b_P_hasPattern 5 = .ok (.aload_n 0, 1) := by decide +kernel
theorem d_P_hasPattern_6 : decode b_P_hasPattern 6 = .ok (.getfield 9, 3) := by decide +kernel
theorem d_P_hasPattern_9 : decode b_P_hasPattern 9 = .ok (.if_icmp .ge 7, 3) := by decide +kernel
theorem d_P_hasPattern_12 : decode b_P_hasPattern 12 = .ok (.iconst 1, 1) := by decide +kernel
theorem d_P_hasPattern_13 : decode b_P_hasPattern 13 = .ok (.goto 4, 3) := by decide +kernel
theorem d_P_hasPattern_16 : decode b_P_hasPattern 16 = .ok (.iconst 0, 1) := by decide +kernel
theorem d_P_hasPattern_17 : decode b_P_hasPattern 17 = .ok (.ireturn, 1) := by decide +kernel
theorem d_P_addMade_0 : decode b_P_addMade 0 = .ok (.aload_n 0, 1) := by decide +kernel
theorem d_P_addMade_1 : decode b_P_addMade 1 = .ok (.iconst 2, 1) := by decide +kernel
theorem d_P_addMade_2 : decode b_P_addMade 2 = .ok (.iload_n 1, 1) := by decide +kernel
theorem d_P_addMade_3 : decode b_P_addMade 3 = .ok (.iload_n 2, 1) := by decide +kernel
theorem d_P_addMade_4 : decode b_P_addMade 4 = .ok (.iload 5, 2) := by decide +kernel
theorem d_P_addMade_6 : decode b_P_addMade 6 = .ok (.invokevirtual 34, 3) := by decide +kernel
theorem d_P_addMade_9 : decode b_P_addMade 9 = .ok (.istore 6, 2) := by decide +kernel
theorem d_P_addMade_11 : decode b_P_addMade 11 = .ok (.aload_n 0, 1) := by decide +kernel
theorem d_P_addMade_12 : decode b_P_addMade 12 = .ok (.getfield 25, 3) := by decide +kernel
theorem d_P_addMade_15 : decode b_P_addMade 15 = .ok (.iload 6, 2) := by decide +kernel
theorem d_P_addMade_17 : decode b_P_addMade 17 = .ok (.iload_n 3, 1) := by decide +kernel
theorem d_P_addMade_18 : decode b_P_addMade 18 = .ok (.iastore, 1) := by decide +kernel
theorem d_P_addMade_19 : decode b_P_addMade 19 = .ok (.aload_n 0, 1) := by decide +kernel
theorem d_P_addMade_20 : decode b_P_addMade 20 = .ok (.getfield 28, 3) := by decide +kernel
theorem d_P_addMade_23 : decode b_P_addMade 23 = .ok (.iload 6, 2) := by decide +kernel
theorem d_P_addMade_25 : decode b_P_addMade 25 = .ok (.iload 4, 2) := by decide +kernel
theorem d_P_addMade_27 : decode b_P_addMade 27 = .ok (.iastore, 1) := by decide +kernel
theorem d_P_addMade_28 : decode b_P_addMade 28 = .ok (.iload 6, 2) := by decide +kernel
theorem d_P_addMade_30 : decode b_P_addMade 30 = .ok (.ireturn, 1) := by decide +kernel
theorem d_L_begin_0 : decode b_L_begin 0 = .ok (.aload_n 0, 1) := by decide +kernel
theorem d_L_begin_1 : decode b_L_begin 1 = .ok (.iload_n 1, 1) := by decide +kernel
theorem d_L_begin_2 : decode b_L_begin 2 = .ok (.invokevirtual 32, 3) := by decide +kernel
theorem d_L_begin_5 : decode b_L_begin 5 = .ok (.goto 6, 3) := by decide +kernel
theorem d_L_begin_8 : decode b_L_begin 8 = .ok (.astore_n 2, 1) := by decide +kernel
theorem d_L_begin_9 : decode b_L_begin 9 = .ok (.iconst 1, 1) := by decide +kernel
theorem d_L_begin_10 : decode b_L_begin 10 = .ok (.ireturn, 1) := by decide +kernel
theorem d_L_begin_11 : decode b_L_begin 11 = .ok (.iconst 0, 1) := by decide +kernel
theorem d_L_begin_12 : decode b_L_begin 12 = .ok (.ireturn, 1) := by decide +kernel
theorem d_C_begin_0 : decode b_C_begin 0 = .ok (.aload_n 0, 1) := by decide +kernel
theorem d_C_begin_1 : decode b_C_begin 1 = .ok (.iload_n 1, 1) := by decide +kernel
theorem d_C_begin_2 : decode b_C_begin 2 = .ok (.invokevirtual 50, 3) := by decide +kernel
theorem d_C_begin_5 : decode b_C_begin 5 = .ok (.aload_n 0, 1) := by decide +kernel
theorem d_C_begin_6 : decode b_C_begin 6 = .ok (.getfield 28, 3) := by decide +kernel
theorem d_C_begin_9 : decode b_C_begin 9 = .ok (.iload_n 1, 1) := by decide +kernel
theorem d_C_begin_10 : decode b_C_begin 10 = .ok (.invokevirtual 108, 3) := by decide +kernel
theorem d_C_begin_13 : decode b_C_begin 13 = .ok (.return_, 1) := by decide +kernel
theorem d_L_clause_0 : decode b_L_clause 0 = .ok (.aload_n 2, 1) := by decide +kernel
theorem d_L_clause_1 : decode b_L_clause 1 = .ok (.iconst 0, 1) := by decide +kernel
theorem d_L_clause_2 : decode b_L_clause 2 = .ok (.aload_n 0, 1) := by decide +kernel
theorem d_L_clause_3 : decode b_L_clause 3 = .ok (.iload_n 1, 1) := by decide +kernel
theorem d_L_clause_4 : decode b_L_clause 4 = .ok (.invokevirtual 36, 3) := by decide +kernel
theorem d_L_clause_7 : decode b_L_clause 7 = .ok (.ifCond .eq 7, 3) := by decide +kernel
theorem d_L_clause_10 : decode b_L_clause 10 = .ok (.lconst 1, 1) := by decide +kernel
theorem d_L_clause_11 : decode b_L_clause 11 = .ok (.goto 4, 3) := by decide +kernel
theorem d_L_clause_14 : decode b_L_clause 14 = .ok (.lconst 0, 1) := by decide +kernel
theorem d_L_clause_15 : decode b_L_clause 15 = .ok (.lastore, 1) := by decide +kernel
theorem d_L_clause_16 : decode b_L_clause 16 = .ok (.goto 9, 3) := by decide +kernel
theorem d_L_clause_19 : decode b_L_clause 19 = .ok (.astore_n 3, 1) := by decide +kernel
theorem d_L_clause_20 : decode b_L_clause 20 = .ok (.iconst 1, 1) := by decide +kernel
theorem d_L_clause_21 : decode b_L_clause 21 = .ok (.ireturn, 1) := by decide +kernel
theorem d_L_clause_22 : decode b_L_clause 22 = .ok (.astore_n 3, 1) := by decide +kernel
theorem d_L_clause_23 : decode b_L_clause 23 = .ok (.iconst 2, 1) := by decide +kernel
theorem d_L_clause_24 : decode b_L_clause 24 = .ok (.ireturn, 1) := by decide +kernel
theorem d_L_clause_25 : decode b_L_clause 25 = .ok (.iconst 0, 1) := by decide +kernel
theorem d_L_clause_26 : decode b_L_clause 26 = .ok (.ireturn, 1) := by decide +kernel
theorem d_C_clause_0 : decode b_C_clause 0 = .ok (.aload_n 0, 1) := by decide +kernel
theorem d_C_clause_1 : decode b_C_clause 1 = .ok (.iload_n 1, 1) := by decide +kernel
theorem d_C_clause_2 : decode b_C_clause 2 = .ok (.aload_n 0, 1) := by decide +kernel
theorem d_C_clause_3 : decode b_C_clause 3 = .ok (.getfield 28, 3) := by decide +kernel
theorem d_C_clause_6 : decode b_C_clause 6 = .ok (.getfield 111, 3) := by decide +kernel
theorem d_C_clause_9 : decode b_C_clause 9 = .ok (.invokevirtual 94, 3) := by decide +kernel
theorem d_C_clause_12 : decode b_C_clause 12 = .ok (.aload_n 0, 1) := by decide +kernel
theorem d_C_clause_13 : decode b_C_clause 13 = .ok (.getfield 28, 3) := by decide +kernel
theorem d_C_clause_16 : decode b_C_clause 16 = .ok (.getfield 114, 3) := by decide +kernel
theorem d_C_clause_19 : decode b_C_clause 19 = .ok (.bipush 8, 2) := by decide +kernel
theorem d_C_clause_21 : decode b_C_clause 21 = .ok (.if_icmp .lt 13, 3) := by decide +kernel
theorem d_C_clause_24 : decode b_C_clause 24 = .ok (.new 39, 3) := by decide +kernel
theorem d_C_clause_27 : decode b_C_clause 27 = .ok (.dup, 1) := by decide +kernel
theorem d_C_clause_28 : decode b_C_clause 28 = .ok (.ldc 117, 2) := by decide +kernel
theorem d_C_clause_30 : decode b_C_clause 30 = .ok (.invokespecial 43, 3) := by decide +kernel
theorem d_C_clause_33 : decode b_C_clause 33 = .ok (.athrow, 1) := by decide +kernel
theorem d_C_clause_34 : decode b_C_clause 34 = .ok (.aload_n 0, 1) := by decide +kernel
theorem d_C_clause_35 : decode b_C_clause 35 = .ok (.getfield 28, 3) := by decide +kernel
theorem d_C_clause_38 : decode b_C_clause 38 = .ok (.getfield 119, 3) := by decide +kernel
theorem d_C_clause_41 : decode b_C_clause 41 = .ok (.aload_n 0, 1) := by decide +kernel
theorem d_C_clause_42 : decode b_C_clause 42 = .ok (.getfield 19, 3) := by decide +kernel
theorem d_C_clause_45 : decode b_C_clause 45 = .ok (.getfield 98, 3) := by decide +kernel
theorem d_C_clause_48 : decode b_C_clause 48 = .ok (.iload_n 1, 1) := by decide +kernel
theorem d_C_clause_49 : decode b_C_clause 49 = .ok (.iaload, 1) := by decide +kernel
theorem d_C_clause_50 : decode b_C_clause 50 = .ok (.iadd, 1) := by decide +kernel
theorem d_C_clause_51 : decode b_C_clause 51 = .ok (.bipush 40, 2) := by decide +kernel
theorem d_C_clause_53 : decode b_C_clause 53 = .ok (.if_icmp .le 13, 3) := by decide +kernel
theorem d_C_clause_56 : decode b_C_clause 56 = .ok (.new 39, 3) := by decide +kernel
theorem d_C_clause_59 : decode b_C_clause 59 = .ok (.dup, 1) := by decide +kernel
theorem d_C_clause_60 : decode b_C_clause 60 = .ok (.ldc 121, 2) := by decide +kernel
theorem d_C_clause_62 : decode b_C_clause 62 = .ok (.invokespecial 43, 3) := by decide +kernel
theorem d_C_clause_65 : decode b_C_clause 65 = .ok (.athrow, 1) := by decide +kernel
theorem d_C_clause_66 : decode b_C_clause 66 = .ok (.aload_n 0, 1) := by decide +kernel
theorem d_C_clause_67 : decode b_C_clause 67 = .ok (.getfield 28, 3) := by decide +kernel
theorem d_C_clause_70 : decode b_C_clause 70 = .ok (.iload_n 1, 1) := by decide +kernel
theorem d_C_clause_71 : decode b_C_clause 71 = .ok (.invokevirtual 123, 3) := by decide +kernel
theorem d_C_clause_74 : decode b_C_clause 74 = .ok (.aload_n 0, 1) := by decide +kernel
theorem d_C_clause_75 : decode b_C_clause 75 = .ok (.getfield 28, 3) := by decide +kernel
theorem d_C_clause_78 : decode b_C_clause 78 = .ok (.aload_n 0, 1) := by decide +kernel
theorem d_C_clause_79 : decode b_C_clause 79 = .ok (.getfield 28, 3) := by decide +kernel
theorem d_C_clause_82 : decode b_C_clause 82 = .ok (.getfield 114, 3) := by decide +kernel
theorem d_C_clause_85 : decode b_C_clause 85 = .ok (.iconst 1, 1) := by decide +kernel
theorem d_C_clause_86 : decode b_C_clause 86 = .ok (.isub, 1) := by decide +kernel
theorem d_C_clause_87 : decode b_C_clause 87 = .ok (.invokevirtual 126, 3) := by decide +kernel
theorem d_C_clause_90 : decode b_C_clause 90 = .ok (.ireturn, 1) := by decide +kernel
theorem d_H_addRow_0 : decode b_H_addRow 0 = .ok (.aload_n 0, 1) := by decide +kernel
theorem d_H_addRow_1 : decode b_H_addRow 1 = .ok (.getfield 19, 3) := by decide +kernel
theorem d_H_addRow_4 : decode b_H_addRow 4 = .ok (.aload_n 0, 1) := by decide +kernel
theorem d_H_addRow_5 : decode b_H_addRow 5 = .ok (.getfield 49, 3) := by decide +kernel
theorem d_H_addRow_8 : decode b_H_addRow 8 = .ok (.lconst 0, 1) := by decide +kernel
theorem d_H_addRow_9 : decode b_H_addRow 9 = .ok (.lastore, 1) := by decide +kernel
theorem d_H_addRow_10 : decode b_H_addRow 10 = .ok (.aload_n 0, 1) := by decide +kernel
theorem d_H_addRow_11 : decode b_H_addRow 11 = .ok (.iload_n 1, 1) := by decide +kernel
theorem d_H_addRow_12 : decode b_H_addRow 12 = .ok (.iconst 0, 1) := by decide +kernel
theorem d_H_addRow_13 : decode b_H_addRow 13 = .ok (.aload_n 0, 1) := by decide +kernel
theorem d_H_addRow_14 : decode b_H_addRow 14 = .ok (.getfield 49, 3) := by decide +kernel
theorem d_H_addRow_17 : decode b_H_addRow 17 = .ok (.iconst 1, 1) := by decide +kernel
theorem d_H_addRow_18 : decode b_H_addRow 18 = .ok (.invokevirtual 58, 3) := by decide +kernel
theorem d_H_addRow_21 : decode b_H_addRow 21 = .ok (.aload_n 0, 1) := by decide +kernel
theorem d_H_addRow_22 : decode b_H_addRow 22 = .ok (.dup, 1) := by decide +kernel
theorem d_H_addRow_23 : decode b_H_addRow 23 = .ok (.getfield 55, 3) := by decide +kernel
theorem d_H_addRow_26 : decode b_H_addRow 26 = .ok (.aload_n 0, 1) := by decide +kernel
theorem d_H_addRow_27 : decode b_H_addRow 27 = .ok (.getfield 15, 3) := by decide +kernel
theorem d_H_addRow_30 : decode b_H_addRow 30 = .ok (.getfield 62, 3) := by decide +kernel
theorem d_H_addRow_33 : decode b_H_addRow 33 = .ok (.iload_n 1, 1) := by decide +kernel
theorem d_H_addRow_34 : decode b_H_addRow 34 = .ok (.iaload, 1) := by decide +kernel
theorem d_H_addRow_35 : decode b_H_addRow 35 = .ok (.iadd, 1) := by decide +kernel
theorem d_H_addRow_36 : decode b_H_addRow 36 = .ok (.putfield 55, 3) := by decide +kernel
theorem d_H_addRow_39 : decode b_H_addRow 39 = .ok (.aload_n 0, 1) := by decide +kernel
theorem d_H_addRow_40 : decode b_H_addRow 40 = .ok (.dup, 1) := by decide +kernel
theorem d_H_addRow_41 : decode b_H_addRow 41 = .ok (.getfield 49, 3) := by decide +kernel
theorem d_H_addRow_44 : decode b_H_addRow 44 = .ok (.iconst 1, 1) := by decide +kernel
theorem d_H_addRow_45 : decode b_H_addRow 45 = .ok (.iadd, 1) := by decide +kernel
theorem d_H_addRow_46 : decode b_H_addRow 46 = .ok (.putfield 49, 3) := by decide +kernel
theorem d_H_addRow_49 : decode b_H_addRow 49 = .ok (.return_, 1) := by decide +kernel
theorem d_H_layPart_0 : decode b_H_layPart 0 = .ok (.aload_n 0, 1) := by decide +kernel
theorem d_H_layPart_1 : decode b_H_layPart 1 = .ok (.getfield 15, 3) := by decide +kernel
theorem d_H_layPart_4 : decode b_H_layPart 4 = .ok (.getfield 66, 3) := by decide +kernel
theorem d_H_layPart_7 : decode b_H_layPart 7 = .ok (.iload_n 1, 1) := by decide +kernel
theorem d_H_layPart_8 : decode b_H_layPart 8 = .ok (.iaload, 1) := by decide +kernel
theorem d_H_layPart_9 : decode b_H_layPart 9 = .ok (.ifCond .eq 10, 3) := by decide +kernel
theorem d_H_layPart_12 : decode b_H_layPart 12 = .ok (.iload 4, 2) := by decide +kernel
theorem d_H_layPart_14 : decode b_H_layPart 14 = .ok (.bipush 12, 2) := by decide +kernel
theorem d_H_layPart_16 : decode b_H_layPart 16 = .ok (.if_icmp .le 4, 3) := by decide +kernel
theorem d_H_layPart_19 : decode b_H_layPart 19 = .ok (.return_, 1) := by decide +kernel
theorem d_H_layPart_20 : decode b_H_layPart 20 = .ok (.aload_n 0, 1) := by decide +kernel
theorem d_H_layPart_21 : decode b_H_layPart 21 = .ok (.getfield 19, 3) := by decide +kernel
theorem d_H_layPart_24 : decode b_H_layPart 24 = .ok (.iload_n 3, 1) := by decide +kernel
theorem d_H_layPart_25 : decode b_H_layPart 25 = .ok (.dup2, 1) := by decide +kernel
theorem d_H_layPart_26 : decode b_H_layPart 26 = .ok (.laload, 1) := by decide +kernel
theorem d_H_layPart_27 : decode b_H_layPart 27 = .ok (.lconst 1, 1) := by decide +kernel
theorem d_H_layPart_28 : decode b_H_layPart 28 = .ok (.iload_n 2, 1) := by decide +kernel
theorem d_H_layPart_29 : decode b_H_layPart 29 = .ok (.lshl, 1) := by decide +kernel
theorem d_H_layPart_30 : decode b_H_layPart 30 = .ok (.lor, 1) := by decide +kernel
theorem d_H_layPart_31 : decode b_H_layPart 31 = .ok (.lastore, 1) := by decide +kernel
theorem d_H_layPart_32 : decode b_H_layPart 32 = .ok (.aload_n 0, 1) := by decide +kernel
theorem d_H_layPart_33 : decode b_H_layPart 33 = .ok (.getfield 25, 3) := by decide +kernel
theorem d_H_layPart_36 : decode b_H_layPart 36 = .ok (.iload_n 3, 1) := by decide +kernel
theorem d_H_layPart_37 : decode b_H_layPart 37 = .ok (.aaload, 1) := by decide +kernel
theorem d_H_layPart_38 : decode b_H_layPart 38 = .ok (.iload_n 2, 1) := by decide +kernel
theorem d_H_layPart_39 : decode b_H_layPart 39 = .ok (.aload_n 0, 1) := by decide +kernel
theorem d_H_layPart_40 : decode b_H_layPart 40 = .ok (.getfield 15, 3) := by decide +kernel
theorem d_H_layPart_43 : decode b_H_layPart 43 = .ok (.getfield 69, 3) := by decide +kernel
theorem d_H_layPart_46 : decode b_H_layPart 46 = .ok (.iload_n 1, 1) := by decide +kernel
theorem d_H_layPart_47 : decode b_H_layPart 47 = .ok (.iaload, 1) := by decide +kernel
theorem d_H_layPart_48 : decode b_H_layPart 48 = .ok (.iastore, 1) := by decide +kernel
theorem d_H_layPart_49 : decode b_H_layPart 49 = .ok (.aload_n 0, 1) := by decide +kernel
theorem d_H_layPart_50 : decode b_H_layPart 50 = .ok (.getfield 15, 3) := by decide +kernel
theorem d_H_layPart_53 : decode b_H_layPart 53 = .ok (.getfield 66, 3) := by decide +kernel
theorem d_H_layPart_56 : decode b_H_layPart 56 = .ok (.iload_n 1, 1) := by decide +kernel
theorem d_H_layPart_57 : decode b_H_layPart 57 = .ok (.iaload, 1) := by decide +kernel
theorem d_H_layPart_58 : decode b_H_layPart 58 = .ok (.iconst 1, 1) := by decide +kernel
theorem d_H_layPart_59 : decode b_H_layPart 59 = .ok (.if_icmp .ne 4, 3) := by decide +kernel
theorem d_H_layPart_62 : decode b_H_layPart 62 = .ok (.return_, 1) := by decide +kernel
theorem d_H_layPart_63 : decode b_H_layPart 63 = .ok (.aload_n 0, 1) := by decide +kernel
theorem d_H_layPart_64 : decode b_H_layPart 64 = .ok (.getfield 15, 3) := by decide +kernel
theorem d_H_layPart_67 : decode b_H_layPart 67 = .ok (.getfield 69, 3) := by decide +kernel
theorem d_H_layPart_70 : decode b_H_layPart 70 = .ok (.iload_n 1, 1) := by decide +kernel
theorem d_H_layPart_71 : decode b_H_layPart 71 = .ok (.iaload, 1) := by decide +kernel
theorem d_H_layPart_72 : decode b_H_layPart 72 = .ok (.istore 5, 2) := by decide +kernel
theorem d_H_layPart_74 : decode b_H_layPart 74 = .ok (.iconst 0, 1) := by decide +kernel
theorem d_H_layPart_75 : decode b_H_layPart 75 = .ok (.istore 6, 2) := by decide +kernel
theorem d_H_layPart_77 : decode b_H_layPart 77 = .ok (.iload 6, 2) := by decide +kernel
theorem d_H_layPart_79 : decode b_H_layPart 79 = .ok (.aload_n 0, 1) := by decide +kernel
theorem d_H_layPart_80 : decode b_H_layPart 80 = .ok (.getfield 9, 3) := by decide +kernel
theorem d_H_layPart_83 : decode b_H_layPart 83 = .ok (.getfield 72, 3) := by decide +kernel
theorem d_H_layPart_86 : decode b_H_layPart 86 = .ok (.iload 5, 2) := by decide +kernel
theorem d_H_layPart_88 : decode b_H_layPart 88 = .ok (.iaload, 1) := by decide +kernel
theorem d_H_layPart_89 : decode b_H_layPart 89 = .ok (.if_icmp .ge 54, 3) := by decide +kernel
theorem d_H_layPart_92 : decode b_H_layPart 92 = .ok (.aload_n 0, 1) := by decide +kernel
theorem d_H_layPart_93 : decode b_H_layPart 93 = .ok (.getfield 15, 3) := by decide +kernel
theorem d_H_layPart_96 : decode b_H_layPart 96 = .ok (.iload_n 1, 1) := by decide +kernel
theorem d_H_layPart_97 : decode b_H_layPart 97 = .ok (.iload 6, 2) := by decide +kernel
theorem d_H_layPart_99 : decode b_H_layPart 99 = .ok (.invokevirtual 77, 3) := by decide +kernel
theorem d_H_layPart_102 : decode b_H_layPart 102 = .ok (.istore 7, 2) := by decide +kernel
theorem d_H_layPart_104 : decode b_H_layPart 104 = .ok (.aload_n 0, 1) := by decide +kernel
theorem d_H_layPart_105 : decode b_H_layPart 105 = .ok (.getfield 15, 3) := by decide +kernel
theorem d_H_layPart_108 : decode b_H_layPart 108 = .ok (.getfield 66, 3) := by decide +kernel
theorem d_H_layPart_111 : decode b_H_layPart 111 = .ok (.iload 7, 2) := by decide +kernel
theorem d_H_layPart_113 : decode b_H_layPart 113 = .ok (.iaload, 1) := by decide +kernel
theorem d_H_layPart_114 : decode b_H_layPart 114 = .ok (.ifCond .eq 23, 3) := by decide +kernel
theorem d_H_layPart_117 : decode b_H_layPart 117 = .ok (.aload_n 0, 1) := by decide +kernel
theorem d_H_layPart_118 : decode b_H_layPart 118 = .ok (.iload 7, 2) := by decide +kernel
theorem d_H_layPart_120 : decode b_H_layPart 120 = .ok (.aload_n 0, 1) := by decide +kernel
theorem d_H_layPart_121 : decode b_H_layPart 121 = .ok (.iload_n 2, 1) := by decide +kernel
theorem d_H_layPart_122 : decode b_H_layPart 122 = .ok (.iload 5, 2) := by decide +kernel
theorem d_H_layPart_124 : decode b_H_layPart 124 = .ok (.iload 6, 2) := by decide +kernel
theorem d_H_layPart_126 : decode b_H_layPart 126 = .ok (.invokevirtual 81, 3) := by decide +kernel
theorem d_H_layPart_129 : decode b_H_layPart 129 = .ok (.iload_n 3, 1) := by decide +kernel
theorem d_H_layPart_130 : decode b_H_layPart 130 = .ok (.iload 4, 2) := by decide +kernel
theorem d_H_layPart_132 : decode b_H_layPart 132 = .ok (.iconst 1, 1) := by decide +kernel
theorem d_H_layPart_133 : decode b_H_layPart 133 = .ok (.iadd, 1) := by decide +kernel
theorem d_H_layPart_134 : decode b_H_layPart 134 = .ok (.invokevirtual 58, 3) := by decide +kernel
theorem d_H_layPart_137 : decode b_H_layPart 137 = .ok (.iinc 6 1, 3) := by decide +kernel
theorem d_H_layPart_140 : decode b_H_layPart 140 = .ok (.goto (-63), 3) := by decide +kernel
theorem d_H_layPart_143 : decode b_H_layPart 143 = .ok (.return_, 1) := by decide +kernel
theorem d_P_partOf_0 : decode b_P_partOf 0 = .ok (.iload_n 2, 1) := by decide +kernel
theorem d_P_partOf_1 : decode b_P_partOf 1 = .ok (.ifCond .ne 12, 3) := by decide +kernel
theorem d_P_partOf_4 : decode b_P_partOf 4 = .ok (.aload_n 0, 1) := by decide +kernel
theorem d_P_partOf_5 : decode b_P_partOf 5 = .ok (.getfield 25, 3) := by decide +kernel
theorem d_P_partOf_8 : decode b_P_partOf 8 = .ok (.iload_n 1, 1) := by decide +kernel
theorem d_P_partOf_9 : decode b_P_partOf 9 = .ok (.iaload, 1) := by decide +kernel
theorem d_P_partOf_10 : decode b_P_partOf 10 = .ok (.goto 9, 3) := by decide +kernel
theorem d_P_partOf_13 : decode b_P_partOf 13 = .ok (.aload_n 0, 1) := by decide +kernel
theorem d_P_partOf_14 : decode b_P_partOf 14 = .ok (.getfield 28, 3) := by decide +kernel
theorem d_P_partOf_17 : decode b_P_partOf 17 = .ok (.iload_n 1, 1) := by decide +kernel
theorem d_P_partOf_18 : decode b_P_partOf 18 = .ok (.iaload, 1) := by decide +kernel
theorem d_P_partOf_19 : decode b_P_partOf 19 = .ok (.ireturn, 1) := by decide +kernel
theorem d_H_placeBelow_0 : decode b_H_placeBelow 0 = .ok (.iconst 1, 1) := by decide +kernel
theorem d_H_placeBelow_1 : decode b_H_placeBelow 1 = .ok (.istore 4, 2) := by decide +kernel
theorem d_H_placeBelow_3 : decode b_H_placeBelow 3 = .ok (.iload 4, 2) := by decide +kernel
theorem d_H_placeBelow_5 : decode b_H_placeBelow 5 = .ok (.aload_n 0, 1) := by decide +kernel
theorem d_H_placeBelow_6 : decode b_H_placeBelow 6 = .ok (.getfield 52, 3) := by decide +kernel
theorem d_H_placeBelow_9 : decode b_H_placeBelow 9 = .ok (.if_icmp .ge 45, 3) := by decide +kernel
theorem d_H_placeBelow_12 : decode b_H_placeBelow 12 = .ok (.aload_n 0, 1) := by decide +kernel
theorem d_H_placeBelow_13 : decode b_H_placeBelow 13 = .ok (.getfield 32, 3) := by decide +kernel
theorem d_H_placeBelow_16 : decode b_H_placeBelow 16 = .ok (.iload 4, 2) := by decide +kernel
theorem d_H_placeBelow_18 : decode b_H_placeBelow 18 = .ok (.iaload, 1) := by decide +kernel
theorem d_H_placeBelow_19 : decode b_H_placeBelow 19 = .ok (.iload_n 1, 1) := by decide +kernel
theorem d_H_placeBelow_20 : decode b_H_placeBelow 20 = .ok (.if_icmp .ne 28, 3) := by decide +kernel
theorem d_H_placeBelow_23 : decode b_H_placeBelow 23 = .ok (.aload_n 0, 1) := by decide +kernel
theorem d_H_placeBelow_24 : decode b_H_placeBelow 24 = .ok (.getfield 35, 3) := by decide +kernel
theorem d_H_placeBelow_27 : decode b_H_placeBelow 27 = .ok (.iload 4, 2) := by decide +kernel
theorem d_H_placeBelow_29 : decode b_H_placeBelow 29 = .ok (.iaload, 1) := by decide +kernel
theorem d_H_placeBelow_30 : decode b_H_placeBelow 30 = .ok (.iload_n 2, 1) := by decide +kernel
theorem d_H_placeBelow_31 : decode b_H_placeBelow 31 = .ok (.if_icmp .ne 17, 3) := by decide +kernel
theorem d_H_placeBelow_34 : decode b_H_placeBelow 34 = .ok (.aload_n 0, 1) := by decide +kernel
theorem d_H_placeBelow_35 : decode b_H_placeBelow 35 = .ok (.getfield 38, 3) := by decide +kernel
theorem d_H_placeBelow_38 : decode b_H_placeBelow 38 = .ok (.iload 4, 2) := by decide +kernel
theorem d_H_placeBelow_40 : decode b_H_placeBelow 40 = .ok (.iaload, 1) := by decide +kernel
theorem d_H_placeBelow_41 : decode b_H_placeBelow 41 = .ok (.iload_n 3, 1) := by decide +kernel
theorem d_H_placeBelow_42 : decode b_H_placeBelow 42 = .ok (.if_icmp .ne 6, 3) := by decide +kernel
theorem d_H_placeBelow_45 : decode b_H_placeBelow 45 = .ok (.iload 4, 2) := by decide +kernel
theorem d_H_placeBelow_47 : decode b_H_placeBelow 47 = .ok (.ireturn, 1) := by decide +kernel
theorem d_H_placeBelow_48 : decode b_H_placeBelow 48 = .ok (.iinc 4 1, 3) := by decide +kernel
theorem d_H_placeBelow_51 : decode b_H_placeBelow 51 = .ok (.goto (-48), 3) := by decide +kernel
theorem d_H_placeBelow_54 : decode b_H_placeBelow 54 = .ok (.aload_n 0, 1) := by decide +kernel
theorem d_H_placeBelow_55 : decode b_H_placeBelow 55 = .ok (.getfield 52, 3) := by decide +kernel
theorem d_H_placeBelow_58 : decode b_H_placeBelow 58 = .ok (.istore 4, 2) := by decide +kernel
theorem d_H_placeBelow_60 : decode b_H_placeBelow 60 = .ok (.aload_n 0, 1) := by decide +kernel
theorem d_H_placeBelow_61 : decode b_H_placeBelow 61 = .ok (.getfield 28, 3) := by decide +kernel
theorem d_H_placeBelow_64 : decode b_H_placeBelow 64 = .ok (.iload 4, 2) := by decide +kernel
theorem d_H_placeBelow_66 : decode b_H_placeBelow 66 = .ok (.aload_n 0, 1) := by decide +kernel
theorem d_H_placeBelow_67 : decode b_H_placeBelow 67 = .ok (.getfield 9, 3) := by decide +kernel
theorem d_H_placeBelow_70 : decode b_H_placeBelow 70 = .ok (.iload_n 2, 1) := by decide +kernel
theorem d_H_placeBelow_71 : decode b_H_placeBelow 71 = .ok (.iload_n 3, 1) := by decide +kernel
theorem d_H_placeBelow_72 : decode b_H_placeBelow 72 = .ok (.invokevirtual 85, 3) := by decide +kernel
theorem d_H_placeBelow_75 : decode b_H_placeBelow 75 = .ok (.iastore, 1) := by decide +kernel
theorem d_H_placeBelow_76 : decode b_H_placeBelow 76 = .ok (.aload_n 0, 1) := by decide +kernel
theorem d_H_placeBelow_77 : decode b_H_placeBelow 77 = .ok (.getfield 32, 3) := by decide +kernel
theorem d_H_placeBelow_80 : decode b_H_placeBelow 80 = .ok (.iload 4, 2) := by decide +kernel
theorem d_H_placeBelow_82 : decode b_H_placeBelow 82 = .ok (.iload_n 1, 1) := by decide +kernel
theorem d_H_placeBelow_83 : decode b_H_placeBelow 83 = .ok (.iastore, 1) := by decide +kernel
theorem d_H_placeBelow_84 : decode b_H_placeBelow 84 = .ok (.aload_n 0, 1) := by decide +kernel
theorem d_H_placeBelow_85 : decode b_H_placeBelow 85 = .ok (.getfield 35, 3) := by decide +kernel
theorem d_H_placeBelow_88 : decode b_H_placeBelow 88 = .ok (.iload 4, 2) := by decide +kernel
theorem d_H_placeBelow_90 : decode b_H_placeBelow 90 = .ok (.iload_n 2, 1) := by decide +kernel
theorem d_H_placeBelow_91 : decode b_H_placeBelow 91 = .ok (.iastore, 1) := by decide +kernel
theorem d_H_placeBelow_92 : decode b_H_placeBelow 92 = .ok (.aload_n 0, 1) := by decide +kernel
theorem d_H_placeBelow_93 : decode b_H_placeBelow 93 = .ok (.getfield 38, 3) := by decide +kernel
theorem d_H_placeBelow_96 : decode b_H_placeBelow 96 = .ok (.iload 4, 2) := by decide +kernel
theorem d_H_placeBelow_98 : decode b_H_placeBelow 98 = .ok (.iload_n 3, 1) := by decide +kernel
theorem d_H_placeBelow_99 : decode b_H_placeBelow 99 = .ok (.iastore, 1) := by decide +kernel
theorem d_H_placeBelow_100 : decode b_H_placeBelow 100 = .ok (.aload_n 0, 1) := by decide +kernel
theorem d_H_placeBelow_101 : decode b_H_placeBelow 101 = .ok (.dup, 1) := by decide +kernel
theorem d_H_placeBelow_102 : decode b_H_placeBelow 102 = .ok (.getfield 52, 3) := by decide +kernel
theorem d_H_placeBelow_105 : decode b_H_placeBelow 105 = .ok (.iconst 1, 1) := by decide +kernel
theorem d_H_placeBelow_106 : decode b_H_placeBelow 106 = .ok (.iadd, 1) := by decide +kernel
theorem d_H_placeBelow_107 : decode b_H_placeBelow 107 = .ok (.putfield 52, 3) := by decide +kernel
theorem d_H_placeBelow_110 : decode b_H_placeBelow 110 = .ok (.iload 4, 2) := by decide +kernel
theorem d_H_placeBelow_112 : decode b_H_placeBelow 112 = .ok (.ireturn, 1) := by decide +kernel
theorem d_L_takes_0 : decode b_L_takes 0 = .ok (.aload_n 2, 1) := by decide +kernel
theorem d_L_takes_1 : decode b_L_takes 1 = .ok (.iconst 0, 1) := by decide +kernel
theorem d_L_takes_2 : decode b_L_takes 2 = .ok (.aload_n 0, 1) := by decide +kernel
theorem d_L_takes_3 : decode b_L_takes 3 = .ok (.iload_n 1, 1) := by decide +kernel
theorem d_L_takes_4 : decode b_L_takes 4 = .ok (.invokevirtual 40, 3) := by decide +kernel
theorem d_L_takes_7 : decode b_L_takes 7 = .ok (.ifCond .eq 7, 3) := by decide +kernel
theorem d_L_takes_10 : decode b_L_takes 10 = .ok (.lconst 1, 1) := by decide +kernel
theorem d_L_takes_11 : decode b_L_takes 11 = .ok (.goto 4, 3) := by decide +kernel
theorem d_L_takes_14 : decode b_L_takes 14 = .ok (.lconst 0, 1) := by decide +kernel
theorem d_L_takes_15 : decode b_L_takes 15 = .ok (.lastore, 1) := by decide +kernel
theorem d_L_takes_16 : decode b_L_takes 16 = .ok (.goto 6, 3) := by decide +kernel
theorem d_L_takes_19 : decode b_L_takes 19 = .ok (.astore_n 3, 1) := by decide +kernel
theorem d_L_takes_20 : decode b_L_takes 20 = .ok (.iconst 1, 1) := by decide +kernel
theorem d_L_takes_21 : decode b_L_takes 21 = .ok (.ireturn, 1) := by decide +kernel
theorem d_L_takes_22 : decode b_L_takes 22 = .ok (.iconst 0, 1) := by decide +kernel
theorem d_L_takes_23 : decode b_L_takes 23 = .ok (.ireturn, 1) := by decide +kernel
theorem d_C_takes_0 : decode b_C_takes 0 = .ok (.iload_n 1, 1) := by decide +kernel
theorem d_C_takes_1 : decode b_C_takes 1 = .ok (.ifCond .lt 14, 3) := by decide +kernel
theorem d_C_takes_4 : decode b_C_takes 4 = .ok (.iload_n 1, 1) := by decide +kernel
theorem d_C_takes_5 : decode b_C_takes 5 = .ok (.aload_n 0, 1) := by decide +kernel
theorem d_C_takes_6 : decode b_C_takes 6 = .ok (.getfield 28, 3) := by decide +kernel
theorem d_C_takes_9 : decode b_C_takes 9 = .ok (.getfield 114, 3) := by decide +kernel
theorem d_C_takes_12 : decode b_C_takes 12 = .ok (.if_icmp .lt 13, 3) := by decide +kernel
theorem d_C_takes_15 : decode b_C_takes 15 = .ok (.new 54, 3) := by decide +kernel
theorem d_C_takes_18 : decode b_C_takes 18 = .ok (.dup, 1) := by decide +kernel
theorem d_C_takes_19 : decode b_C_takes 19 = .ok (.ldc 129, 2) := by decide +kernel
theorem d_C_takes_21 : decode b_C_takes 21 = .ok (.invokespecial 58, 3) := by decide +kernel
theorem d_C_takes_24 : decode b_C_takes 24 = .ok (.athrow, 1) := by decide +kernel
theorem d_C_takes_25 : decode b_C_takes 25 = .ok (.aload_n 0, 1) := by decide +kernel
theorem d_C_takes_26 : decode b_C_takes 26 = .ok (.getfield 28, 3) := by decide +kernel
theorem d_C_takes_29 : decode b_C_takes 29 = .ok (.iload_n 1, 1) := by decide +kernel
theorem d_C_takes_30 : decode b_C_takes 30 = .ok (.invokevirtual 126, 3) := by decide +kernel
theorem d_C_takes_33 : decode b_C_takes 33 = .ok (.ireturn, 1) := by decide +kernel
theorem d_L_covers_0 : decode b_L_covers 0 = .ok (.aload_n 3, 1) := by decide +kernel
theorem d_L_covers_1 : decode b_L_covers 1 = .ok (.iconst 0, 1) := by decide +kernel
theorem d_L_covers_2 : decode b_L_covers 2 = .ok (.aload_n 0, 1) := by decide +kernel
theorem d_L_covers_3 : decode b_L_covers 3 = .ok (.iload_n 1, 1) := by decide +kernel
theorem d_L_covers_4 : decode b_L_covers 4 = .ok (.iload_n 2, 1) := by decide +kernel
theorem d_L_covers_5 : decode b_L_covers 5 = .ok (.invokevirtual 43, 3) := by decide +kernel
theorem d_L_covers_8 : decode b_L_covers 8 = .ok (.ifCond .eq 7, 3) := by decide +kernel
theorem d_L_covers_11 : decode b_L_covers 11 = .ok (.lconst 1, 1) := by decide +kernel
theorem d_L_covers_12 : decode b_L_covers 12 = .ok (.goto 4, 3) := by decide +kernel
theorem d_L_covers_15 : decode b_L_covers 15 = .ok (.lconst 0, 1) := by decide +kernel
theorem d_L_covers_16 : decode b_L_covers 16 = .ok (.lastore, 1) := by decide +kernel
theorem d_L_covers_17 : decode b_L_covers 17 = .ok (.goto 7, 3) := by decide +kernel
theorem d_L_covers_20 : decode b_L_covers 20 = .ok (.astore 4, 2) := by decide +kernel
theorem d_L_covers_22 : decode b_L_covers 22 = .ok (.iconst 1, 1) := by decide +kernel
theorem d_L_covers_23 : decode b_L_covers 23 = .ok (.ireturn, 1) := by decide +kernel
theorem d_L_covers_24 : decode b_L_covers 24 = .ok (.iconst 0, 1) := by decide +kernel
theorem d_L_covers_25 : decode b_L_covers 25 = .ok (.ireturn, 1) := by decide +kernel
theorem d_C_covers_0 : decode b_C_covers 0 = .ok (.aload_n 0, 1) := by decide +kernel
theorem d_C_covers_1 : decode b_C_covers 1 = .ok (.iload_n 1, 1) := by decide +kernel
theorem d_C_covers_2 : decode b_C_covers 2 = .ok (.iload_n 2, 1) := by decide +kernel
theorem d_C_covers_3 : decode b_C_covers 3 = .ok (.invokevirtual 135, 3) := by decide +kernel
theorem d_C_covers_6 : decode b_C_covers 6 = .ok (.aload_n 0, 1) := by decide +kernel
theorem d_C_covers_7 : decode b_C_covers 7 = .ok (.getfield 32, 3) := by decide +kernel
theorem d_C_covers_10 : decode b_C_covers 10 = .ok (.iconst 1, 1) := by decide +kernel
theorem d_C_covers_11 : decode b_C_covers 11 = .ok (.invokevirtual 126, 3) := by decide +kernel
theorem d_C_covers_14 : decode b_C_covers 14 = .ok (.ifCond .ne 7, 3) := by decide +kernel
theorem d_C_covers_17 : decode b_C_covers 17 = .ok (.iconst 1, 1) := by decide +kernel
theorem d_C_covers_18 : decode b_C_covers 18 = .ok (.goto 4, 3) := by decide +kernel
theorem d_C_covers_21 : decode b_C_covers 21 = .ok (.iconst 0, 1) := by decide +kernel
theorem d_C_covers_22 : decode b_C_covers 22 = .ok (.ireturn, 1) := by decide +kernel
theorem d_C_layPair_0 : decode b_C_layPair 0 = .ok (.aload_n 0, 1) := by decide +kernel
theorem d_C_layPair_1 : decode b_C_layPair 1 = .ok (.iload_n 1, 1) := by decide +kernel
theorem d_C_layPair_2 : decode b_C_layPair 2 = .ok (.invokevirtual 172, 3) := by decide +kernel
theorem d_C_layPair_5 : decode b_C_layPair 5 = .ok (.aload_n 0, 1) := by decide +kernel
theorem d_C_layPair_6 : decode b_C_layPair 6 = .ok (.iload_n 2, 1) := by decide +kernel
theorem d_C_layPair_7 : decode b_C_layPair 7 = .ok (.aload_n 0, 1) := by decide +kernel
theorem d_C_layPair_8 : decode b_C_layPair 8 = .ok (.getfield 19, 3) := by decide +kernel
theorem d_C_layPair_11 : decode b_C_layPair 11 = .ok (.getfield 175, 3) := by decide +kernel
theorem d_C_layPair_14 : decode b_C_layPair 14 = .ok (.iload_n 1, 1) := by decide +kernel
theorem d_C_layPair_15 : decode b_C_layPair 15 = .ok (.iaload, 1) := by decide +kernel
theorem d_C_layPair_16 : decode b_C_layPair 16 = .ok (.invokevirtual 94, 3) := by decide +kernel
theorem d_C_layPair_19 : decode b_C_layPair 19 = .ok (.aload_n 0, 1) := by decide +kernel
theorem d_C_layPair_20 : decode b_C_layPair 20 = .ok (.getfield 32, 3) := by decide +kernel
theorem d_C_layPair_23 : decode b_C_layPair 23 = .ok (.aload_n 0, 1) := by decide +kernel
theorem d_C_layPair_24 : decode b_C_layPair 24 = .ok (.getfield 19, 3) := by decide +kernel
theorem d_C_layPair_27 : decode b_C_layPair 27 = .ok (.getfield 175, 3) := by decide +kernel
theorem d_C_layPair_30 : decode b_C_layPair 30 = .ok (.iload_n 1, 1) := by decide +kernel
theorem d_C_layPair_31 : decode b_C_layPair 31 = .ok (.iaload, 1) := by decide +kernel
theorem d_C_layPair_32 : decode b_C_layPair 32 = .ok (.invokevirtual 108, 3) := by decide +kernel
theorem d_C_layPair_35 : decode b_C_layPair 35 = .ok (.aload_n 0, 1) := by decide +kernel
theorem d_C_layPair_36 : decode b_C_layPair 36 = .ok (.getfield 32, 3) := by decide +kernel
theorem d_C_layPair_39 : decode b_C_layPair 39 = .ok (.iload_n 1, 1) := by decide +kernel
theorem d_C_layPair_40 : decode b_C_layPair 40 = .ok (.invokevirtual 123, 3) := by decide +kernel
theorem d_C_layPair_43 : decode b_C_layPair 43 = .ok (.aload_n 0, 1) := by decide +kernel
theorem d_C_layPair_44 : decode b_C_layPair 44 = .ok (.getfield 32, 3) := by decide +kernel
theorem d_C_layPair_47 : decode b_C_layPair 47 = .ok (.iload_n 2, 1) := by decide +kernel
theorem d_C_layPair_48 : decode b_C_layPair 48 = .ok (.invokevirtual 123, 3) := by decide +kernel
theorem d_C_layPair_51 : decode b_C_layPair 51 = .ok (.return_, 1) := by decide +kernel
theorem d_L_meets_0 : decode b_L_meets 0 = .ok (.aload_n 3, 1) := by decide +kernel
theorem d_L_meets_1 : decode b_L_meets 1 = .ok (.iconst 0, 1) := by decide +kernel
theorem d_L_meets_2 : decode b_L_meets 2 = .ok (.aload_n 0, 1) := by decide +kernel
theorem d_L_meets_3 : decode b_L_meets 3 = .ok (.iload_n 1, 1) := by decide +kernel
theorem d_L_meets_4 : decode b_L_meets 4 = .ok (.iload_n 2, 1) := by decide +kernel
theorem d_L_meets_5 : decode b_L_meets 5 = .ok (.invokevirtual 47, 3) := by decide +kernel
theorem d_L_meets_8 : decode b_L_meets 8 = .ok (.ifCond .eq 7, 3) := by decide +kernel
theorem d_L_meets_11 : decode b_L_meets 11 = .ok (.lconst 1, 1) := by decide +kernel
theorem d_L_meets_12 : decode b_L_meets 12 = .ok (.goto 4, 3) := by decide +kernel
theorem d_L_meets_15 : decode b_L_meets 15 = .ok (.lconst 0, 1) := by decide +kernel
theorem d_L_meets_16 : decode b_L_meets 16 = .ok (.lastore, 1) := by decide +kernel
theorem d_L_meets_17 : decode b_L_meets 17 = .ok (.goto 7, 3) := by decide +kernel
theorem d_L_meets_20 : decode b_L_meets 20 = .ok (.astore 4, 2) := by decide +kernel
theorem d_L_meets_22 : decode b_L_meets 22 = .ok (.iconst 1, 1) := by decide +kernel
theorem d_L_meets_23 : decode b_L_meets 23 = .ok (.ireturn, 1) := by decide +kernel
theorem d_L_meets_24 : decode b_L_meets 24 = .ok (.iconst 0, 1) := by decide +kernel
theorem d_L_meets_25 : decode b_L_meets 25 = .ok (.ireturn, 1) := by decide +kernel
theorem d_C_meets_0 : decode b_C_meets 0 = .ok (.aload_n 0, 1) := by decide +kernel
theorem d_C_meets_1 : decode b_C_meets 1 = .ok (.iload_n 1, 1) := by decide +kernel
theorem d_C_meets_2 : decode b_C_meets 2 = .ok (.iload_n 2, 1) := by decide +kernel
theorem d_C_meets_3 : decode b_C_meets 3 = .ok (.invokevirtual 135, 3) := by decide +kernel
theorem d_C_meets_6 : decode b_C_meets 6 = .ok (.aload_n 0, 1) := by decide +kernel
theorem d_C_meets_7 : decode b_C_meets 7 = .ok (.getfield 32, 3) := by decide +kernel
theorem d_C_meets_10 : decode b_C_meets 10 = .ok (.iconst 0, 1) := by decide +kernel
theorem d_C_meets_11 : decode b_C_meets 11 = .ok (.invokevirtual 138, 3) := by decide +kernel
theorem d_C_meets_14 : decode b_C_meets 14 = .ok (.ifCond .eq 30, 3) := by decide +kernel
theorem d_C_meets_17 : decode b_C_meets 17 = .ok (.aload_n 0, 1) := by decide +kernel
theorem d_C_meets_18 : decode b_C_meets 18 = .ok (.getfield 32, 3) := by decide +kernel
theorem d_C_meets_21 : decode b_C_meets 21 = .ok (.iconst 1, 1) := by decide +kernel
theorem d_C_meets_22 : decode b_C_meets 22 = .ok (.invokevirtual 138, 3) := by decide +kernel
theorem d_C_meets_25 : decode b_C_meets 25 = .ok (.ifCond .eq 19, 3) := by decide +kernel
theorem d_C_meets_28 : decode b_C_meets 28 = .ok (.aload_n 0, 1) := by decide +kernel
theorem d_C_meets_29 : decode b_C_meets 29 = .ok (.getfield 32, 3) := by decide +kernel
theorem d_C_meets_32 : decode b_C_meets 32 = .ok (.iconst 0, 1) := by decide +kernel
theorem d_C_meets_33 : decode b_C_meets 33 = .ok (.iconst 1, 1) := by decide +kernel
theorem d_C_meets_34 : decode b_C_meets 34 = .ok (.invokevirtual 141, 3) := by decide +kernel
theorem d_C_meets_37 : decode b_C_meets 37 = .ok (.ifCond .eq 7, 3) := by decide +kernel
theorem d_C_meets_40 : decode b_C_meets 40 = .ok (.iconst 1, 1) := by decide +kernel
theorem d_C_meets_41 : decode b_C_meets 41 = .ok (.goto 4, 3) := by decide +kernel
theorem d_C_meets_44 : decode b_C_meets 44 = .ok (.iconst 0, 1) := by decide +kernel
theorem d_C_meets_45 : decode b_C_meets 45 = .ok (.ireturn, 1) := by decide +kernel
theorem d_L_lives_0 : decode b_L_lives 0 = .ok (.aload_n 2, 1) := by decide +kernel
theorem d_L_lives_1 : decode b_L_lives 1 = .ok (.iconst 0, 1) := by decide +kernel
theorem d_L_lives_2 : decode b_L_lives 2 = .ok (.aload_n 0, 1) := by decide +kernel
theorem d_L_lives_3 : decode b_L_lives 3 = .ok (.iload_n 1, 1) := by decide +kernel
theorem d_L_lives_4 : decode b_L_lives 4 = .ok (.invokevirtual 50, 3) := by decide +kernel
theorem d_L_lives_7 : decode b_L_lives 7 = .ok (.ifCond .eq 7, 3) := by decide +kernel
theorem d_L_lives_10 : decode b_L_lives 10 = .ok (.lconst 1, 1) := by decide +kernel
theorem d_L_lives_11 : decode b_L_lives 11 = .ok (.goto 4, 3) := by decide +kernel
theorem d_L_lives_14 : decode b_L_lives 14 = .ok (.lconst 0, 1) := by decide +kernel
theorem d_L_lives_15 : decode b_L_lives 15 = .ok (.lastore, 1) := by decide +kernel
theorem d_L_lives_16 : decode b_L_lives 16 = .ok (.goto 6, 3) := by decide +kernel
theorem d_L_lives_19 : decode b_L_lives 19 = .ok (.astore_n 3, 1) := by decide +kernel
theorem d_L_lives_20 : decode b_L_lives 20 = .ok (.iconst 1, 1) := by decide +kernel
theorem d_L_lives_21 : decode b_L_lives 21 = .ok (.ireturn, 1) := by decide +kernel
theorem d_L_lives_22 : decode b_L_lives 22 = .ok (.iconst 0, 1) := by decide +kernel
theorem d_L_lives_23 : decode b_L_lives 23 = .ok (.ireturn, 1) := by decide +kernel
theorem d_C_lives_0 : decode b_C_lives 0 = .ok (.aload_n 0, 1) := by decide +kernel
theorem d_C_lives_1 : decode b_C_lives 1 = .ok (.iload_n 1, 1) := by decide +kernel
theorem d_C_lives_2 : decode b_C_lives 2 = .ok (.invokevirtual 50, 3) := by decide +kernel
theorem d_C_lives_5 : decode b_C_lives 5 = .ok (.aload_n 0, 1) := by decide +kernel
theorem d_C_lives_6 : decode b_C_lives 6 = .ok (.getfield 10, 3) := by decide +kernel
theorem d_C_lives_9 : decode b_C_lives 9 = .ok (.iload_n 1, 1) := by decide +kernel
theorem d_C_lives_10 : decode b_C_lives 10 = .ok (.invokevirtual 145, 3) := by decide +kernel
theorem d_C_lives_13 : decode b_C_lives 13 = .ok (.ireturn, 1) := by decide +kernel
theorem d_M_init_0 : decode b_M_init 0 = .ok (.aload_n 0, 1) := by decide +kernel
theorem d_M_init_1 : decode b_M_init 1 = .ok (.invokespecial 1, 3) := by decide +kernel
theorem d_M_init_4 : decode b_M_init 4 = .ok (.aload_n 0, 1) := by decide +kernel
theorem d_M_init_5 : decode b_M_init 5 = .ok (.iconst 1, 1) := by decide +kernel
theorem d_M_init_6 : decode b_M_init 6 = .ok (.putfield 7, 3) := by decide +kernel
theorem d_M_init_9 : decode b_M_init 9 = .ok (.aload_n 0, 1) := by decide +kernel
theorem d_M_init_10 : decode b_M_init 10 = .ok (.bipush 30, 2) := by decide +kernel
theorem d_M_init_12 : decode b_M_init 12 = .ok (.newarray .int, 2) := by decide +kernel
theorem d_M_init_14 : decode b_M_init 14 = .ok (.putfield 13, 3) := by decide +kernel
theorem d_M_init_17 : decode b_M_init 17 = .ok (.aload_n 0, 1) := by decide +kernel
theorem d_M_init_18 : decode b_M_init 18 = .ok (.bipush 30, 2) := by decide +kernel
theorem d_M_init_20 : decode b_M_init 20 = .ok (.newarray .int, 2) := by decide +kernel
theorem d_M_init_22 : decode b_M_init 22 = .ok (.putfield 17, 3) := by decide +kernel
theorem d_M_init_25 : decode b_M_init 25 = .ok (.aload_n 0, 1) := by decide +kernel
theorem d_M_init_26 : decode b_M_init 26 = .ok (.bipush 30, 2) := by decide +kernel
theorem d_M_init_28 : decode b_M_init 28 = .ok (.newarray .int, 2) := by decide +kernel
theorem d_M_init_30 : decode b_M_init 30 = .ok (.putfield 20, 3) := by decide +kernel
theorem d_M_init_33 : decode b_M_init 33 = .ok (.aload_n 0, 1) := by decide +kernel
theorem d_M_init_34 : decode b_M_init 34 = .ok (.bipush 30, 2) := by decide +kernel
theorem d_M_init_36 : decode b_M_init 36 = .ok (.newarray .int, 2) := by decide +kernel
theorem d_M_init_38 : decode b_M_init 38 = .ok (.putfield 23, 3) := by decide +kernel
theorem d_M_init_41 : decode b_M_init 41 = .ok (.aload_n 0, 1) := by decide +kernel
theorem d_M_init_42 : decode b_M_init 42 = .ok (.sipush 200, 3) := by decide +kernel
theorem d_M_init_45 : decode b_M_init 45 = .ok (.newarray .int, 2) := by decide +kernel
theorem d_M_init_47 : decode b_M_init 47 = .ok (.putfield 26, 3) := by decide +kernel
theorem d_M_init_50 : decode b_M_init 50 = .ok (.aload_n 0, 1) := by decide +kernel
theorem d_M_init_51 : decode b_M_init 51 = .ok (.sipush 200, 3) := by decide +kernel
theorem d_M_init_54 : decode b_M_init 54 = .ok (.newarray .int, 2) := by decide +kernel
theorem d_M_init_56 : decode b_M_init 56 = .ok (.putfield 29, 3) := by decide +kernel
theorem d_M_init_59 : decode b_M_init 59 = .ok (.aload_n 0, 1) := by decide +kernel
theorem d_M_init_60 : decode b_M_init 60 = .ok (.sipush 200, 3) := by decide +kernel
theorem d_M_init_63 : decode b_M_init 63 = .ok (.newarray .int, 2) := by decide +kernel
theorem d_M_init_65 : decode b_M_init 65 = .ok (.putfield 32, 3) := by decide +kernel
theorem d_M_init_68 : decode b_M_init 68 = .ok (.aload_n 0, 1) := by decide +kernel
theorem d_M_init_69 : decode b_M_init 69 = .ok (.sipush 200, 3) := by decide +kernel
theorem d_M_init_72 : decode b_M_init 72 = .ok (.newarray .int, 2) := by decide +kernel
theorem d_M_init_74 : decode b_M_init 74 = .ok (.putfield 35, 3) := by decide +kernel
theorem d_M_init_77 : decode b_M_init 77 = .ok (.aload_n 0, 1) := by decide +kernel
theorem d_M_init_78 : decode b_M_init 78 = .ok (.sipush 200, 3) := by decide +kernel
theorem d_M_init_81 : decode b_M_init 81 = .ok (.newarray .int, 2) := by decide +kernel
theorem d_M_init_83 : decode b_M_init 83 = .ok (.putfield 38, 3) := by decide +kernel
theorem d_M_init_86 : decode b_M_init 86 = .ok (.aload_n 0, 1) := by decide +kernel
theorem d_M_init_87 : decode b_M_init 87 = .ok (.sipush 200, 3) := by decide +kernel
theorem d_M_init_90 : decode b_M_init 90 = .ok (.newarray .int, 2) := by decide +kernel
theorem d_M_init_92 : decode b_M_init 92 = .ok (.putfield 41, 3) := by decide +kernel
theorem d_M_init_95 : decode b_M_init 95 = .ok (.aload_n 0, 1) := by decide +kernel
theorem d_M_init_96 : decode b_M_init 96 = .ok (.bipush 8, 2) := by decide +kernel
theorem d_M_init_98 : decode b_M_init 98 = .ok (.newarray .int, 2) := by decide +kernel
theorem d_M_init_100 : decode b_M_init 100 = .ok (.putfield 44, 3) := by decide +kernel
theorem d_M_init_103 : decode b_M_init 103 = .ok (.aload_n 0, 1) := by decide +kernel
theorem d_M_init_104 : decode b_M_init 104 = .ok (.bipush 12, 2) := by decide +kernel
theorem d_M_init_106 : decode b_M_init 106 = .ok (.newarray .boolean, 2) := by decide +kernel
theorem d_M_init_108 : decode b_M_init 108 = .ok (.putfield 47, 3) := by decide +kernel
theorem d_M_init_111 : decode b_M_init 111 = .ok (.aload_n 0, 1) := by decide +kernel
theorem d_M_init_112 : decode b_M_init 112 = .ok (.sipush 270, 3) := by decide +kernel
theorem d_M_init_115 : decode b_M_init 115 = .ok (.newarray .int, 2) := by decide +kernel
theorem d_M_init_117 : decode b_M_init 117 = .ok (.putfield 51, 3) := by decide +kernel
theorem d_M_init_120 : decode b_M_init 120 = .ok (.aload_n 0, 1) := by decide +kernel
theorem d_M_init_121 : decode b_M_init 121 = .ok (.sipush 270, 3) := by decide +kernel
theorem d_M_init_124 : decode b_M_init 124 = .ok (.newarray .int, 2) := by decide +kernel
theorem d_M_init_126 : decode b_M_init 126 = .ok (.putfield 54, 3) := by decide +kernel
theorem d_M_init_129 : decode b_M_init 129 = .ok (.aload_n 0, 1) := by decide +kernel
theorem d_M_init_130 : decode b_M_init 130 = .ok (.sipush 270, 3) := by decide +kernel
theorem d_M_init_133 : decode b_M_init 133 = .ok (.newarray .int, 2) := by decide +kernel
theorem d_M_init_135 : decode b_M_init 135 = .ok (.putfield 57, 3) := by decide +kernel
theorem d_M_init_138 : decode b_M_init 138 = .ok (.aload_n 0, 1) := by decide +kernel
theorem d_M_init_139 : decode b_M_init 139 = .ok (.sipush 270, 3) := by decide +kernel
theorem d_M_init_142 : decode b_M_init 142 = .ok (.newarray .int, 2) := by decide +kernel
theorem d_M_init_144 : decode b_M_init 144 = .ok (.putfield 60, 3) := by decide +kernel
theorem d_M_init_147 : decode b_M_init 147 = .ok (.aload_n 0, 1) := by decide +kernel
theorem d_M_init_148 : decode b_M_init 148 = .ok (.sipush 270, 3) := by decide +kernel
theorem d_M_init_151 : decode b_M_init 151 = .ok (.newarray .int, 2) := by decide +kernel
theorem d_M_init_153 : decode b_M_init 153 = .ok (.putfield 63, 3) := by decide +kernel
theorem d_M_init_156 : decode b_M_init 156 = .ok (.aload_n 0, 1) := by decide +kernel
theorem d_M_init_157 : decode b_M_init 157 = .ok (.sipush 130, 3) := by decide +kernel
theorem d_M_init_160 : decode b_M_init 160 = .ok (.newarray .int, 2) := by decide +kernel
theorem d_M_init_162 : decode b_M_init 162 = .ok (.putfield 66, 3) := by decide +kernel
theorem d_M_init_165 : decode b_M_init 165 = .ok (.aload_n 0, 1) := by decide +kernel
theorem d_M_init_166 : decode b_M_init 166 = .ok (.sipush 130, 3) := by decide +kernel
theorem d_M_init_169 : decode b_M_init 169 = .ok (.newarray .int, 2) := by decide +kernel
theorem d_M_init_171 : decode b_M_init 171 = .ok (.putfield 69, 3) := by decide +kernel
theorem d_M_init_174 : decode b_M_init 174 = .ok (.aload_n 0, 1) := by decide +kernel
theorem d_M_init_175 : decode b_M_init 175 = .ok (.sipush 130, 3) := by decide +kernel
theorem d_M_init_178 : decode b_M_init 178 = .ok (.newarray .int, 2) := by decide +kernel
theorem d_M_init_180 : decode b_M_init 180 = .ok (.putfield 72, 3) := by decide +kernel
theorem d_M_init_183 : decode b_M_init 183 = .ok (.aload_n 0, 1) := by decide +kernel
theorem d_M_init_184 : decode b_M_init 184 = .ok (.bipush 30, 2) := by decide +kernel
theorem d_M_init_186 : decode b_M_init 186 = .ok (.newarray .boolean, 2) := by decide +kernel
theorem d_M_init_188 : decode b_M_init 188 = .ok (.putfield 75, 3) := by decide +kernel
theorem d_M_init_191 : decode b_M_init 191 = .ok (.aload_n 0, 1) := by decide +kernel
theorem d_M_init_192 : decode b_M_init 192 = .ok (.iconst 2, 1) := by decide +kernel
theorem d_M_init_193 : decode b_M_init 193 = .ok (.newarray .int, 2) := by decide +kernel
theorem d_M_init_195 : decode b_M_init 195 = .ok (.putfield 78, 3) := by decide +kernel
theorem d_M_init_198 : decode b_M_init 198 = .ok (.aload_n 0, 1) := by decide +kernel
theorem d_M_init_199 : decode b_M_init 199 = .ok (.bipush 8, 2) := by decide +kernel
theorem d_M_init_201 : decode b_M_init 201 = .ok (.newarray .int, 2) := by decide +kernel
theorem d_M_init_203 : decode b_M_init 203 = .ok (.putfield 81, 3) := by decide +kernel
theorem d_M_init_206 : decode b_M_init 206 = .ok (.aload_n 0, 1) := by decide +kernel
theorem d_M_init_207 : decode b_M_init 207 = .ok (.sipush 130, 3) := by decide +kernel
theorem d_M_init_210 : decode b_M_init 210 = .ok (.newarray .int, 2) := by decide +kernel
theorem d_M_init_212 : decode b_M_init 212 = .ok (.putfield 84, 3) := by decide +kernel
theorem d_M_init_215 : decode b_M_init 215 = .ok (.return_, 1) := by decide +kernel
theorem d_M_thrown_0 : decode b_M_thrown 0 = .ok (.aload_n 0, 1) := by decide +kernel
theorem d_M_thrown_1 : decode b_M_thrown 1 = .ok (.getfield 87, 3) := by decide +kernel
theorem d_M_thrown_4 : decode b_M_thrown 4 = .ok (.ireturn, 1) := by decide +kernel
theorem d_M_sort_0 : decode b_M_sort 0 = .ok (.aload_n 0, 1) := by decide +kernel
theorem d_M_sort_1 : decode b_M_sort 1 = .ok (.aload_n 0, 1) := by decide +kernel
theorem d_M_sort_2 : decode b_M_sort 2 = .ok (.getfield 7, 3) := by decide +kernel
theorem d_M_sort_5 : decode b_M_sort 5 = .ok (.bipush 12, 2) := by decide +kernel
theorem d_M_sort_7 : decode b_M_sort 7 = .ok (.if_icmp .ne 7, 3) := by decide +kernel
theorem d_M_sort_10 : decode b_M_sort 10 = .ok (.iconst 1, 1) := by decide +kernel
theorem d_M_sort_11 : decode b_M_sort 11 = .ok (.goto 4, 3) := by decide +kernel
theorem d_M_sort_14 : decode b_M_sort 14 = .ok (.iconst 0, 1) := by decide +kernel
theorem d_M_sort_15 : decode b_M_sort 15 = .ok (.putfield 87, 3) := by decide +kernel
theorem d_M_sort_18 : decode b_M_sort 18 = .ok (.aload_n 0, 1) := by decide +kernel
theorem d_M_sort_19 : decode b_M_sort 19 = .ok (.getfield 87, 3) := by decide +kernel
theorem d_M_sort_22 : decode b_M_sort 22 = .ok (.ifCond .le 5, 3) := by decide +kernel
theorem d_M_sort_25 : decode b_M_sort 25 = .ok (.iconst 0, 1) := by decide +kernel
theorem d_M_sort_26 : decode b_M_sort 26 = .ok (.ireturn, 1) := by decide +kernel
theorem d_M_sort_27 : decode b_M_sort 27 = .ok (.aload_n 0, 1) := by decide +kernel
theorem d_M_sort_28 : decode b_M_sort 28 = .ok (.dup, 1) := by decide +kernel
theorem d_M_sort_29 : decode b_M_sort 29 = .ok (.getfield 7, 3) := by decide +kernel
theorem d_M_sort_32 : decode b_M_sort 32 = .ok (.iconst 1, 1) := by decide +kernel
theorem d_M_sort_33 : decode b_M_sort 33 = .ok (.iadd, 1) := by decide +kernel
theorem d_M_sort_34 : decode b_M_sort 34 = .ok (.putfield 7, 3) := by decide +kernel
theorem d_M_sort_37 : decode b_M_sort 37 = .ok (.aload_n 0, 1) := by decide +kernel
theorem d_M_sort_38 : decode b_M_sort 38 = .ok (.getfield 7, 3) := by decide +kernel
theorem d_M_sort_41 : decode b_M_sort 41 = .ok (.iconst 1, 1) := by decide +kernel
theorem d_M_sort_42 : decode b_M_sort 42 = .ok (.isub, 1) := by decide +kernel
theorem d_M_sort_43 : decode b_M_sort 43 = .ok (.ireturn, 1) := by decide +kernel
theorem d_M_con_0 : decode b_M_con 0 = .ok (.iload_n 1, 1) := by decide +kernel
theorem d_M_con_1 : decode b_M_con 1 = .ok (.ifCond .le 51, 3) := by decide +kernel
theorem d_M_con_4 : decode b_M_con 4 = .ok (.aload_n 0, 1) := by decide +kernel
theorem d_M_con_5 : decode b_M_con 5 = .ok (.iload_n 1, 1) := by decide +kernel
theorem d_M_con_6 : decode b_M_con 6 = .ok (.invokevirtual 93, 3) := by decide +kernel
theorem d_M_con_9 : decode b_M_con 9 = .ok (.ifCond .eq 43, 3) := by decide +kernel
theorem d_M_con_12 : decode b_M_con 12 = .ok (.iload_n 2, 1) := by decide +kernel
theorem d_M_con_13 : decode b_M_con 13 = .ok (.ifCond .lt 39, 3) := by decide +kernel
theorem d_M_con_16 : decode b_M_con 16 = .ok (.iload_n 2, 1) := by decide +kernel
theorem d_M_con_17 : decode b_M_con 17 = .ok (.iconst 2, 1) := by decide +kernel
theorem d_M_con_18 : decode b_M_con 18 = .ok (.if_icmp .gt 34, 3) := by decide +kernel
theorem d_M_con_21 : decode b_M_con 21 = .ok (.iload_n 2, 1) := by decide +kernel
theorem d_M_con_22 : decode b_M_con 22 = .ok (.iconst 1, 1) := by decide +kernel
theorem d_M_con_23 : decode b_M_con 23 = .ok (.if_icmp .lt 11, 3) := by decide +kernel
theorem d_M_con_26 : decode b_M_con 26 = .ok (.aload_n 0, 1) := by decide +kernel
theorem d_M_con_27 : decode b_M_con 27 = .ok (.iload_n 3, 1) := by decide +kernel
theorem d_M_con_28 : decode b_M_con 28 = .ok (.invokevirtual 93, 3) := by decide +kernel
theorem d_M_con_31 : decode b_M_con 31 = .ok (.ifCond .eq 21, 3) := by decide +kernel
theorem d_M_con_34 : decode b_M_con 34 = .ok (.iload_n 2, 1) := by decide +kernel
theorem d_M_con_35 : decode b_M_con 35 = .ok (.iconst 2, 1) := by decide +kernel
theorem d_M_con_36 : decode b_M_con 36 = .ok (.if_icmp .lt 12, 3) := by decide +kernel
theorem d_M_con_39 : decode b_M_con 39 = .ok (.aload_n 0, 1) := by decide +kernel
theorem d_M_con_40 : decode b_M_con 40 = .ok (.iload 4, 2) := by decide +kernel
theorem d_M_con_42 : decode b_M_con 42 = .ok (.invokevirtual 93, 3) := by decide +kernel
theorem d_M_con_45 : decode b_M_con 45 = .ok (.ifCond .eq 7, 3) := by decide +kernel
theorem d_M_con_48 : decode b_M_con 48 = .ok (.iconst 1, 1) := by decide +kernel
theorem d_M_con_49 : decode b_M_con 49 = .ok (.goto 4, 3) := by decide +kernel
theorem d_M_con_52 : decode b_M_con 52 = .ok (.iconst 0, 1) := by decide +kernel
theorem d_M_con_53 : decode b_M_con 53 = .ok (.istore 5, 2) := by decide +kernel
theorem d_M_con_55 : decode b_M_con 55 = .ok (.aload_n 0, 1) := by decide +kernel
theorem d_M_con_56 : decode b_M_con 56 = .ok (.iload 5, 2) := by decide +kernel
theorem d_M_con_58 : decode b_M_con 58 = .ok (.ifCond .ne 7, 3) := by decide +kernel
theorem d_M_con_61 : decode b_M_con 61 = .ok (.iconst 1, 1) := by decide +kernel
theorem d_M_con_62 : decode b_M_con 62 = .ok (.goto 17, 3) := by decide +kernel
theorem d_M_con_65 : decode b_M_con 65 = .ok (.aload_n 0, 1) := by decide +kernel
theorem d_M_con_66 : decode b_M_con 66 = .ok (.getfield 97, 3) := by decide +kernel
theorem d_M_con_69 : decode b_M_con 69 = .ok (.bipush 30, 2) := by decide +kernel
theorem d_M_con_71 : decode b_M_con 71 = .ok (.if_icmp .ne 7, 3) := by decide +kernel
theorem d_M_con_74 : decode b_M_con 74 = .ok (.iconst 2, 1) := by decide +kernel
theorem d_M_con_75 : decode b_M_con 75 = .ok (.goto 4, 3) := by decide +kernel
theorem d_M_con_78 : decode b_M_con 78 = .ok (.iconst 0, 1) := by decide +kernel
theorem d_M_con_79 : decode b_M_con 79 = .ok (.putfield 87, 3) := by decide +kernel
theorem d_M_con_82 : decode b_M_con 82 = .ok (.aload_n 0, 1) := by decide +kernel
theorem d_M_con_83 : decode b_M_con 83 = .ok (.getfield 87, 3) := by decide +kernel
theorem d_M_con_86 : decode b_M_con 86 = .ok (.ifCond .le 5, 3) := by decide +kernel
theorem d_M_con_89 : decode b_M_con 89 = .ok (.iconst 0, 1) := by decide +kernel
theorem d_M_con_90 : decode b_M_con 90 = .ok (.ireturn, 1) := by decide +kernel
theorem d_M_con_91 : decode b_M_con 91 = .ok (.aload_n 0, 1) := by decide +kernel
theorem d_M_con_92 : decode b_M_con 92 = .ok (.getfield 13, 3) := by decide +kernel
theorem d_M_con_95 : decode b_M_con 95 = .ok (.aload_n 0, 1) := by decide +kernel
theorem d_M_con_96 : decode b_M_con 96 = .ok (.getfield 97, 3) := by decide +kernel
theorem d_M_con_99 : decode b_M_con 99 = .ok (.iload_n 1, 1) := by decide +kernel
theorem d_M_con_100 : decode b_M_con 100 = .ok (.iastore, 1) := by decide +kernel
theorem d_M_con_101 : decode b_M_con 101 = .ok (.aload_n 0, 1) := by decide +kernel
theorem d_M_con_102 : decode b_M_con 102 = .ok (.getfield 17, 3) := by decide +kernel
theorem d_M_con_105 : decode b_M_con 105 = .ok (.aload_n 0, 1) := by decide +kernel
theorem d_M_con_106 : decode b_M_con 106 = .ok (.getfield 97, 3) := by decide +kernel
theorem d_M_con_109 : decode b_M_con 109 = .ok (.iload_n 2, 1) := by decide +kernel
theorem d_M_con_110 : decode b_M_con 110 = .ok (.iastore, 1) := by decide +kernel
theorem d_M_con_111 : decode b_M_con 111 = .ok (.aload_n 0, 1) := by decide +kernel
theorem d_M_con_112 : decode b_M_con 112 = .ok (.getfield 20, 3) := by decide +kernel
theorem d_M_con_115 : decode b_M_con 115 = .ok (.aload_n 0, 1) := by decide +kernel
theorem d_M_con_116 : decode b_M_con 116 = .ok (.getfield 97, 3) := by decide +kernel
theorem d_M_con_119 : decode b_M_con 119 = .ok (.iload_n 3, 1) := by decide +kernel
theorem d_M_con_120 : decode b_M_con 120 = .ok (.iastore, 1) := by decide +kernel
theorem d_M_con_121 : decode b_M_con 121 = .ok (.aload_n 0, 1) := by decide +kernel
theorem d_M_con_122 : decode b_M_con 122 = .ok (.getfield 23, 3) := by decide +kernel
theorem d_M_con_125 : decode b_M_con 125 = .ok (.aload_n 0, 1) := by decide +kernel
theorem d_M_con_126 : decode b_M_con 126 = .ok (.getfield 97, 3) := by decide +kernel
theorem d_M_con_129 : decode b_M_con 129 = .ok (.iload 4, 2) := by decide +kernel
theorem d_M_con_131 : decode b_M_con 131 = .ok (.iastore, 1) := by decide +kernel
theorem d_M_con_132 : decode b_M_con 132 = .ok (.aload_n 0, 1) := by decide +kernel
theorem d_M_con_133 : decode b_M_con 133 = .ok (.dup, 1) := by decide +kernel
theorem d_M_con_134 : decode b_M_con 134 = .ok (.getfield 97, 3) := by decide +kernel
theorem d_M_con_137 : decode b_M_con 137 = .ok (.iconst 1, 1) := by decide +kernel
theorem d_M_con_138 : decode b_M_con 138 = .ok (.iadd, 1) := by decide +kernel
theorem d_M_con_139 : decode b_M_con 139 = .ok (.putfield 97, 3) := by decide +kernel
theorem d_M_con_142 : decode b_M_con 142 = .ok (.aload_n 0, 1) := by decide +kernel
theorem d_M_con_143 : decode b_M_con 143 = .ok (.getfield 97, 3) := by decide +kernel
theorem d_M_con_146 : decode b_M_con 146 = .ok (.iconst 1, 1) := by decide +kernel
theorem d_M_con_147 : decode b_M_con 147 = .ok (.isub, 1) := by decide +kernel
theorem d_M_con_148 : decode b_M_con 148 = .ok (.ireturn, 1) := by decide +kernel
theorem d_M_isSort_0 : decode b_M_isSort 0 = .ok (.iload_n 1, 1) := by decide +kernel
theorem d_M_isSort_1 : decode b_M_isSort 1 = .ok (.ifCond .lt 15, 3) := by decide +kernel
theorem d_M_isSort_4 : decode b_M_isSort 4 = .ok (.iload_n 1, 1) := by decide +kernel
theorem d_M_isSort_5 : decode b_M_isSort 5 = .ok (.aload_n 0, 1) := by decide +kernel
theorem d_M_isSort_6 : decode b_M_isSort 6 = .ok (.getfield 7, 3) := by decide +kernel
theorem d_M_isSort_9 : decode b_M_isSort 9 = .ok (.if_icmp .ge 7, 3) := by decide +kernel
theorem d_M_isSort_12 : decode b_M_isSort 12 = .ok (.iconst 1, 1) := by decide +kernel
theorem d_M_isSort_13 : decode b_M_isSort 13 = .ok (.goto 4, 3) := by decide +kernel
theorem d_M_isSort_16 : decode b_M_isSort 16 = .ok (.iconst 0, 1) := by decide +kernel
theorem d_M_isSort_17 : decode b_M_isSort 17 = .ok (.ireturn, 1) := by decide +kernel
theorem d_M_any_0 : decode b_M_any 0 = .ok (.aload_n 0, 1) := by decide +kernel
theorem d_M_any_1 : decode b_M_any 1 = .ok (.aload_n 0, 1) := by decide +kernel
theorem d_M_any_2 : decode b_M_any 2 = .ok (.iload_n 1, 1) := by decide +kernel
theorem d_M_any_3 : decode b_M_any 3 = .ok (.invokevirtual 93, 3) := by decide +kernel
theorem d_M_any_6 : decode b_M_any 6 = .ok (.ifCond .ne 7, 3) := by decide +kernel
theorem d_M_any_9 : decode b_M_any 9 = .ok (.iconst 1, 1) := by decide +kernel
theorem d_M_any_10 : decode b_M_any 10 = .ok (.goto 18, 3) := by decide +kernel
theorem d_M_any_13 : decode b_M_any 13 = .ok (.aload_n 0, 1) := by decide +kernel
theorem d_M_any_14 : decode b_M_any 14 = .ok (.getfield 90, 3) := by decide +kernel
theorem d_M_any_17 : decode b_M_any 17 = .ok (.sipush 200, 3) := by decide +kernel
theorem d_M_any_20 : decode b_M_any 20 = .ok (.if_icmp .ne 7, 3) := by decide +kernel
theorem d_M_any_23 : decode b_M_any 23 = .ok (.iconst 2, 1) := by decide +kernel
theorem d_M_any_24 : decode b_M_any 24 = .ok (.goto 4, 3) := by decide +kernel
theorem d_M_any_27 : decode b_M_any 27 = .ok (.iconst 0, 1) := by decide +kernel
theorem d_M_any_28 : decode b_M_any 28 = .ok (.putfield 87, 3) := by decide +kernel
theorem d_M_any_31 : decode b_M_any 31 = .ok (.aload_n 0, 1) := by decide +kernel
theorem d_M_any_32 : decode b_M_any 32 = .ok (.getfield 87, 3) := by decide +kernel
theorem d_M_any_35 : decode b_M_any 35 = .ok (.ifCond .le 7, 3) := by decide +kernel
theorem d_M_any_38 : decode b_M_any 38 = .ok (.iconst 0, 1) := by decide +kernel
theorem d_M_any_39 : decode b_M_any 39 = .ok (.goto 13, 3) := by decide +kernel
theorem d_M_any_42 : decode b_M_any 42 = .ok (.aload_n 0, 1) := by decide +kernel
theorem d_M_any_43 : decode b_M_any 43 = .ok (.iconst 0, 1) := by decide +kernel
theorem d_M_any_44 : decode b_M_any 44 = .ok (.iload_n 1, 1) := by decide +kernel
theorem d_M_any_45 : decode b_M_any 45 = .ok (.iconst 0, 1) := by decide +kernel
theorem d_M_any_46 : decode b_M_any 46 = .ok (.iconst 0, 1) := by decide +kernel
theorem d_M_any_47 : decode b_M_any 47 = .ok (.iconst 0, 1) := by decide +kernel
theorem d_M_any_48 : decode b_M_any 48 = .ok (.iconst 0, 1) := by decide +kernel
theorem d_M_any_49 : decode b_M_any 49 = .ok (.invokevirtual 100, 3) := by decide +kernel
theorem d_M_any_52 : decode b_M_any 52 = .ok (.ireturn, 1) := by decide +kernel
theorem d_M_pattern_0 : decode b_M_pattern 0 = .ok (.aload_n 0, 1) := by decide +kernel
theorem d_M_pattern_1 : decode b_M_pattern 1 = .ok (.getfield 26, 3) := by decide +kernel
theorem d_M_pattern_4 : decode b_M_pattern 4 = .ok (.aload_n 0, 1) := by decide +kernel
theorem d_M_pattern_5 : decode b_M_pattern 5 = .ok (.getfield 90, 3) := by decide +kernel
theorem d_M_pattern_8 : decode b_M_pattern 8 = .ok (.iload_n 1, 1) := by decide +kernel
theorem d_M_pattern_9 : decode b_M_pattern 9 = .ok (.iastore, 1) := by decide +kernel
theorem d_M_pattern_10 : decode b_M_pattern 10 = .ok (.aload_n 0, 1) := by decide +kernel
theorem d_M_pattern_11 : decode b_M_pattern 11 = .ok (.getfield 29, 3) := by decide +kernel
theorem d_M_pattern_14 : decode b_M_pattern 14 = .ok (.aload_n 0, 1) := by decide +kernel
theorem d_M_pattern_15 : decode b_M_pattern 15 = .ok (.getfield 90, 3) := by decide +kernel
theorem d_M_pattern_18 : decode b_M_pattern 18 = .ok (.iload_n 2, 1) := by decide +kernel
theorem d_M_pattern_19 : decode b_M_pattern 19 = .ok (.iastore, 1) := by decide +kernel
theorem d_M_pattern_20 : decode b_M_pattern 20 = .ok (.aload_n 0, 1) := by decide +kernel
theorem d_M_pattern_21 : decode b_M_pattern 21 = .ok (.getfield 32, 3) := by decide +kernel
theorem d_M_pattern_24 : decode b_M_pattern 24 = .ok (.aload_n 0, 1) := by decide +kernel
theorem d_M_pattern_25 : decode b_M_pattern 25 = .ok (.getfield 90, 3) := by decide +kernel
theorem d_M_pattern_28 : decode b_M_pattern 28 = .ok (.iload_n 3, 1) := by decide +kernel
theorem d_M_pattern_29 : decode b_M_pattern 29 = .ok (.iastore, 1) := by decide +kernel
theorem d_M_pattern_30 : decode b_M_pattern 30 = .ok (.aload_n 0, 1) := by decide +kernel
theorem d_M_pattern_31 : decode b_M_pattern 31 = .ok (.getfield 35, 3) := by decide +kernel
theorem d_M_pattern_34 : decode b_M_pattern 34 = .ok (.aload_n 0, 1) := by decide +kernel
theorem d_M_pattern_35 : decode b_M_pattern 35 = .ok (.getfield 90, 3) := by decide +kernel
theorem d_M_pattern_38 : decode b_M_pattern 38 = .ok (.iload 4, 2) := by decide +kernel
theorem d_M_pattern_40 : decode b_M_pattern 40 = .ok (.iastore, 1) := by decide +kernel
theorem d_M_pattern_41 : decode b_M_pattern 41 = .ok (.aload_n 0, 1) := by decide +kernel
theorem d_M_pattern_42 : decode b_M_pattern 42 = .ok (.getfield 38, 3) := by decide +kernel
theorem d_M_pattern_45 : decode b_M_pattern 45 = .ok (.aload_n 0, 1) := by decide +kernel
theorem d_M_pattern_46 : decode b_M_pattern 46 = .ok (.getfield 90, 3) := by decide +kernel
theorem d_M_pattern_49 : decode b_M_pattern 49 = .ok (.iload 5, 2) := by decide +kernel
theorem d_M_pattern_51 : decode b_M_pattern 51 = .ok (.iastore, 1) := by decide +kernel
theorem d_M_pattern_52 : decode b_M_pattern 52 = .ok (.aload_n 0, 1) := by decide +kernel
theorem d_M_pattern_53 : decode b_M_pattern 53 = .ok (.getfield 41, 3) := by decide +kernel
theorem d_M_pattern_56 : decode b_M_pattern 56 = .ok (.aload_n 0, 1) := by decide +kernel
theorem d_M_pattern_57 : decode b_M_pattern 57 = .ok (.getfield 90, 3) := by decide +kernel
theorem d_M_pattern_60 : decode b_M_pattern 60 = .ok (.iload 6, 2) := by decide +kernel
theorem d_M_pattern_62 : decode b_M_pattern 62 = .ok (.iastore, 1) := by decide +kernel
theorem d_M_pattern_63 : decode b_M_pattern 63 = .ok (.aload_n 0, 1) := by decide +kernel
theorem d_M_pattern_64 : decode b_M_pattern 64 = .ok (.dup, 1) := by decide +kernel
theorem d_M_pattern_65 : decode b_M_pattern 65 = .ok (.getfield 90, 3) := by decide +kernel
theorem d_M_pattern_68 : decode b_M_pattern 68 = .ok (.iconst 1, 1) := by decide +kernel
theorem d_M_pattern_69 : decode b_M_pattern 69 = .ok (.iadd, 1) := by decide +kernel
theorem d_M_pattern_70 : decode b_M_pattern 70 = .ok (.putfield 90, 3) := by decide +kernel
theorem d_M_pattern_73 : decode b_M_pattern 73 = .ok (.aload_n 0, 1) := by decide +kernel
theorem d_M_pattern_74 : decode b_M_pattern 74 = .ok (.getfield 90, 3) := by decide +kernel
theorem d_M_pattern_77 : decode b_M_pattern 77 = .ok (.iconst 1, 1) := by decide +kernel
theorem d_M_pattern_78 : decode b_M_pattern 78 = .ok (.isub, 1) := by decide +kernel
theorem d_M_pattern_79 : decode b_M_pattern 79 = .ok (.ireturn, 1) := by decide +kernel
theorem d_M_number_0 : decode b_M_number 0 = .ok (.aload_n 0, 1) := by decide +kernel
theorem d_M_number_1 : decode b_M_number 1 = .ok (.aload_n 0, 1) := by decide +kernel
theorem d_M_number_2 : decode b_M_number 2 = .ok (.getfield 90, 3) := by decide +kernel
theorem d_M_number_5 : decode b_M_number 5 = .ok (.sipush 200, 3) := by decide +kernel
theorem d_M_number_8 : decode b_M_number 8 = .ok (.if_icmp .ne 7, 3) := by decide +kernel
theorem d_M_number_11 : decode b_M_number 11 = .ok (.iconst 1, 1) := by decide +kernel
theorem d_M_number_12 : decode b_M_number 12 = .ok (.goto 4, 3) := by decide +kernel
theorem d_M_number_15 : decode b_M_number 15 = .ok (.iconst 0, 1) := by decide +kernel
theorem d_M_number_16 : decode b_M_number 16 = .ok (.putfield 87, 3) := by decide +kernel
theorem d_M_number_19 : decode b_M_number 19 = .ok (.aload_n 0, 1) := by decide +kernel
theorem d_M_number_20 : decode b_M_number 20 = .ok (.getfield 87, 3) := by decide +kernel
theorem d_M_number_23 : decode b_M_number 23 = .ok (.ifCond .le 7, 3) := by decide +kernel
theorem d_M_number_26 : decode b_M_number 26 = .ok (.iconst 0, 1) := by decide +kernel
theorem d_M_number_27 : decode b_M_number 27 = .ok (.goto 13, 3) := by decide +kernel
theorem d_M_number_30 : decode b_M_number 30 = .ok (.aload_n 0, 1) := by decide +kernel
theorem d_M_number_31 : decode b_M_number 31 = .ok (.iconst 1, 1) := by decide +kernel
theorem d_M_number_32 : decode b_M_number 32 = .ok (.iconst 0, 1) := by decide +kernel
theorem d_M_number_33 : decode b_M_number 33 = .ok (.iload_n 1, 1) := by decide +kernel
theorem d_M_number_34 : decode b_M_number 34 = .ok (.iconst 0, 1) := by decide +kernel
theorem d_M_number_35 : decode b_M_number 35 = .ok (.iconst 0, 1) := by decide +kernel
theorem d_M_number_36 : decode b_M_number 36 = .ok (.iconst 1, 1) := by decide +kernel
theorem d_M_number_37 : decode b_M_number 37 = .ok (.invokevirtual 100, 3) := by decide +kernel
theorem d_M_number_40 : decode b_M_number 40 = .ok (.ireturn, 1) := by decide +kernel
theorem d_M_made_0 : decode b_M_made 0 = .ok (.iload_n 1, 1) := by decide +kernel
theorem d_M_made_1 : decode b_M_made 1 = .ok (.ifCond .lt 15, 3) := by decide +kernel
theorem d_M_made_4 : decode b_M_made 4 = .ok (.iload_n 1, 1) := by decide +kernel
theorem d_M_made_5 : decode b_M_made 5 = .ok (.aload_n 0, 1) := by decide +kernel
theorem d_M_made_6 : decode b_M_made 6 = .ok (.getfield 97, 3) := by decide +kernel
theorem d_M_made_9 : decode b_M_made 9 = .ok (.if_icmp .ge 7, 3) := by decide +kernel
theorem d_M_made_12 : decode b_M_made 12 = .ok (.iconst 1, 1) := by decide +kernel
theorem d_M_made_13 : decode b_M_made 13 = .ok (.goto 4, 3) := by decide +kernel
theorem d_M_made_16 : decode b_M_made 16 = .ok (.iconst 0, 1) := by decide +kernel
theorem d_M_made_17 : decode b_M_made 17 = .ok (.istore 4, 2) := by decide +kernel
theorem d_M_made_19 : decode b_M_made 19 = .ok (.iload 4, 2) := by decide +kernel
theorem d_M_made_21 : decode b_M_made 21 = .ok (.ifCond .eq 12, 3) := by decide +kernel
theorem d_M_made_24 : decode b_M_made 24 = .ok (.aload_n 0, 1) := by decide +kernel
theorem d_M_made_25 : decode b_M_made 25 = .ok (.getfield 17, 3) := by decide +kernel
theorem d_M_made_28 : decode b_M_made 28 = .ok (.iload_n 1, 1) := by decide +kernel
theorem d_M_made_29 : decode b_M_made 29 = .ok (.iaload, 1) := by decide +kernel
theorem d_M_made_30 : decode b_M_made 30 = .ok (.goto 4, 3) := by decide +kernel
theorem d_M_made_33 : decode b_M_made 33 = .ok (.iconst 0, 1) := by decide +kernel
theorem d_M_made_34 : decode b_M_made 34 = .ok (.istore 5, 2) := by decide +kernel
theorem d_M_made_36 : decode b_M_made 36 = .ok (.iload 4, 2) := by decide +kernel
theorem d_M_made_38 : decode b_M_made 38 = .ok (.ifCond .eq 38, 3) := by decide +kernel
theorem d_M_made_41 : decode b_M_made 41 = .ok (.iload 5, 2) := by decide +kernel
theorem d_M_made_43 : decode b_M_made 43 = .ok (.ifCond .le 33, 3) := by decide +kernel
theorem d_M_made_46 : decode b_M_made 46 = .ok (.aload_n 0, 1) := by decide +kernel
theorem d_M_made_47 : decode b_M_made 47 = .ok (.iload_n 2, 1) := by decide +kernel
theorem d_M_made_48 : decode b_M_made 48 = .ok (.invokevirtual 104, 3) := by decide +kernel
theorem d_M_made_51 : decode b_M_made 51 = .ok (.ifCond .eq 22, 3) := by decide +kernel
theorem d_M_made_54 : decode b_M_made 54 = .ok (.aload_n 0, 1) := by decide +kernel
theorem d_M_made_55 : decode b_M_made 55 = .ok (.getfield 29, 3) := by decide +kernel
theorem d_M_made_58 : decode b_M_made 58 = .ok (.iload_n 2, 1) := by decide +kernel
theorem d_M_made_59 : decode b_M_made 59 = .ok (.iaload, 1) := by decide +kernel
theorem d_M_made_60 : decode b_M_made 60 = .ok (.aload_n 0, 1) := by decide +kernel
theorem d_M_made_61 : decode b_M_made 61 = .ok (.getfield 20, 3) := by decide +kernel
theorem d_M_made_64 : decode b_M_made 64 = .ok (.iload_n 1, 1) := by decide +kernel
theorem d_M_made_65 : decode b_M_made 65 = .ok (.iaload, 1) := by decide +kernel
theorem d_M_made_66 : decode b_M_made 66 = .ok (.if_icmp .ne 7, 3) := by decide +kernel
theorem d_M_made_69 : decode b_M_made 69 = .ok (.iconst 1, 1) := by decide +kernel
theorem d_M_made_70 : decode b_M_made 70 = .ok (.goto 4, 3) := by decide +kernel
theorem d_M_made_73 : decode b_M_made 73 = .ok (.iconst 0, 1) := by decide +kernel
theorem d_M_made_74 : decode b_M_made 74 = .ok (.istore 4, 2) := by decide +kernel
theorem d_M_made_76 : decode b_M_made 76 = .ok (.iload 4, 2) := by decide +kernel
theorem d_M_made_78 : decode b_M_made 78 = .ok (.ifCond .eq 39, 3) := by decide +kernel
theorem d_M_made_81 : decode b_M_made 81 = .ok (.iload 5, 2) := by decide +kernel
theorem d_M_made_83 : decode b_M_made 83 = .ok (.iconst 1, 1) := by decide +kernel
theorem d_M_made_84 : decode b_M_made 84 = .ok (.if_icmp .le 33, 3) := by decide +kernel
theorem d_M_made_87 : decode b_M_made 87 = .ok (.aload_n 0, 1) := by decide +kernel
theorem d_M_made_88 : decode b_M_made 88 = .ok (.iload_n 3, 1) := by decide +kernel
theorem d_M_made_89 : decode b_M_made 89 = .ok (.invokevirtual 104, 3) := by decide +kernel
theorem d_M_made_92 : decode b_M_made 92 = .ok (.ifCond .eq 22, 3) := by decide +kernel
theorem d_M_made_95 : decode b_M_made 95 = .ok (.aload_n 0, 1) := by decide +kernel
theorem d_M_made_96 : decode b_M_made 96 = .ok (.getfield 29, 3) := by decide +kernel
theorem d_M_made_99 : decode b_M_made 99 = .ok (.iload_n 3, 1) := by decide +kernel
theorem d_M_made_100 : decode b_M_made 100 = .ok (.iaload, 1) := by decide +kernel
theorem d_M_made_101 : decode b_M_made 101 = .ok (.aload_n 0, 1) := by decide +kernel
theorem d_M_made_102 : decode b_M_made 102 = .ok (.getfield 23, 3) := by decide +kernel
theorem d_M_made_105 : decode b_M_made 105 = .ok (.iload_n 1, 1) := by decide +kernel
theorem d_M_made_106 : decode b_M_made 106 = .ok (.iaload, 1) := by decide +kernel
theorem d_M_made_107 : decode b_M_made 107 = .ok (.if_icmp .ne 7, 3) := by decide +kernel
theorem d_M_made_110 : decode b_M_made 110 = .ok (.iconst 1, 1) := by decide +kernel
theorem d_M_made_111 : decode b_M_made 111 = .ok (.goto 4, 3) := by decide +kernel
theorem d_M_made_114 : decode b_M_made 114 = .ok (.iconst 0, 1) := by decide +kernel
theorem d_M_made_115 : decode b_M_made 115 = .ok (.istore 4, 2) := by decide +kernel
theorem d_M_made_117 : decode b_M_made 117 = .ok (.iload 4, 2) := by decide +kernel
theorem d_M_made_119 : decode b_M_made 119 = .ok (.ifCond .ne 7, 3) := by decide +kernel
theorem d_M_made_122 : decode b_M_made 122 = .ok (.iconst 0, 1) := by decide +kernel
theorem d_M_made_123 : decode b_M_made 123 = .ok (.goto 37, 3) := by decide +kernel
theorem d_M_made_126 : decode b_M_made 126 = .ok (.iconst 1, 1) := by decide +kernel
theorem d_M_made_127 : decode b_M_made 127 = .ok (.iload 5, 2) := by decide +kernel
theorem d_M_made_129 : decode b_M_made 129 = .ok (.ifCond .le 12, 3) := by decide +kernel
theorem d_M_made_132 : decode b_M_made 132 = .ok (.aload_n 0, 1) := by decide +kernel
theorem d_M_made_133 : decode b_M_made 133 = .ok (.getfield 41, 3) := by decide +kernel
theorem d_M_made_136 : decode b_M_made 136 = .ok (.iload_n 2, 1) := by decide +kernel
theorem d_M_made_137 : decode b_M_made 137 = .ok (.iaload, 1) := by decide +kernel
theorem d_M_made_138 : decode b_M_made 138 = .ok (.goto 4, 3) := by decide +kernel
theorem d_M_made_141 : decode b_M_made 141 = .ok (.iconst 0, 1) := by decide +kernel
theorem d_M_made_142 : decode b_M_made 142 = .ok (.iadd, 1) := by decide +kernel
theorem d_M_made_143 : decode b_M_made 143 = .ok (.iload 5, 2) := by decide +kernel
theorem d_M_made_145 : decode b_M_made 145 = .ok (.iconst 1, 1) := by decide +kernel
theorem d_M_made_146 : decode b_M_made 146 = .ok (.if_icmp .le 12, 3) := by decide +kernel
theorem d_M_made_149 : decode b_M_made 149 = .ok (.aload_n 0, 1) := by decide +kernel
theorem d_M_made_150 : decode b_M_made 150 = .ok (.getfield 41, 3) := by decide +kernel
theorem d_M_made_153 : decode b_M_made 153 = .ok (.iload_n 3, 1) := by decide +kernel
theorem d_M_made_154 : decode b_M_made 154 = .ok (.iaload, 1) := by decide +kernel
theorem d_M_made_155 : decode b_M_made 155 = .ok (.goto 4, 3) := by decide +kernel
theorem d_M_made_158 : decode b_M_made 158 = .ok (.iconst 0, 1) := by decide +kernel
theorem d_M_made_159 : decode b_M_made 159 = .ok (.iadd, 1) := by decide +kernel
theorem d_M_made_160 : decode b_M_made 160 = .ok (.istore 6, 2) := by decide +kernel
theorem d_M_made_162 : decode b_M_made 162 = .ok (.aload_n 0, 1) := by decide +kernel
theorem d_M_made_163 : decode b_M_made 163 = .ok (.iload 4, 2) := by decide +kernel
theorem d_M_made_165 : decode b_M_made 165 = .ok (.ifCond .ne 7, 3) := by decide +kernel
theorem d_M_made_168 : decode b_M_made 168 = .ok (.iconst 1, 1) := by decide +kernel
theorem d_M_made_169 : decode b_M_made 169 = .ok (.goto 25, 3) := by decide +kernel
theorem d_M_made_172 : decode b_M_made 172 = .ok (.aload_n 0, 1) := by decide +kernel
theorem d_M_made_173 : decode b_M_made 173 = .ok (.getfield 90, 3) := by decide +kernel
theorem d_M_made_176 : decode b_M_made 176 = .ok (.sipush 200, 3) := by decide +kernel
theorem d_M_made_179 : decode b_M_made 179 = .ok (.if_icmp .eq 10, 3) := by decide +kernel
theorem d_M_made_182 : decode b_M_made 182 = .ok (.iload 6, 2) := by decide +kernel
theorem d_M_made_184 : decode b_M_made 184 = .ok (.bipush 12, 2) := by decide +kernel
theorem d_M_made_186 : decode b_M_made 186 = .ok (.if_icmp .le 7, 3) := by decide +kernel
theorem d_M_made_189 : decode b_M_made 189 = .ok (.iconst 2, 1) := by decide +kernel
theorem d_M_made_190 : decode b_M_made 190 = .ok (.goto 4, 3) := by decide +kernel
theorem d_M_made_193 : decode b_M_made 193 = .ok (.iconst 0, 1) := by decide +kernel
theorem d_M_made_194 : decode b_M_made 194 = .ok (.putfield 87, 3) := by decide +kernel
theorem d_M_made_197 : decode b_M_made 197 = .ok (.aload_n 0, 1) := by decide +kernel
theorem d_M_made_198 : decode b_M_made 198 = .ok (.getfield 87, 3) := by decide +kernel
theorem d_M_made_201 : decode b_M_made 201 = .ok (.ifCond .le 7, 3) := by decide +kernel
theorem d_M_made_204 : decode b_M_made 204 = .ok (.iconst 0, 1) := by decide +kernel
theorem d_M_made_205 : decode b_M_made 205 = .ok (.goto 19, 3) := by decide +kernel
theorem d_M_made_208 : decode b_M_made 208 = .ok (.aload_n 0, 1) := by decide +kernel
theorem d_M_made_209 : decode b_M_made 209 = .ok (.iconst 2, 1) := by decide +kernel
theorem d_M_made_210 : decode b_M_made 210 = .ok (.aload_n 0, 1) := by decide +kernel
theorem d_M_made_211 : decode b_M_made 211 = .ok (.getfield 13, 3) := by decide +kernel
theorem d_M_made_214 : decode b_M_made 214 = .ok (.iload_n 1, 1) := by decide +kernel
theorem d_M_made_215 : decode b_M_made 215 = .ok (.iaload, 1) := by decide +kernel
theorem d_M_made_216 : decode b_M_made 216 = .ok (.iload_n 1, 1) := by decide +kernel
theorem d_M_made_217 : decode b_M_made 217 = .ok (.iload_n 2, 1) := by decide +kernel
theorem d_M_made_218 : decode b_M_made 218 = .ok (.iload_n 3, 1) := by decide +kernel
theorem d_M_made_219 : decode b_M_made 219 = .ok (.iload 6, 2) := by decide +kernel
theorem d_M_made_221 : decode b_M_made 221 = .ok (.invokevirtual 100, 3) := by decide +kernel
theorem d_M_made_224 : decode b_M_made 224 = .ok (.ireturn, 1) := by decide +kernel
theorem d_M_isPattern_0 : decode b_M_isPattern 0 = .ok (.iload_n 1, 1) := by decide +kernel
theorem d_M_isPattern_1 : decode b_M_isPattern 1 = .ok (.ifCond .lt 15, 3) := by decide +kernel
theorem d_M_isPattern_4 : decode b_M_isPattern 4 = .ok (.iload_n 1, 1) := by decide +kernel
theorem d_M_isPattern_5 : decode b_M_isPattern 5 = .ok (.aload_n 0, 1) := by decide +kernel
theorem d_M_isPattern_6 : decode b_M_isPattern 6 = .ok (.getfield 90, 3) := by decide +kernel
theorem d_M_isPattern_9 : decode b_M_isPattern 9 = .ok (.if_icmp .ge 7, 3) := by decide +kernel
theorem d_M_isPattern_12 : decode b_M_isPattern 12 = .ok (.iconst 1, 1) := by decide +kernel
theorem d_M_isPattern_13 : decode b_M_isPattern 13 = .ok (.goto 4, 3) := by decide +kernel
theorem d_M_isPattern_16 : decode b_M_isPattern 16 = .ok (.iconst 0, 1) := by decide +kernel
theorem d_M_isPattern_17 : decode b_M_isPattern 17 = .ok (.ireturn, 1) := by decide +kernel
theorem d_M_begin_0 : decode b_M_begin 0 = .ok (.aload_n 0, 1) := by decide +kernel
theorem d_M_begin_1 : decode b_M_begin 1 = .ok (.aload_n 0, 1) := by decide +kernel
theorem d_M_begin_2 : decode b_M_begin 2 = .ok (.iload_n 1, 1) := by decide +kernel
theorem d_M_begin_3 : decode b_M_begin 3 = .ok (.invokevirtual 93, 3) := by decide +kernel
theorem d_M_begin_6 : decode b_M_begin 6 = .ok (.ifCond .eq 7, 3) := by decide +kernel
theorem d_M_begin_9 : decode b_M_begin 9 = .ok (.iconst 0, 1) := by decide +kernel
theorem d_M_begin_10 : decode b_M_begin 10 = .ok (.goto 4, 3) := by decide +kernel
theorem d_M_begin_13 : decode b_M_begin 13 = .ok (.iconst 1, 1) := by decide +kernel
theorem d_M_begin_14 : decode b_M_begin 14 = .ok (.putfield 87, 3) := by decide +kernel
theorem d_M_begin_17 : decode b_M_begin 17 = .ok (.aload_n 0, 1) := by decide +kernel
theorem d_M_begin_18 : decode b_M_begin 18 = .ok (.getfield 87, 3) := by decide +kernel
theorem d_M_begin_21 : decode b_M_begin 21 = .ok (.ifCond .le 4, 3) := by decide +kernel
theorem d_M_begin_24 : decode b_M_begin 24 = .ok (.return_, 1) := by decide +kernel
theorem d_M_begin_25 : decode b_M_begin 25 = .ok (.aload_n 0, 1) := by decide +kernel
theorem d_M_begin_26 : decode b_M_begin 26 = .ok (.iconst 0, 1) := by decide +kernel
theorem d_M_begin_27 : decode b_M_begin 27 = .ok (.putfield 107, 3) := by decide +kernel
theorem d_M_begin_30 : decode b_M_begin 30 = .ok (.aload_n 0, 1) := by decide +kernel
theorem d_M_begin_31 : decode b_M_begin 31 = .ok (.iload_n 1, 1) := by decide +kernel
theorem d_M_begin_32 : decode b_M_begin 32 = .ok (.putfield 110, 3) := by decide +kernel
theorem d_M_begin_35 : decode b_M_begin 35 = .ok (.return_, 1) := by decide +kernel
theorem d_M_clause_0 : decode b_M_clause 0 = .ok (.aload_n 0, 1) := by decide +kernel
theorem d_M_clause_1 : decode b_M_clause 1 = .ok (.iload_n 1, 1) := by decide +kernel
theorem d_M_clause_2 : decode b_M_clause 2 = .ok (.invokevirtual 104, 3) := by decide +kernel
theorem d_M_clause_5 : decode b_M_clause 5 = .ok (.ifCond .eq 20, 3) := by decide +kernel
theorem d_M_clause_8 : decode b_M_clause 8 = .ok (.aload_n 0, 1) := by decide +kernel
theorem d_M_clause_9 : decode b_M_clause 9 = .ok (.getfield 29, 3) := by decide +kernel
theorem d_M_clause_12 : decode b_M_clause 12 = .ok (.iload_n 1, 1) := by decide +kernel
theorem d_M_clause_13 : decode b_M_clause 13 = .ok (.iaload, 1) := by decide +kernel
theorem d_M_clause_14 : decode b_M_clause 14 = .ok (.aload_n 0, 1) := by decide +kernel
theorem d_M_clause_15 : decode b_M_clause 15 = .ok (.getfield 110, 3) := by decide +kernel
theorem d_M_clause_18 : decode b_M_clause 18 = .ok (.if_icmp .ne 7, 3) := by decide +kernel
theorem d_M_clause_21 : decode b_M_clause 21 = .ok (.iconst 1, 1) := by decide +kernel
theorem d_M_clause_22 : decode b_M_clause 22 = .ok (.goto 4, 3) := by decide +kernel
theorem d_M_clause_25 : decode b_M_clause 25 = .ok (.iconst 0, 1) := by decide +kernel
theorem d_M_clause_26 : decode b_M_clause 26 = .ok (.istore_n 2, 1) := by decide +kernel
theorem d_M_clause_27 : decode b_M_clause 27 = .ok (.iload_n 2, 1) := by decide +kernel
theorem d_M_clause_28 : decode b_M_clause 28 = .ok (.ifCond .eq 12, 3) := by decide +kernel
theorem d_M_clause_31 : decode b_M_clause 31 = .ok (.aload_n 0, 1) := by decide +kernel
theorem d_M_clause_32 : decode b_M_clause 32 = .ok (.getfield 41, 3) := by decide +kernel
theorem d_M_clause_35 : decode b_M_clause 35 = .ok (.iload_n 1, 1) := by decide +kernel
theorem d_M_clause_36 : decode b_M_clause 36 = .ok (.iaload, 1) := by decide +kernel
theorem d_M_clause_37 : decode b_M_clause 37 = .ok (.goto 4, 3) := by decide +kernel
theorem d_M_clause_40 : decode b_M_clause 40 = .ok (.iconst 0, 1) := by decide +kernel
theorem d_M_clause_41 : decode b_M_clause 41 = .ok (.istore_n 3, 1) := by decide +kernel
theorem d_M_clause_42 : decode b_M_clause 42 = .ok (.iconst 0, 1) := by decide +kernel
theorem d_M_clause_43 : decode b_M_clause 43 = .ok (.istore 4, 2) := by decide +kernel
theorem d_M_clause_45 : decode b_M_clause 45 = .ok (.iload 4, 2) := by decide +kernel
theorem d_M_clause_47 : decode b_M_clause 47 = .ok (.aload_n 0, 1) := by decide +kernel
theorem d_M_clause_48 : decode b_M_clause 48 = .ok (.getfield 107, 3) := by decide +kernel
theorem d_M_clause_51 : decode b_M_clause 51 = .ok (.if_icmp .ge 24, 3) := by decide +kernel
theorem d_M_clause_54 : decode b_M_clause 54 = .ok (.iload_n 3, 1) := by decide +kernel
theorem d_M_clause_55 : decode b_M_clause 55 = .ok (.aload_n 0, 1) := by decide +kernel
theorem d_M_clause_56 : decode b_M_clause 56 = .ok (.getfield 41, 3) := by decide +kernel
theorem d_M_clause_59 : decode b_M_clause 59 = .ok (.aload_n 0, 1) := by decide +kernel
theorem d_M_clause_60 : decode b_M_clause 60 = .ok (.getfield 44, 3) := by decide +kernel
theorem d_M_clause_63 : decode b_M_clause 63 = .ok (.iload 4, 2) := by decide +kernel
theorem d_M_clause_65 : decode b_M_clause 65 = .ok (.iaload, 1) := by decide +kernel
theorem d_M_clause_66 : decode b_M_clause 66 = .ok (.iaload, 1) := by decide +kernel
theorem d_M_clause_67 : decode b_M_clause 67 = .ok (.iadd, 1) := by decide +kernel
theorem d_M_clause_68 : decode b_M_clause 68 = .ok (.istore_n 3, 1) := by decide +kernel
theorem d_M_clause_69 : decode b_M_clause 69 = .ok (.iinc 4 1, 3) := by decide +kernel
theorem d_M_clause_72 : decode b_M_clause 72 = .ok (.goto (-27), 3) := by decide +kernel
theorem d_M_clause_75 : decode b_M_clause 75 = .ok (.aload_n 0, 1) := by decide +kernel
theorem d_M_clause_76 : decode b_M_clause 76 = .ok (.iload_n 2, 1) := by decide +kernel
theorem d_M_clause_77 : decode b_M_clause 77 = .ok (.ifCond .ne 7, 3) := by decide +kernel
theorem d_M_clause_80 : decode b_M_clause 80 = .ok (.iconst 1, 1) := by decide +kernel
theorem d_M_clause_81 : decode b_M_clause 81 = .ok (.goto 23, 3) := by decide +kernel
theorem d_M_clause_84 : decode b_M_clause 84 = .ok (.aload_n 0, 1) := by decide +kernel
theorem d_M_clause_85 : decode b_M_clause 85 = .ok (.getfield 107, 3) := by decide +kernel
theorem d_M_clause_88 : decode b_M_clause 88 = .ok (.bipush 8, 2) := by decide +kernel
theorem d_M_clause_90 : decode b_M_clause 90 = .ok (.if_icmp .eq 9, 3) := by decide +kernel
theorem d_M_clause_93 : decode b_M_clause 93 = .ok (.iload_n 3, 1) := by decide +kernel
theorem d_M_clause_94 : decode b_M_clause 94 = .ok (.bipush 40, 2) := by decide +kernel
theorem d_M_clause_96 : decode b_M_clause 96 = .ok (.if_icmp .le 7, 3) := by decide +kernel
theorem d_M_clause_99 : decode b_M_clause 99 = .ok (.iconst 2, 1) := by decide +kernel
theorem d_M_clause_100 : decode b_M_clause 100 = .ok (.goto 4, 3) := by decide +kernel
theorem d_M_clause_103 : decode b_M_clause 103 = .ok (.iconst 0, 1) := by decide +kernel
theorem d_M_clause_104 : decode b_M_clause 104 = .ok (.putfield 87, 3) := by decide +kernel
theorem d_M_clause_107 : decode b_M_clause 107 = .ok (.aload_n 0, 1) := by decide +kernel
theorem d_M_clause_108 : decode b_M_clause 108 = .ok (.getfield 87, 3) := by decide +kernel
theorem d_M_clause_111 : decode b_M_clause 111 = .ok (.ifCond .le 5, 3) := by decide +kernel
theorem d_M_clause_114 : decode b_M_clause 114 = .ok (.iconst 0, 1) := by decide +kernel
theorem d_M_clause_115 : decode b_M_clause 115 = .ok (.ireturn, 1) := by decide +kernel
theorem d_M_clause_116 : decode b_M_clause 116 = .ok (.aload_n 0, 1) := by decide +kernel
theorem d_M_clause_117 : decode b_M_clause 117 = .ok (.getfield 44, 3) := by decide +kernel
theorem d_M_clause_120 : decode b_M_clause 120 = .ok (.aload_n 0, 1) := by decide +kernel
theorem d_M_clause_121 : decode b_M_clause 121 = .ok (.getfield 107, 3) := by decide +kernel
theorem d_M_clause_124 : decode b_M_clause 124 = .ok (.iload_n 1, 1) := by decide +kernel
theorem d_M_clause_125 : decode b_M_clause 125 = .ok (.iastore, 1) := by decide +kernel
theorem d_M_clause_126 : decode b_M_clause 126 = .ok (.aload_n 0, 1) := by decide +kernel
theorem d_M_clause_127 : decode b_M_clause 127 = .ok (.dup, 1) := by decide +kernel
theorem d_M_clause_128 : decode b_M_clause 128 = .ok (.getfield 107, 3) := by decide +kernel
theorem d_M_clause_131 : decode b_M_clause 131 = .ok (.iconst 1, 1) := by decide +kernel
theorem d_M_clause_132 : decode b_M_clause 132 = .ok (.iadd, 1) := by decide +kernel
theorem d_M_clause_133 : decode b_M_clause 133 = .ok (.putfield 107, 3) := by decide +kernel
theorem d_M_clause_136 : decode b_M_clause 136 = .ok (.aload_n 0, 1) := by decide +kernel
theorem d_M_clause_137 : decode b_M_clause 137 = .ok (.aload_n 0, 1) := by decide +kernel
theorem d_M_clause_138 : decode b_M_clause 138 = .ok (.getfield 107, 3) := by decide +kernel
theorem d_M_clause_141 : decode b_M_clause 141 = .ok (.iconst 1, 1) := by decide +kernel
theorem d_M_clause_142 : decode b_M_clause 142 = .ok (.isub, 1) := by decide +kernel
theorem d_M_clause_143 : decode b_M_clause 143 = .ok (.invokevirtual 165, 3) := by decide +kernel
theorem d_M_clause_146 : decode b_M_clause 146 = .ok (.ireturn, 1) := by decide +kernel
theorem d_M_reaches_0 : decode b_M_reaches 0 = .ok (.aload_n 0, 1) := by decide +kernel
theorem d_M_reaches_1 : decode b_M_reaches 1 = .ok (.iconst 1, 1) := by decide +kernel
theorem d_M_reaches_2 : decode b_M_reaches 2 = .ok (.putfield 143, 3) := by decide +kernel
theorem d_M_reaches_5 : decode b_M_reaches 5 = .ok (.aload_n 0, 1) := by decide +kernel
theorem d_M_reaches_6 : decode b_M_reaches 6 = .ok (.getfield 78, 3) := by decide +kernel
theorem d_M_reaches_9 : decode b_M_reaches 9 = .ok (.iconst 0, 1) := by decide +kernel
theorem d_M_reaches_10 : decode b_M_reaches 10 = .ok (.aload_n 0, 1) := by decide +kernel
theorem d_M_reaches_11 : decode b_M_reaches 11 = .ok (.getfield 44, 3) := by decide +kernel
theorem d_M_reaches_14 : decode b_M_reaches 14 = .ok (.iload_n 1, 1) := by decide +kernel
theorem d_M_reaches_15 : decode b_M_reaches 15 = .ok (.iaload, 1) := by decide +kernel
theorem d_M_reaches_16 : decode b_M_reaches 16 = .ok (.iastore, 1) := by decide +kernel
theorem d_M_reaches_17 : decode b_M_reaches 17 = .ok (.aload_n 0, 1) := by decide +kernel
theorem d_M_reaches_18 : decode b_M_reaches 18 = .ok (.iload_n 1, 1) := by decide +kernel
theorem d_M_reaches_19 : decode b_M_reaches 19 = .ok (.putfield 146, 3) := by decide +kernel
theorem d_M_reaches_22 : decode b_M_reaches 22 = .ok (.iconst 0, 1) := by decide +kernel
theorem d_M_reaches_23 : decode b_M_reaches 23 = .ok (.istore_n 2, 1) := by decide +kernel
theorem d_M_reaches_24 : decode b_M_reaches 24 = .ok (.iload_n 2, 1) := by decide +kernel
theorem d_M_reaches_25 : decode b_M_reaches 25 = .ok (.iload_n 1, 1) := by decide +kernel
theorem d_M_reaches_26 : decode b_M_reaches 26 = .ok (.if_icmp .ge 21, 3) := by decide +kernel
theorem d_M_reaches_29 : decode b_M_reaches 29 = .ok (.aload_n 0, 1) := by decide +kernel
theorem d_M_reaches_30 : decode b_M_reaches 30 = .ok (.getfield 81, 3) := by decide +kernel
theorem d_M_reaches_33 : decode b_M_reaches 33 = .ok (.iload_n 2, 1) := by decide +kernel
theorem d_M_reaches_34 : decode b_M_reaches 34 = .ok (.aload_n 0, 1) := by decide +kernel
theorem d_M_reaches_35 : decode b_M_reaches 35 = .ok (.getfield 44, 3) := by decide +kernel
theorem d_M_reaches_38 : decode b_M_reaches 38 = .ok (.iload_n 2, 1) := by decide +kernel
theorem d_M_reaches_39 : decode b_M_reaches 39 = .ok (.iaload, 1) := by decide +kernel
theorem d_M_reaches_40 : decode b_M_reaches 40 = .ok (.iastore, 1) := by decide +kernel
theorem d_M_reaches_41 : decode b_M_reaches 41 = .ok (.iinc 2 1, 3) := by decide +kernel
theorem d_M_reaches_44 : decode b_M_reaches 44 = .ok (.goto (-20), 3) := by decide +kernel
theorem d_M_reaches_47 : decode b_M_reaches 47 = .ok (.aload_n 0, 1) := by decide +kernel
theorem d_M_reaches_48 : decode b_M_reaches 48 = .ok (.aload_n 0, 1) := by decide +kernel
theorem d_M_reaches_49 : decode b_M_reaches 49 = .ok (.getfield 110, 3) := by decide +kernel
theorem d_M_reaches_52 : decode b_M_reaches 52 = .ok (.invokevirtual 162, 3) := by decide +kernel
theorem d_M_reaches_55 : decode b_M_reaches 55 = .ok (.ireturn, 1) := by decide +kernel
theorem d_M_has_0 : decode b_M_has 0 = .ok (.aload_n 0, 1) := by decide +kernel
theorem d_M_has_1 : decode b_M_has 1 = .ok (.invokevirtual 153, 3) := by decide +kernel
theorem d_M_has_4 : decode b_M_has 4 = .ok (.aload_n 0, 1) := by decide +kernel
theorem d_M_has_5 : decode b_M_has 5 = .ok (.getfield 47, 3) := by decide +kernel
theorem d_M_has_8 : decode b_M_has 8 = .ok (.iload_n 1, 1) := by decide +kernel
theorem d_M_has_9 : decode b_M_has 9 = .ok (.baload, 1) := by decide +kernel
theorem d_M_has_10 : decode b_M_has 10 = .ok (.ifCond .ne 5, 3) := by decide +kernel
theorem d_M_has_13 : decode b_M_has 13 = .ok (.iconst 0, 1) := by decide +kernel
theorem d_M_has_14 : decode b_M_has 14 = .ok (.ireturn, 1) := by decide +kernel
theorem d_M_has_15 : decode b_M_has 15 = .ok (.aload_n 0, 1) := by decide +kernel
theorem d_M_has_16 : decode b_M_has 16 = .ok (.iconst 0, 1) := by decide +kernel
theorem d_M_has_17 : decode b_M_has 17 = .ok (.putfield 119, 3) := by decide +kernel
theorem d_M_has_20 : decode b_M_has 20 = .ok (.iconst 0, 1) := by decide +kernel
theorem d_M_has_21 : decode b_M_has 21 = .ok (.istore_n 2, 1) := by decide +kernel
theorem d_M_has_22 : decode b_M_has 22 = .ok (.iload_n 2, 1) := by decide +kernel
theorem d_M_has_23 : decode b_M_has 23 = .ok (.aload_n 0, 1) := by decide +kernel
theorem d_M_has_24 : decode b_M_has 24 = .ok (.getfield 97, 3) := by decide +kernel
theorem d_M_has_27 : decode b_M_has 27 = .ok (.if_icmp .ge 16, 3) := by decide +kernel
theorem d_M_has_30 : decode b_M_has 30 = .ok (.aload_n 0, 1) := by decide +kernel
theorem d_M_has_31 : decode b_M_has 31 = .ok (.getfield 75, 3) := by decide +kernel
theorem d_M_has_34 : decode b_M_has 34 = .ok (.iload_n 2, 1) := by decide +kernel
theorem d_M_has_35 : decode b_M_has 35 = .ok (.iconst 0, 1) := by decide +kernel
theorem d_M_has_36 : decode b_M_has 36 = .ok (.bastore, 1) := by decide +kernel
theorem d_M_has_37 : decode b_M_has 37 = .ok (.iinc 2 1, 3) := by decide +kernel
theorem d_M_has_40 : decode b_M_has 40 = .ok (.goto (-18), 3) := by decide +kernel
theorem d_M_has_43 : decode b_M_has 43 = .ok (.iconst 0, 1) := by decide +kernel
theorem d_M_has_44 : decode b_M_has 44 = .ok (.istore_n 2, 1) := by decide +kernel
theorem d_M_has_45 : decode b_M_has 45 = .ok (.iload_n 2, 1) := by decide +kernel
theorem d_M_has_46 : decode b_M_has 46 = .ok (.aload_n 0, 1) := by decide +kernel
theorem d_M_has_47 : decode b_M_has 47 = .ok (.getfield 143, 3) := by decide +kernel
theorem d_M_has_50 : decode b_M_has 50 = .ok (.if_icmp .ge 19, 3) := by decide +kernel
theorem d_M_has_53 : decode b_M_has 53 = .ok (.aload_n 0, 1) := by decide +kernel
theorem d_M_has_54 : decode b_M_has 54 = .ok (.aload_n 0, 1) := by decide +kernel
theorem d_M_has_55 : decode b_M_has 55 = .ok (.getfield 78, 3) := by decide +kernel
theorem d_M_has_58 : decode b_M_has 58 = .ok (.iload_n 2, 1) := by decide +kernel
theorem d_M_has_59 : decode b_M_has 59 = .ok (.iaload, 1) := by decide +kernel
theorem d_M_has_60 : decode b_M_has 60 = .ok (.invokevirtual 149, 3) := by decide +kernel
theorem d_M_has_63 : decode b_M_has 63 = .ok (.iinc 2 1, 3) := by decide +kernel
theorem d_M_has_66 : decode b_M_has 66 = .ok (.goto (-21), 3) := by decide +kernel
theorem d_M_has_69 : decode b_M_has 69 = .ok (.iconst 0, 1) := by decide +kernel
theorem d_M_has_70 : decode b_M_has 70 = .ok (.istore_n 2, 1) := by decide +kernel
theorem d_M_has_71 : decode b_M_has 71 = .ok (.iload_n 2, 1) := by decide +kernel
theorem d_M_has_72 : decode b_M_has 72 = .ok (.aload_n 0, 1) := by decide +kernel
theorem d_M_has_73 : decode b_M_has 73 = .ok (.getfield 146, 3) := by decide +kernel
theorem d_M_has_76 : decode b_M_has 76 = .ok (.if_icmp .ge 19, 3) := by decide +kernel
theorem d_M_has_79 : decode b_M_has 79 = .ok (.aload_n 0, 1) := by decide +kernel
theorem d_M_has_80 : decode b_M_has 80 = .ok (.aload_n 0, 1) := by decide +kernel
theorem d_M_has_81 : decode b_M_has 81 = .ok (.getfield 81, 3) := by decide +kernel
theorem d_M_has_84 : decode b_M_has 84 = .ok (.iload_n 2, 1) := by decide +kernel
theorem d_M_has_85 : decode b_M_has 85 = .ok (.iaload, 1) := by decide +kernel
theorem d_M_has_86 : decode b_M_has 86 = .ok (.invokevirtual 149, 3) := by decide +kernel
theorem d_M_has_89 : decode b_M_has 89 = .ok (.iinc 2 1, 3) := by decide +kernel
theorem d_M_has_92 : decode b_M_has 92 = .ok (.goto (-21), 3) := by decide +kernel
theorem d_M_has_95 : decode b_M_has 95 = .ok (.aload_n 0, 1) := by decide +kernel
theorem d_M_has_96 : decode b_M_has 96 = .ok (.iconst 0, 1) := by decide +kernel
theorem d_M_has_97 : decode b_M_has 97 = .ok (.putfield 136, 3) := by decide +kernel
theorem d_M_has_100 : decode b_M_has 100 = .ok (.aload_n 0, 1) := by decide +kernel
theorem d_M_has_101 : decode b_M_has 101 = .ok (.iload_n 1, 1) := by decide +kernel
theorem d_M_has_102 : decode b_M_has 102 = .ok (.invokevirtual 156, 3) := by decide +kernel
theorem d_M_has_105 : decode b_M_has 105 = .ok (.istore_n 2, 1) := by decide +kernel
theorem d_M_has_106 : decode b_M_has 106 = .ok (.iload_n 2, 1) := by decide +kernel
theorem d_M_has_107 : decode b_M_has 107 = .ok (.iconst 1, 1) := by decide +kernel
theorem d_M_has_108 : decode b_M_has 108 = .ok (.if_icmp .ne 5, 3) := by decide +kernel
theorem d_M_has_111 : decode b_M_has 111 = .ok (.iconst 1, 1) := by decide +kernel
theorem d_M_has_112 : decode b_M_has 112 = .ok (.ireturn, 1) := by decide +kernel
theorem d_M_has_113 : decode b_M_has 113 = .ok (.iload_n 2, 1) := by decide +kernel
theorem d_M_has_114 : decode b_M_has 114 = .ok (.iconst 2, 1) := by decide +kernel
theorem d_M_has_115 : decode b_M_has 115 = .ok (.if_icmp .ne 61, 3) := by decide +kernel
theorem d_M_has_118 : decode b_M_has 118 = .ok (.aload_n 0, 1) := by decide +kernel
theorem d_M_has_119 : decode b_M_has 119 = .ok (.getfield 66, 3) := by decide +kernel
theorem d_M_has_122 : decode b_M_has 122 = .ok (.aload_n 0, 1) := by decide +kernel
theorem d_M_has_123 : decode b_M_has 123 = .ok (.getfield 136, 3) := by decide +kernel
theorem d_M_has_126 : decode b_M_has 126 = .ok (.aload_n 0, 1) := by decide +kernel
theorem d_M_has_127 : decode b_M_has 127 = .ok (.getfield 129, 3) := by decide +kernel
theorem d_M_has_130 : decode b_M_has 130 = .ok (.iastore, 1) := by decide +kernel
theorem d_M_has_131 : decode b_M_has 131 = .ok (.aload_n 0, 1) := by decide +kernel
theorem d_M_has_132 : decode b_M_has 132 = .ok (.getfield 69, 3) := by decide +kernel
theorem d_M_has_135 : decode b_M_has 135 = .ok (.aload_n 0, 1) := by decide +kernel
theorem d_M_has_136 : decode b_M_has 136 = .ok (.getfield 136, 3) := by decide +kernel
theorem d_M_has_139 : decode b_M_has 139 = .ok (.iconst 0, 1) := by decide +kernel
theorem d_M_has_140 : decode b_M_has 140 = .ok (.iastore, 1) := by decide +kernel
theorem d_M_has_141 : decode b_M_has 141 = .ok (.aload_n 0, 1) := by decide +kernel
theorem d_M_has_142 : decode b_M_has 142 = .ok (.getfield 72, 3) := by decide +kernel
theorem d_M_has_145 : decode b_M_has 145 = .ok (.aload_n 0, 1) := by decide +kernel
theorem d_M_has_146 : decode b_M_has 146 = .ok (.getfield 136, 3) := by decide +kernel
theorem d_M_has_149 : decode b_M_has 149 = .ok (.aload_n 0, 1) := by decide +kernel
theorem d_M_has_150 : decode b_M_has 150 = .ok (.aload_n 0, 1) := by decide +kernel
theorem d_M_has_151 : decode b_M_has 151 = .ok (.getfield 54, 3) := by decide +kernel
theorem d_M_has_154 : decode b_M_has 154 = .ok (.aload_n 0, 1) := by decide +kernel
theorem d_M_has_155 : decode b_M_has 155 = .ok (.getfield 129, 3) := by decide +kernel
theorem d_M_has_158 : decode b_M_has 158 = .ok (.iaload, 1) := by decide +kernel
theorem d_M_has_159 : decode b_M_has 159 = .ok (.invokevirtual 159, 3) := by decide +kernel
theorem d_M_has_162 : decode b_M_has 162 = .ok (.iastore, 1) := by decide +kernel
theorem d_M_has_163 : decode b_M_has 163 = .ok (.aload_n 0, 1) := by decide +kernel
theorem d_M_has_164 : decode b_M_has 164 = .ok (.dup, 1) := by decide +kernel
theorem d_M_has_165 : decode b_M_has 165 = .ok (.getfield 136, 3) := by decide +kernel
theorem d_M_has_168 : decode b_M_has 168 = .ok (.iconst 1, 1) := by decide +kernel
theorem d_M_has_169 : decode b_M_has 169 = .ok (.iadd, 1) := by decide +kernel
theorem d_M_has_170 : decode b_M_has 170 = .ok (.putfield 136, 3) := by decide +kernel
theorem d_M_has_173 : decode b_M_has 173 = .ok (.goto (-73), 3) := by decide +kernel
theorem d_M_has_176 : decode b_M_has 176 = .ok (.aload_n 0, 1) := by decide +kernel
theorem d_M_has_177 : decode b_M_has 177 = .ok (.getfield 136, 3) := by decide +kernel
theorem d_M_has_180 : decode b_M_has 180 = .ok (.ifCond .le 43, 3) := by decide +kernel
theorem d_M_has_183 : decode b_M_has 183 = .ok (.aload_n 0, 1) := by decide +kernel
theorem d_M_has_184 : decode b_M_has 184 = .ok (.getfield 69, 3) := by decide +kernel
theorem d_M_has_187 : decode b_M_has 187 = .ok (.aload_n 0, 1) := by decide +kernel
theorem d_M_has_188 : decode b_M_has 188 = .ok (.getfield 136, 3) := by decide +kernel
theorem d_M_has_191 : decode b_M_has 191 = .ok (.iconst 1, 1) := by decide +kernel
theorem d_M_has_192 : decode b_M_has 192 = .ok (.isub, 1) := by decide +kernel
theorem d_M_has_193 : decode b_M_has 193 = .ok (.iaload, 1) := by decide +kernel
theorem d_M_has_194 : decode b_M_has 194 = .ok (.iconst 1, 1) := by decide +kernel
theorem d_M_has_195 : decode b_M_has 195 = .ok (.iadd, 1) := by decide +kernel
theorem d_M_has_196 : decode b_M_has 196 = .ok (.aload_n 0, 1) := by decide +kernel
theorem d_M_has_197 : decode b_M_has 197 = .ok (.getfield 72, 3) := by decide +kernel
theorem d_M_has_200 : decode b_M_has 200 = .ok (.aload_n 0, 1) := by decide +kernel
theorem d_M_has_201 : decode b_M_has 201 = .ok (.getfield 136, 3) := by decide +kernel
theorem d_M_has_204 : decode b_M_has 204 = .ok (.iconst 1, 1) := by decide +kernel
theorem d_M_has_205 : decode b_M_has 205 = .ok (.isub, 1) := by decide +kernel
theorem d_M_has_206 : decode b_M_has 206 = .ok (.iaload, 1) := by decide +kernel
theorem d_M_has_207 : decode b_M_has 207 = .ok (.if_icmp .ne 16, 3) := by decide +kernel
theorem d_M_has_210 : decode b_M_has 210 = .ok (.aload_n 0, 1) := by decide +kernel
theorem d_M_has_211 : decode b_M_has 211 = .ok (.dup, 1) := by decide +kernel
theorem d_M_has_212 : decode b_M_has 212 = .ok (.getfield 136, 3) := by decide +kernel
theorem d_M_has_215 : decode b_M_has 215 = .ok (.iconst 1, 1) := by decide +kernel
theorem d_M_has_216 : decode b_M_has 216 = .ok (.isub, 1) := by decide +kernel
theorem d_M_has_217 : decode b_M_has 217 = .ok (.putfield 136, 3) := by decide +kernel
theorem d_M_has_220 : decode b_M_has 220 = .ok (.goto (-44), 3) := by decide +kernel
theorem d_M_has_223 : decode b_M_has 223 = .ok (.aload_n 0, 1) := by decide +kernel
theorem d_M_has_224 : decode b_M_has 224 = .ok (.getfield 136, 3) := by decide +kernel
theorem d_M_has_227 : decode b_M_has 227 = .ok (.ifCond .ne 5, 3) := by decide +kernel
theorem d_M_has_230 : decode b_M_has 230 = .ok (.iconst 0, 1) := by decide +kernel
theorem d_M_has_231 : decode b_M_has 231 = .ok (.ireturn, 1) := by decide +kernel
theorem d_M_has_232 : decode b_M_has 232 = .ok (.aload_n 0, 1) := by decide +kernel
theorem d_M_has_233 : decode b_M_has 233 = .ok (.getfield 69, 3) := by decide +kernel
theorem d_M_has_236 : decode b_M_has 236 = .ok (.aload_n 0, 1) := by decide +kernel
theorem d_M_has_237 : decode b_M_has 237 = .ok (.getfield 136, 3) := by decide +kernel
theorem d_M_has_240 : decode b_M_has 240 = .ok (.iconst 1, 1) := by decide +kernel
theorem d_M_has_241 : decode b_M_has 241 = .ok (.isub, 1) := by decide +kernel
theorem d_M_has_242 : decode b_M_has 242 = .ok (.dup2, 1) := by decide +kernel
theorem d_M_has_243 : decode b_M_has 243 = .ok (.iaload, 1) := by decide +kernel
theorem d_M_has_244 : decode b_M_has 244 = .ok (.iconst 1, 1) := by decide +kernel
theorem d_M_has_245 : decode b_M_has 245 = .ok (.iadd, 1) := by decide +kernel
theorem d_M_has_246 : decode b_M_has 246 = .ok (.iastore, 1) := by decide +kernel
theorem d_M_has_247 : decode b_M_has 247 = .ok (.goto (-147), 3) := by decide +kernel
theorem d_M_live_0 : decode b_M_live 0 = .ok (.iconst 0, 1) := by decide +kernel
theorem d_M_live_1 : decode b_M_live 1 = .ok (.istore_n 1, 1) := by decide +kernel
theorem d_M_live_2 : decode b_M_live 2 = .ok (.iload_n 1, 1) := by decide +kernel
theorem d_M_live_3 : decode b_M_live 3 = .ok (.aload_n 0, 1) := by decide +kernel
theorem d_M_live_4 : decode b_M_live 4 = .ok (.getfield 7, 3) := by decide +kernel
theorem d_M_live_7 : decode b_M_live 7 = .ok (.if_icmp .ge 16, 3) := by decide +kernel
theorem d_M_live_10 : decode b_M_live 10 = .ok (.aload_n 0, 1) := by decide +kernel
theorem d_M_live_11 : decode b_M_live 11 = .ok (.getfield 47, 3) := by decide +kernel
theorem d_M_live_14 : decode b_M_live 14 = .ok (.iload_n 1, 1) := by decide +kernel
theorem d_M_live_15 : decode b_M_live 15 = .ok (.iconst 1, 1) := by decide +kernel
theorem d_M_live_16 : decode b_M_live 16 = .ok (.bastore, 1) := by decide +kernel
theorem d_M_live_17 : decode b_M_live 17 = .ok (.iinc 1 1, 3) := by decide +kernel
theorem d_M_live_20 : decode b_M_live 20 = .ok (.goto (-18), 3) := by decide +kernel
theorem d_M_live_23 : decode b_M_live 23 = .ok (.iconst 1, 1) := by decide +kernel
theorem d_M_live_24 : decode b_M_live 24 = .ok (.istore_n 1, 1) := by decide +kernel
theorem d_M_live_25 : decode b_M_live 25 = .ok (.iload_n 1, 1) := by decide +kernel
theorem d_M_live_26 : decode b_M_live 26 = .ok (.ifCond .eq 102, 3) := by decide +kernel
theorem d_M_live_29 : decode b_M_live 29 = .ok (.iconst 0, 1) := by decide +kernel
theorem d_M_live_30 : decode b_M_live 30 = .ok (.istore_n 1, 1) := by decide +kernel
theorem d_M_live_31 : decode b_M_live 31 = .ok (.iconst 1, 1) := by decide +kernel
theorem d_M_live_32 : decode b_M_live 32 = .ok (.istore_n 2, 1) := by decide +kernel
theorem d_M_live_33 : decode b_M_live 33 = .ok (.iload_n 2, 1) := by decide +kernel
theorem d_M_live_34 : decode b_M_live 34 = .ok (.aload_n 0, 1) := by decide +kernel
theorem d_M_live_35 : decode b_M_live 35 = .ok (.getfield 7, 3) := by decide +kernel
theorem d_M_live_38 : decode b_M_live 38 = .ok (.if_icmp .ge 87, 3) := by decide +kernel
theorem d_M_live_41 : decode b_M_live 41 = .ok (.aload_n 0, 1) := by decide +kernel
theorem d_M_live_42 : decode b_M_live 42 = .ok (.getfield 47, 3) := by decide +kernel
theorem d_M_live_45 : decode b_M_live 45 = .ok (.iload_n 2, 1) := by decide +kernel
theorem d_M_live_46 : decode b_M_live 46 = .ok (.baload, 1) := by decide +kernel
theorem d_M_live_47 : decode b_M_live 47 = .ok (.ifCond .ne 6, 3) := by decide +kernel
theorem d_M_live_50 : decode b_M_live 50 = .ok (.goto 69, 3) := by decide +kernel
theorem d_M_live_53 : decode b_M_live 53 = .ok (.iconst 0, 1) := by decide +kernel
theorem d_M_live_54 : decode b_M_live 54 = .ok (.istore_n 3, 1) := by decide +kernel
theorem d_M_live_55 : decode b_M_live 55 = .ok (.iconst 0, 1) := by decide +kernel
theorem d_M_live_56 : decode b_M_live 56 = .ok (.istore 4, 2) := by decide +kernel
theorem d_M_live_58 : decode b_M_live 58 = .ok (.iload 4, 2) := by decide +kernel
theorem d_M_live_60 : decode b_M_live 60 = .ok (.aload_n 0, 1) := by decide +kernel
theorem d_M_live_61 : decode b_M_live 61 = .ok (.getfield 97, 3) := by decide +kernel
theorem d_M_live_64 : decode b_M_live 64 = .ok (.if_icmp .ge 39, 3) := by decide +kernel
theorem d_M_live_67 : decode b_M_live 67 = .ok (.iload_n 3, 1) := by decide +kernel
theorem d_M_live_68 : decode b_M_live 68 = .ok (.ifCond .ne 23, 3) := by decide +kernel
theorem d_M_live_71 : decode b_M_live 71 = .ok (.aload_n 0, 1) := by decide +kernel
theorem d_M_live_72 : decode b_M_live 72 = .ok (.getfield 13, 3) := by decide +kernel
theorem d_M_live_75 : decode b_M_live 75 = .ok (.iload 4, 2) := by decide +kernel
theorem d_M_live_77 : decode b_M_live 77 = .ok (.iaload, 1) := by decide +kernel
theorem d_M_live_78 : decode b_M_live 78 = .ok (.iload_n 2, 1) := by decide +kernel
theorem d_M_live_79 : decode b_M_live 79 = .ok (.if_icmp .ne 16, 3) := by decide +kernel
theorem d_M_live_82 : decode b_M_live 82 = .ok (.aload_n 0, 1) := by decide +kernel
theorem d_M_live_83 : decode b_M_live 83 = .ok (.iload 4, 2) := by decide +kernel
theorem d_M_live_85 : decode b_M_live 85 = .ok (.invokevirtual 113, 3) := by decide +kernel
theorem d_M_live_88 : decode b_M_live 88 = .ok (.ifCond .eq 7, 3) := by decide +kernel
theorem d_M_live_91 : decode b_M_live 91 = .ok (.iconst 1, 1) := by decide +kernel
theorem d_M_live_92 : decode b_M_live 92 = .ok (.goto 4, 3) := by decide +kernel
theorem d_M_live_95 : decode b_M_live 95 = .ok (.iconst 0, 1) := by decide +kernel
theorem d_M_live_96 : decode b_M_live 96 = .ok (.istore_n 3, 1) := by decide +kernel
theorem d_M_live_97 : decode b_M_live 97 = .ok (.iinc 4 1, 3) := by decide +kernel
theorem d_M_live_100 : decode b_M_live 100 = .ok (.goto (-42), 3) := by decide +kernel
theorem d_M_live_103 : decode b_M_live 103 = .ok (.iload_n 3, 1) := by decide +kernel
theorem d_M_live_104 : decode b_M_live 104 = .ok (.ifCond .eq 6, 3) := by decide +kernel
theorem d_M_live_107 : decode b_M_live 107 = .ok (.goto 12, 3) := by decide +kernel
theorem d_M_live_110 : decode b_M_live 110 = .ok (.aload_n 0, 1) := by decide +kernel
theorem d_M_live_111 : decode b_M_live 111 = .ok (.getfield 47, 3) := by decide +kernel
theorem d_M_live_114 : decode b_M_live 114 = .ok (.iload_n 2, 1) := by decide +kernel
theorem d_M_live_115 : decode b_M_live 115 = .ok (.iconst 0, 1) := by decide +kernel
theorem d_M_live_116 : decode b_M_live 116 = .ok (.bastore, 1) := by decide +kernel
theorem d_M_live_117 : decode b_M_live 117 = .ok (.iconst 1, 1) := by decide +kernel
theorem d_M_live_118 : decode b_M_live 118 = .ok (.istore_n 1, 1) := by decide +kernel
theorem d_M_live_119 : decode b_M_live 119 = .ok (.iinc 2 1, 3) := by decide +kernel
theorem d_M_live_122 : decode b_M_live 122 = .ok (.goto (-89), 3) := by decide +kernel
theorem d_M_live_125 : decode b_M_live 125 = .ok (.goto (-100), 3) := by decide +kernel
theorem d_M_live_128 : decode b_M_live 128 = .ok (.return_, 1) := by decide +kernel
theorem d_M_isUsed_0 : decode b_M_isUsed 0 = .ok (.aload_n 0, 1) := by decide +kernel
theorem d_M_isUsed_1 : decode b_M_isUsed 1 = .ok (.getfield 17, 3) := by decide +kernel
theorem d_M_isUsed_4 : decode b_M_isUsed 4 = .ok (.iload_n 1, 1) := by decide +kernel
theorem d_M_isUsed_5 : decode b_M_isUsed 5 = .ok (.iaload, 1) := by decide +kernel
theorem d_M_isUsed_6 : decode b_M_isUsed 6 = .ok (.iconst 1, 1) := by decide +kernel
theorem d_M_isUsed_7 : decode b_M_isUsed 7 = .ok (.if_icmp .lt 17, 3) := by decide +kernel
theorem d_M_isUsed_10 : decode b_M_isUsed 10 = .ok (.aload_n 0, 1) := by decide +kernel
theorem d_M_isUsed_11 : decode b_M_isUsed 11 = .ok (.getfield 47, 3) := by decide +kernel
theorem d_M_isUsed_14 : decode b_M_isUsed 14 = .ok (.aload_n 0, 1) := by decide +kernel
theorem d_M_isUsed_15 : decode b_M_isUsed 15 = .ok (.getfield 20, 3) := by decide +kernel
theorem d_M_isUsed_18 : decode b_M_isUsed 18 = .ok (.iload_n 1, 1) := by decide +kernel
theorem d_M_isUsed_19 : decode b_M_isUsed 19 = .ok (.iaload, 1) := by decide +kernel
theorem d_M_isUsed_20 : decode b_M_isUsed 20 = .ok (.baload, 1) := by decide +kernel
theorem d_M_isUsed_21 : decode b_M_isUsed 21 = .ok (.ifCond .eq 31, 3) := by decide +kernel
theorem d_M_isUsed_24 : decode b_M_isUsed 24 = .ok (.aload_n 0, 1) := by decide +kernel
theorem d_M_isUsed_25 : decode b_M_isUsed 25 = .ok (.getfield 17, 3) := by decide +kernel
theorem d_M_isUsed_28 : decode b_M_isUsed 28 = .ok (.iload_n 1, 1) := by decide +kernel
theorem d_M_isUsed_29 : decode b_M_isUsed 29 = .ok (.iaload, 1) := by decide +kernel
theorem d_M_isUsed_30 : decode b_M_isUsed 30 = .ok (.iconst 2, 1) := by decide +kernel
theorem d_M_isUsed_31 : decode b_M_isUsed 31 = .ok (.if_icmp .lt 17, 3) := by decide +kernel
theorem d_M_isUsed_34 : decode b_M_isUsed 34 = .ok (.aload_n 0, 1) := by decide +kernel
theorem d_M_isUsed_35 : decode b_M_isUsed 35 = .ok (.getfield 47, 3) := by decide +kernel
theorem d_M_isUsed_38 : decode b_M_isUsed 38 = .ok (.aload_n 0, 1) := by decide +kernel
theorem d_M_isUsed_39 : decode b_M_isUsed 39 = .ok (.getfield 23, 3) := by decide +kernel
