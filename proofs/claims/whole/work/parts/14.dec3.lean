theorem d_M_isUsed_42 : decode b_M_isUsed 42 = .ok (.iload_n 1, 1) := by decide +kernel
theorem d_M_isUsed_43 : decode b_M_isUsed 43 = .ok (.iaload, 1) := by decide +kernel
theorem d_M_isUsed_44 : decode b_M_isUsed 44 = .ok (.baload, 1) := by decide +kernel
theorem d_M_isUsed_45 : decode b_M_isUsed 45 = .ok (.ifCond .eq 7, 3) := by decide +kernel
theorem d_M_isUsed_48 : decode b_M_isUsed 48 = .ok (.iconst 1, 1) := by decide +kernel
theorem d_M_isUsed_49 : decode b_M_isUsed 49 = .ok (.goto 4, 3) := by decide +kernel
theorem d_M_isUsed_52 : decode b_M_isUsed 52 = .ok (.iconst 0, 1) := by decide +kernel
theorem d_M_isUsed_53 : decode b_M_isUsed 53 = .ok (.ireturn, 1) := by decide +kernel
theorem d_M_gather_0 : decode b_M_gather 0 = .ok (.aload_n 0, 1) := by decide +kernel
theorem d_M_gather_1 : decode b_M_gather 1 = .ok (.getfield 26, 3) := by decide +kernel
theorem d_M_gather_4 : decode b_M_gather 4 = .ok (.iload_n 1, 1) := by decide +kernel
theorem d_M_gather_5 : decode b_M_gather 5 = .ok (.iaload, 1) := by decide +kernel
theorem d_M_gather_6 : decode b_M_gather 6 = .ok (.iconst 1, 1) := by decide +kernel
theorem d_M_gather_7 : decode b_M_gather 7 = .ok (.if_icmp .ne 63, 3) := by decide +kernel
theorem d_M_gather_10 : decode b_M_gather 10 = .ok (.iconst 0, 1) := by decide +kernel
theorem d_M_gather_11 : decode b_M_gather 11 = .ok (.istore_n 2, 1) := by decide +kernel
theorem d_M_gather_12 : decode b_M_gather 12 = .ok (.iload_n 2, 1) := by decide +kernel
theorem d_M_gather_13 : decode b_M_gather 13 = .ok (.aload_n 0, 1) := by decide +kernel
theorem d_M_gather_14 : decode b_M_gather 14 = .ok (.getfield 119, 3) := by decide +kernel
theorem d_M_gather_17 : decode b_M_gather 17 = .ok (.if_icmp .ge 25, 3) := by decide +kernel
theorem d_M_gather_20 : decode b_M_gather 20 = .ok (.aload_n 0, 1) := by decide +kernel
theorem d_M_gather_21 : decode b_M_gather 21 = .ok (.getfield 84, 3) := by decide +kernel
theorem d_M_gather_24 : decode b_M_gather 24 = .ok (.iload_n 2, 1) := by decide +kernel
theorem d_M_gather_25 : decode b_M_gather 25 = .ok (.iaload, 1) := by decide +kernel
theorem d_M_gather_26 : decode b_M_gather 26 = .ok (.aload_n 0, 1) := by decide +kernel
theorem d_M_gather_27 : decode b_M_gather 27 = .ok (.getfield 32, 3) := by decide +kernel
theorem d_M_gather_30 : decode b_M_gather 30 = .ok (.iload_n 1, 1) := by decide +kernel
theorem d_M_gather_31 : decode b_M_gather 31 = .ok (.iaload, 1) := by decide +kernel
theorem d_M_gather_32 : decode b_M_gather 32 = .ok (.if_icmp .ne 4, 3) := by decide +kernel
theorem d_M_gather_35 : decode b_M_gather 35 = .ok (.return_, 1) := by decide +kernel
theorem d_M_gather_36 : decode b_M_gather 36 = .ok (.iinc 2 1, 3) := by decide +kernel
theorem d_M_gather_39 : decode b_M_gather 39 = .ok (.goto (-27), 3) := by decide +kernel
theorem d_M_gather_42 : decode b_M_gather 42 = .ok (.aload_n 0, 1) := by decide +kernel
theorem d_M_gather_43 : decode b_M_gather 43 = .ok (.getfield 84, 3) := by decide +kernel
theorem d_M_gather_46 : decode b_M_gather 46 = .ok (.aload_n 0, 1) := by decide +kernel
theorem d_M_gather_47 : decode b_M_gather 47 = .ok (.getfield 119, 3) := by decide +kernel
theorem d_M_gather_50 : decode b_M_gather 50 = .ok (.aload_n 0, 1) := by decide +kernel
theorem d_M_gather_51 : decode b_M_gather 51 = .ok (.getfield 32, 3) := by decide +kernel
theorem d_M_gather_54 : decode b_M_gather 54 = .ok (.iload_n 1, 1) := by decide +kernel
theorem d_M_gather_55 : decode b_M_gather 55 = .ok (.iaload, 1) := by decide +kernel
theorem d_M_gather_56 : decode b_M_gather 56 = .ok (.iastore, 1) := by decide +kernel
theorem d_M_gather_57 : decode b_M_gather 57 = .ok (.aload_n 0, 1) := by decide +kernel
theorem d_M_gather_58 : decode b_M_gather 58 = .ok (.dup, 1) := by decide +kernel
theorem d_M_gather_59 : decode b_M_gather 59 = .ok (.getfield 119, 3) := by decide +kernel
theorem d_M_gather_62 : decode b_M_gather 62 = .ok (.iconst 1, 1) := by decide +kernel
theorem d_M_gather_63 : decode b_M_gather 63 = .ok (.iadd, 1) := by decide +kernel
theorem d_M_gather_64 : decode b_M_gather 64 = .ok (.putfield 119, 3) := by decide +kernel
theorem d_M_gather_67 : decode b_M_gather 67 = .ok (.goto 74, 3) := by decide +kernel
theorem d_M_gather_70 : decode b_M_gather 70 = .ok (.aload_n 0, 1) := by decide +kernel
theorem d_M_gather_71 : decode b_M_gather 71 = .ok (.getfield 26, 3) := by decide +kernel
theorem d_M_gather_74 : decode b_M_gather 74 = .ok (.iload_n 1, 1) := by decide +kernel
theorem d_M_gather_75 : decode b_M_gather 75 = .ok (.iaload, 1) := by decide +kernel
theorem d_M_gather_76 : decode b_M_gather 76 = .ok (.iconst 2, 1) := by decide +kernel
theorem d_M_gather_77 : decode b_M_gather 77 = .ok (.if_icmp .ne 64, 3) := by decide +kernel
theorem d_M_gather_80 : decode b_M_gather 80 = .ok (.aload_n 0, 1) := by decide +kernel
theorem d_M_gather_81 : decode b_M_gather 81 = .ok (.getfield 75, 3) := by decide +kernel
theorem d_M_gather_84 : decode b_M_gather 84 = .ok (.aload_n 0, 1) := by decide +kernel
theorem d_M_gather_85 : decode b_M_gather 85 = .ok (.getfield 32, 3) := by decide +kernel
theorem d_M_gather_88 : decode b_M_gather 88 = .ok (.iload_n 1, 1) := by decide +kernel
theorem d_M_gather_89 : decode b_M_gather 89 = .ok (.iaload, 1) := by decide +kernel
theorem d_M_gather_90 : decode b_M_gather 90 = .ok (.iconst 1, 1) := by decide +kernel
theorem d_M_gather_91 : decode b_M_gather 91 = .ok (.bastore, 1) := by decide +kernel
theorem d_M_gather_92 : decode b_M_gather 92 = .ok (.aload_n 0, 1) := by decide +kernel
theorem d_M_gather_93 : decode b_M_gather 93 = .ok (.getfield 17, 3) := by decide +kernel
theorem d_M_gather_96 : decode b_M_gather 96 = .ok (.aload_n 0, 1) := by decide +kernel
theorem d_M_gather_97 : decode b_M_gather 97 = .ok (.getfield 32, 3) := by decide +kernel
theorem d_M_gather_100 : decode b_M_gather 100 = .ok (.iload_n 1, 1) := by decide +kernel
theorem d_M_gather_101 : decode b_M_gather 101 = .ok (.iaload, 1) := by decide +kernel
theorem d_M_gather_102 : decode b_M_gather 102 = .ok (.iaload, 1) := by decide +kernel
theorem d_M_gather_103 : decode b_M_gather 103 = .ok (.ifCond .le 13, 3) := by decide +kernel
theorem d_M_gather_106 : decode b_M_gather 106 = .ok (.aload_n 0, 1) := by decide +kernel
theorem d_M_gather_107 : decode b_M_gather 107 = .ok (.aload_n 0, 1) := by decide +kernel
theorem d_M_gather_108 : decode b_M_gather 108 = .ok (.getfield 35, 3) := by decide +kernel
theorem d_M_gather_111 : decode b_M_gather 111 = .ok (.iload_n 1, 1) := by decide +kernel
theorem d_M_gather_112 : decode b_M_gather 112 = .ok (.iaload, 1) := by decide +kernel
theorem d_M_gather_113 : decode b_M_gather 113 = .ok (.invokevirtual 149, 3) := by decide +kernel
theorem d_M_gather_116 : decode b_M_gather 116 = .ok (.aload_n 0, 1) := by decide +kernel
theorem d_M_gather_117 : decode b_M_gather 117 = .ok (.getfield 17, 3) := by decide +kernel
theorem d_M_gather_120 : decode b_M_gather 120 = .ok (.aload_n 0, 1) := by decide +kernel
theorem d_M_gather_121 : decode b_M_gather 121 = .ok (.getfield 32, 3) := by decide +kernel
theorem d_M_gather_124 : decode b_M_gather 124 = .ok (.iload_n 1, 1) := by decide +kernel
theorem d_M_gather_125 : decode b_M_gather 125 = .ok (.iaload, 1) := by decide +kernel
theorem d_M_gather_126 : decode b_M_gather 126 = .ok (.iaload, 1) := by decide +kernel
theorem d_M_gather_127 : decode b_M_gather 127 = .ok (.iconst 1, 1) := by decide +kernel
theorem d_M_gather_128 : decode b_M_gather 128 = .ok (.if_icmp .le 13, 3) := by decide +kernel
theorem d_M_gather_131 : decode b_M_gather 131 = .ok (.aload_n 0, 1) := by decide +kernel
theorem d_M_gather_132 : decode b_M_gather 132 = .ok (.aload_n 0, 1) := by decide +kernel
theorem d_M_gather_133 : decode b_M_gather 133 = .ok (.getfield 38, 3) := by decide +kernel
theorem d_M_gather_136 : decode b_M_gather 136 = .ok (.iload_n 1, 1) := by decide +kernel
theorem d_M_gather_137 : decode b_M_gather 137 = .ok (.iaload, 1) := by decide +kernel
theorem d_M_gather_138 : decode b_M_gather 138 = .ok (.invokevirtual 149, 3) := by decide +kernel
theorem d_M_gather_141 : decode b_M_gather 141 = .ok (.return_, 1) := by decide +kernel
theorem d_M_look_0 : decode b_M_look 0 = .ok (.aload_n 0, 1) := by decide +kernel
theorem d_M_look_1 : decode b_M_look 1 = .ok (.iconst 0, 1) := by decide +kernel
theorem d_M_look_2 : decode b_M_look 2 = .ok (.putfield 116, 3) := by decide +kernel
theorem d_M_look_5 : decode b_M_look 5 = .ok (.aload_n 0, 1) := by decide +kernel
theorem d_M_look_6 : decode b_M_look 6 = .ok (.iload_n 1, 1) := by decide +kernel
theorem d_M_look_7 : decode b_M_look 7 = .ok (.invokevirtual 125, 3) := by decide +kernel
theorem d_M_look_10 : decode b_M_look 10 = .ok (.istore_n 2, 1) := by decide +kernel
theorem d_M_look_11 : decode b_M_look 11 = .ok (.iconst 0, 1) := by decide +kernel
theorem d_M_look_12 : decode b_M_look 12 = .ok (.istore_n 3, 1) := by decide +kernel
theorem d_M_look_13 : decode b_M_look 13 = .ok (.iload_n 3, 1) := by decide +kernel
theorem d_M_look_14 : decode b_M_look 14 = .ok (.aload_n 0, 1) := by decide +kernel
theorem d_M_look_15 : decode b_M_look 15 = .ok (.getfield 136, 3) := by decide +kernel
theorem d_M_look_18 : decode b_M_look 18 = .ok (.if_icmp .ge 25, 3) := by decide +kernel
theorem d_M_look_21 : decode b_M_look 21 = .ok (.aload_n 0, 1) := by decide +kernel
theorem d_M_look_22 : decode b_M_look 22 = .ok (.aload_n 0, 1) := by decide +kernel
theorem d_M_look_23 : decode b_M_look 23 = .ok (.getfield 66, 3) := by decide +kernel
theorem d_M_look_26 : decode b_M_look 26 = .ok (.iload_n 3, 1) := by decide +kernel
theorem d_M_look_27 : decode b_M_look 27 = .ok (.iaload, 1) := by decide +kernel
theorem d_M_look_28 : decode b_M_look 28 = .ok (.aload_n 0, 1) := by decide +kernel
theorem d_M_look_29 : decode b_M_look 29 = .ok (.getfield 69, 3) := by decide +kernel
theorem d_M_look_32 : decode b_M_look 32 = .ok (.iload_n 3, 1) := by decide +kernel
theorem d_M_look_33 : decode b_M_look 33 = .ok (.iaload, 1) := by decide +kernel
theorem d_M_look_34 : decode b_M_look 34 = .ok (.invokevirtual 139, 3) := by decide +kernel
theorem d_M_look_37 : decode b_M_look 37 = .ok (.iinc 3 1, 3) := by decide +kernel
theorem d_M_look_40 : decode b_M_look 40 = .ok (.goto (-27), 3) := by decide +kernel
theorem d_M_look_43 : decode b_M_look 43 = .ok (.iconst 0, 1) := by decide +kernel
theorem d_M_look_44 : decode b_M_look 44 = .ok (.istore_n 3, 1) := by decide +kernel
theorem d_M_look_45 : decode b_M_look 45 = .ok (.iload_n 3, 1) := by decide +kernel
theorem d_M_look_46 : decode b_M_look 46 = .ok (.aload_n 0, 1) := by decide +kernel
theorem d_M_look_47 : decode b_M_look 47 = .ok (.getfield 143, 3) := by decide +kernel
theorem d_M_look_50 : decode b_M_look 50 = .ok (.if_icmp .ge 31, 3) := by decide +kernel
theorem d_M_look_53 : decode b_M_look 53 = .ok (.aload_n 0, 1) := by decide +kernel
theorem d_M_look_54 : decode b_M_look 54 = .ok (.aload_n 0, 1) := by decide +kernel
theorem d_M_look_55 : decode b_M_look 55 = .ok (.getfield 78, 3) := by decide +kernel
theorem d_M_look_58 : decode b_M_look 58 = .ok (.iload_n 3, 1) := by decide +kernel
theorem d_M_look_59 : decode b_M_look 59 = .ok (.iaload, 1) := by decide +kernel
theorem d_M_look_60 : decode b_M_look 60 = .ok (.iload_n 2, 1) := by decide +kernel
theorem d_M_look_61 : decode b_M_look 61 = .ok (.invokevirtual 132, 3) := by decide +kernel
theorem d_M_look_64 : decode b_M_look 64 = .ok (.istore 4, 2) := by decide +kernel
theorem d_M_look_66 : decode b_M_look 66 = .ok (.iload 4, 2) := by decide +kernel
theorem d_M_look_68 : decode b_M_look 68 = .ok (.iconst 1, 1) := by decide +kernel
theorem d_M_look_69 : decode b_M_look 69 = .ok (.if_icmp .eq 6, 3) := by decide +kernel
theorem d_M_look_72 : decode b_M_look 72 = .ok (.iload 4, 2) := by decide +kernel
theorem d_M_look_74 : decode b_M_look 74 = .ok (.ireturn, 1) := by decide +kernel
theorem d_M_look_75 : decode b_M_look 75 = .ok (.iinc 3 1, 3) := by decide +kernel
theorem d_M_look_78 : decode b_M_look 78 = .ok (.goto (-33), 3) := by decide +kernel
theorem d_M_look_81 : decode b_M_look 81 = .ok (.iconst 0, 1) := by decide +kernel
theorem d_M_look_82 : decode b_M_look 82 = .ok (.istore_n 3, 1) := by decide +kernel
theorem d_M_look_83 : decode b_M_look 83 = .ok (.iload_n 3, 1) := by decide +kernel
theorem d_M_look_84 : decode b_M_look 84 = .ok (.aload_n 0, 1) := by decide +kernel
theorem d_M_look_85 : decode b_M_look 85 = .ok (.getfield 146, 3) := by decide +kernel
theorem d_M_look_88 : decode b_M_look 88 = .ok (.if_icmp .ge 26, 3) := by decide +kernel
theorem d_M_look_91 : decode b_M_look 91 = .ok (.aload_n 0, 1) := by decide +kernel
theorem d_M_look_92 : decode b_M_look 92 = .ok (.aload_n 0, 1) := by decide +kernel
theorem d_M_look_93 : decode b_M_look 93 = .ok (.getfield 81, 3) := by decide +kernel
theorem d_M_look_96 : decode b_M_look 96 = .ok (.iload_n 3, 1) := by decide +kernel
theorem d_M_look_97 : decode b_M_look 97 = .ok (.iaload, 1) := by decide +kernel
theorem d_M_look_98 : decode b_M_look 98 = .ok (.iload_n 2, 1) := by decide +kernel
theorem d_M_look_99 : decode b_M_look 99 = .ok (.invokevirtual 132, 3) := by decide +kernel
theorem d_M_look_102 : decode b_M_look 102 = .ok (.iconst 1, 1) := by decide +kernel
theorem d_M_look_103 : decode b_M_look 103 = .ok (.if_icmp .ne 5, 3) := by decide +kernel
theorem d_M_look_106 : decode b_M_look 106 = .ok (.iconst 0, 1) := by decide +kernel
theorem d_M_look_107 : decode b_M_look 107 = .ok (.ireturn, 1) := by decide +kernel
theorem d_M_look_108 : decode b_M_look 108 = .ok (.iinc 3 1, 3) := by decide +kernel
theorem d_M_look_111 : decode b_M_look 111 = .ok (.goto (-28), 3) := by decide +kernel
theorem d_M_look_114 : decode b_M_look 114 = .ok (.iconst 0, 1) := by decide +kernel
theorem d_M_look_115 : decode b_M_look 115 = .ok (.istore_n 3, 1) := by decide +kernel
theorem d_M_look_116 : decode b_M_look 116 = .ok (.iload_n 3, 1) := by decide +kernel
theorem d_M_look_117 : decode b_M_look 117 = .ok (.aload_n 0, 1) := by decide +kernel
theorem d_M_look_118 : decode b_M_look 118 = .ok (.getfield 146, 3) := by decide +kernel
theorem d_M_look_121 : decode b_M_look 121 = .ok (.if_icmp .ge 26, 3) := by decide +kernel
theorem d_M_look_124 : decode b_M_look 124 = .ok (.aload_n 0, 1) := by decide +kernel
theorem d_M_look_125 : decode b_M_look 125 = .ok (.aload_n 0, 1) := by decide +kernel
theorem d_M_look_126 : decode b_M_look 126 = .ok (.getfield 81, 3) := by decide +kernel
theorem d_M_look_129 : decode b_M_look 129 = .ok (.iload_n 3, 1) := by decide +kernel
theorem d_M_look_130 : decode b_M_look 130 = .ok (.iaload, 1) := by decide +kernel
theorem d_M_look_131 : decode b_M_look 131 = .ok (.iload_n 2, 1) := by decide +kernel
theorem d_M_look_132 : decode b_M_look 132 = .ok (.invokevirtual 132, 3) := by decide +kernel
theorem d_M_look_135 : decode b_M_look 135 = .ok (.iconst 2, 1) := by decide +kernel
theorem d_M_look_136 : decode b_M_look 136 = .ok (.if_icmp .ne 5, 3) := by decide +kernel
theorem d_M_look_139 : decode b_M_look 139 = .ok (.iconst 2, 1) := by decide +kernel
theorem d_M_look_140 : decode b_M_look 140 = .ok (.ireturn, 1) := by decide +kernel
theorem d_M_look_141 : decode b_M_look 141 = .ok (.iinc 3 1, 3) := by decide +kernel
theorem d_M_look_144 : decode b_M_look 144 = .ok (.goto (-28), 3) := by decide +kernel
theorem d_M_look_147 : decode b_M_look 147 = .ok (.iconst 1, 1) := by decide +kernel
theorem d_M_look_148 : decode b_M_look 148 = .ok (.ireturn, 1) := by decide +kernel
theorem d_M_node_0 : decode b_M_node 0 = .ok (.aload_n 0, 1) := by decide +kernel
theorem d_M_node_1 : decode b_M_node 1 = .ok (.getfield 51, 3) := by decide +kernel
theorem d_M_node_4 : decode b_M_node 4 = .ok (.aload_n 0, 1) := by decide +kernel
theorem d_M_node_5 : decode b_M_node 5 = .ok (.getfield 116, 3) := by decide +kernel
theorem d_M_node_8 : decode b_M_node 8 = .ok (.iconst 0, 1) := by decide +kernel
theorem d_M_node_9 : decode b_M_node 9 = .ok (.iastore, 1) := by decide +kernel
theorem d_M_node_10 : decode b_M_node 10 = .ok (.aload_n 0, 1) := by decide +kernel
theorem d_M_node_11 : decode b_M_node 11 = .ok (.getfield 54, 3) := by decide +kernel
theorem d_M_node_14 : decode b_M_node 14 = .ok (.aload_n 0, 1) := by decide +kernel
theorem d_M_node_15 : decode b_M_node 15 = .ok (.getfield 116, 3) := by decide +kernel
theorem d_M_node_18 : decode b_M_node 18 = .ok (.iload_n 1, 1) := by decide +kernel
theorem d_M_node_19 : decode b_M_node 19 = .ok (.iastore, 1) := by decide +kernel
theorem d_M_node_20 : decode b_M_node 20 = .ok (.aload_n 0, 1) := by decide +kernel
theorem d_M_node_21 : decode b_M_node 21 = .ok (.dup, 1) := by decide +kernel
theorem d_M_node_22 : decode b_M_node 22 = .ok (.getfield 116, 3) := by decide +kernel
theorem d_M_node_25 : decode b_M_node 25 = .ok (.iconst 1, 1) := by decide +kernel
theorem d_M_node_26 : decode b_M_node 26 = .ok (.iadd, 1) := by decide +kernel
theorem d_M_node_27 : decode b_M_node 27 = .ok (.putfield 116, 3) := by decide +kernel
theorem d_M_node_30 : decode b_M_node 30 = .ok (.aload_n 0, 1) := by decide +kernel
theorem d_M_node_31 : decode b_M_node 31 = .ok (.getfield 116, 3) := by decide +kernel
theorem d_M_node_34 : decode b_M_node 34 = .ok (.iconst 1, 1) := by decide +kernel
theorem d_M_node_35 : decode b_M_node 35 = .ok (.isub, 1) := by decide +kernel
theorem d_M_node_36 : decode b_M_node 36 = .ok (.ireturn, 1) := by decide +kernel
theorem d_M_fill_0 : decode b_M_fill 0 = .ok (.aload_n 0, 1) := by decide +kernel
theorem d_M_fill_1 : decode b_M_fill 1 = .ok (.getfield 54, 3) := by decide +kernel
theorem d_M_fill_4 : decode b_M_fill 4 = .ok (.iload_n 1, 1) := by decide +kernel
theorem d_M_fill_5 : decode b_M_fill 5 = .ok (.iaload, 1) := by decide +kernel
theorem d_M_fill_6 : decode b_M_fill 6 = .ok (.ifCond .ne 47, 3) := by decide +kernel
theorem d_M_fill_9 : decode b_M_fill 9 = .ok (.aload_n 0, 1) := by decide +kernel
theorem d_M_fill_10 : decode b_M_fill 10 = .ok (.getfield 51, 3) := by decide +kernel
theorem d_M_fill_13 : decode b_M_fill 13 = .ok (.iload_n 1, 1) := by decide +kernel
theorem d_M_fill_14 : decode b_M_fill 14 = .ok (.iload_n 2, 1) := by decide +kernel
theorem d_M_fill_15 : decode b_M_fill 15 = .ok (.aload_n 0, 1) := by decide +kernel
theorem d_M_fill_16 : decode b_M_fill 16 = .ok (.getfield 119, 3) := by decide +kernel
theorem d_M_fill_19 : decode b_M_fill 19 = .ok (.if_icmp .ge 7, 3) := by decide +kernel
theorem d_M_fill_22 : decode b_M_fill 22 = .ok (.iconst 1, 1) := by decide +kernel
theorem d_M_fill_23 : decode b_M_fill 23 = .ok (.goto 4, 3) := by decide +kernel
theorem d_M_fill_26 : decode b_M_fill 26 = .ok (.iconst 3, 1) := by decide +kernel
theorem d_M_fill_27 : decode b_M_fill 27 = .ok (.iastore, 1) := by decide +kernel
theorem d_M_fill_28 : decode b_M_fill 28 = .ok (.aload_n 0, 1) := by decide +kernel
theorem d_M_fill_29 : decode b_M_fill 29 = .ok (.getfield 57, 3) := by decide +kernel
theorem d_M_fill_32 : decode b_M_fill 32 = .ok (.iload_n 1, 1) := by decide +kernel
theorem d_M_fill_33 : decode b_M_fill 33 = .ok (.iload_n 2, 1) := by decide +kernel
theorem d_M_fill_34 : decode b_M_fill 34 = .ok (.aload_n 0, 1) := by decide +kernel
theorem d_M_fill_35 : decode b_M_fill 35 = .ok (.getfield 119, 3) := by decide +kernel
theorem d_M_fill_38 : decode b_M_fill 38 = .ok (.if_icmp .ge 12, 3) := by decide +kernel
theorem d_M_fill_41 : decode b_M_fill 41 = .ok (.aload_n 0, 1) := by decide +kernel
theorem d_M_fill_42 : decode b_M_fill 42 = .ok (.getfield 84, 3) := by decide +kernel
theorem d_M_fill_45 : decode b_M_fill 45 = .ok (.iload_n 2, 1) := by decide +kernel
theorem d_M_fill_46 : decode b_M_fill 46 = .ok (.iaload, 1) := by decide +kernel
theorem d_M_fill_47 : decode b_M_fill 47 = .ok (.goto 4, 3) := by decide +kernel
theorem d_M_fill_50 : decode b_M_fill 50 = .ok (.iconst 0, 1) := by decide +kernel
theorem d_M_fill_51 : decode b_M_fill 51 = .ok (.iastore, 1) := by decide +kernel
theorem d_M_fill_52 : decode b_M_fill 52 = .ok (.return_, 1) := by decide +kernel
theorem d_M_fill_53 : decode b_M_fill 53 = .ok (.iconst (-1), 1) := by decide +kernel
theorem d_M_fill_54 : decode b_M_fill 54 = .ok (.istore_n 3, 1) := by decide +kernel
theorem d_M_fill_55 : decode b_M_fill 55 = .ok (.iload_n 2, 1) := by decide +kernel
theorem d_M_fill_56 : decode b_M_fill 56 = .ok (.istore 4, 2) := by decide +kernel
theorem d_M_fill_58 : decode b_M_fill 58 = .ok (.iload 4, 2) := by decide +kernel
theorem d_M_fill_60 : decode b_M_fill 60 = .ok (.ifCond .lt 41, 3) := by decide +kernel
theorem d_M_fill_63 : decode b_M_fill 63 = .ok (.iinc 3 1, 3) := by decide +kernel
theorem d_M_fill_66 : decode b_M_fill 66 = .ok (.aload_n 0, 1) := by decide +kernel
theorem d_M_fill_67 : decode b_M_fill 67 = .ok (.getfield 13, 3) := by decide +kernel
theorem d_M_fill_70 : decode b_M_fill 70 = .ok (.iload_n 3, 1) := by decide +kernel
theorem d_M_fill_71 : decode b_M_fill 71 = .ok (.iaload, 1) := by decide +kernel
theorem d_M_fill_72 : decode b_M_fill 72 = .ok (.aload_n 0, 1) := by decide +kernel
theorem d_M_fill_73 : decode b_M_fill 73 = .ok (.getfield 54, 3) := by decide +kernel
theorem d_M_fill_76 : decode b_M_fill 76 = .ok (.iload_n 1, 1) := by decide +kernel
theorem d_M_fill_77 : decode b_M_fill 77 = .ok (.iaload, 1) := by decide +kernel
theorem d_M_fill_78 : decode b_M_fill 78 = .ok (.if_icmp .ne 11, 3) := by decide +kernel
theorem d_M_fill_81 : decode b_M_fill 81 = .ok (.aload_n 0, 1) := by decide +kernel
theorem d_M_fill_82 : decode b_M_fill 82 = .ok (.iload_n 3, 1) := by decide +kernel
theorem d_M_fill_83 : decode b_M_fill 83 = .ok (.invokevirtual 122, 3) := by decide +kernel
theorem d_M_fill_86 : decode b_M_fill 86 = .ok (.ifCond .ne 9, 3) := by decide +kernel
theorem d_M_fill_89 : decode b_M_fill 89 = .ok (.iinc 3 1, 3) := by decide +kernel
theorem d_M_fill_92 : decode b_M_fill 92 = .ok (.goto (-26), 3) := by decide +kernel
theorem d_M_fill_95 : decode b_M_fill 95 = .ok (.iinc 4 (-1), 3) := by decide +kernel
theorem d_M_fill_98 : decode b_M_fill 98 = .ok (.goto (-40), 3) := by decide +kernel
theorem d_M_fill_101 : decode b_M_fill 101 = .ok (.aload_n 0, 1) := by decide +kernel
theorem d_M_fill_102 : decode b_M_fill 102 = .ok (.getfield 51, 3) := by decide +kernel
theorem d_M_fill_105 : decode b_M_fill 105 = .ok (.iload_n 1, 1) := by decide +kernel
theorem d_M_fill_106 : decode b_M_fill 106 = .ok (.iconst 2, 1) := by decide +kernel
theorem d_M_fill_107 : decode b_M_fill 107 = .ok (.iastore, 1) := by decide +kernel
theorem d_M_fill_108 : decode b_M_fill 108 = .ok (.aload_n 0, 1) := by decide +kernel
theorem d_M_fill_109 : decode b_M_fill 109 = .ok (.getfield 57, 3) := by decide +kernel
theorem d_M_fill_112 : decode b_M_fill 112 = .ok (.iload_n 1, 1) := by decide +kernel
theorem d_M_fill_113 : decode b_M_fill 113 = .ok (.iload_n 3, 1) := by decide +kernel
theorem d_M_fill_114 : decode b_M_fill 114 = .ok (.iastore, 1) := by decide +kernel
theorem d_M_fill_115 : decode b_M_fill 115 = .ok (.aload_n 0, 1) := by decide +kernel
theorem d_M_fill_116 : decode b_M_fill 116 = .ok (.getfield 17, 3) := by decide +kernel
theorem d_M_fill_119 : decode b_M_fill 119 = .ok (.iload_n 3, 1) := by decide +kernel
theorem d_M_fill_120 : decode b_M_fill 120 = .ok (.iaload, 1) := by decide +kernel
theorem d_M_fill_121 : decode b_M_fill 121 = .ok (.ifCond .le 19, 3) := by decide +kernel
theorem d_M_fill_124 : decode b_M_fill 124 = .ok (.aload_n 0, 1) := by decide +kernel
theorem d_M_fill_125 : decode b_M_fill 125 = .ok (.getfield 60, 3) := by decide +kernel
theorem d_M_fill_128 : decode b_M_fill 128 = .ok (.iload_n 1, 1) := by decide +kernel
theorem d_M_fill_129 : decode b_M_fill 129 = .ok (.aload_n 0, 1) := by decide +kernel
theorem d_M_fill_130 : decode b_M_fill 130 = .ok (.aload_n 0, 1) := by decide +kernel
theorem d_M_fill_131 : decode b_M_fill 131 = .ok (.getfield 20, 3) := by decide +kernel
theorem d_M_fill_134 : decode b_M_fill 134 = .ok (.iload_n 3, 1) := by decide +kernel
theorem d_M_fill_135 : decode b_M_fill 135 = .ok (.iaload, 1) := by decide +kernel
theorem d_M_fill_136 : decode b_M_fill 136 = .ok (.invokevirtual 125, 3) := by decide +kernel
theorem d_M_fill_139 : decode b_M_fill 139 = .ok (.iastore, 1) := by decide +kernel
theorem d_M_fill_140 : decode b_M_fill 140 = .ok (.aload_n 0, 1) := by decide +kernel
theorem d_M_fill_141 : decode b_M_fill 141 = .ok (.getfield 17, 3) := by decide +kernel
theorem d_M_fill_144 : decode b_M_fill 144 = .ok (.iload_n 3, 1) := by decide +kernel
theorem d_M_fill_145 : decode b_M_fill 145 = .ok (.iaload, 1) := by decide +kernel
theorem d_M_fill_146 : decode b_M_fill 146 = .ok (.iconst 1, 1) := by decide +kernel
theorem d_M_fill_147 : decode b_M_fill 147 = .ok (.if_icmp .le 19, 3) := by decide +kernel
theorem d_M_fill_150 : decode b_M_fill 150 = .ok (.aload_n 0, 1) := by decide +kernel
theorem d_M_fill_151 : decode b_M_fill 151 = .ok (.getfield 63, 3) := by decide +kernel
theorem d_M_fill_154 : decode b_M_fill 154 = .ok (.iload_n 1, 1) := by decide +kernel
theorem d_M_fill_155 : decode b_M_fill 155 = .ok (.aload_n 0, 1) := by decide +kernel
theorem d_M_fill_156 : decode b_M_fill 156 = .ok (.aload_n 0, 1) := by decide +kernel
theorem d_M_fill_157 : decode b_M_fill 157 = .ok (.getfield 23, 3) := by decide +kernel
theorem d_M_fill_160 : decode b_M_fill 160 = .ok (.iload_n 3, 1) := by decide +kernel
theorem d_M_fill_161 : decode b_M_fill 161 = .ok (.iaload, 1) := by decide +kernel
theorem d_M_fill_162 : decode b_M_fill 162 = .ok (.invokevirtual 125, 3) := by decide +kernel
theorem d_M_fill_165 : decode b_M_fill 165 = .ok (.iastore, 1) := by decide +kernel
theorem d_M_fill_166 : decode b_M_fill 166 = .ok (.return_, 1) := by decide +kernel
theorem d_M_isTried_0 : decode b_M_isTried 0 = .ok (.aload_n 0, 1) := by decide +kernel
theorem d_M_isTried_1 : decode b_M_isTried 1 = .ok (.getfield 75, 3) := by decide +kernel
theorem d_M_isTried_4 : decode b_M_isTried 4 = .ok (.iload_n 1, 1) := by decide +kernel
theorem d_M_isTried_5 : decode b_M_isTried 5 = .ok (.baload, 1) := by decide +kernel
theorem d_M_isTried_6 : decode b_M_isTried 6 = .ok (.ifCond .ne 11, 3) := by decide +kernel
theorem d_M_isTried_9 : decode b_M_isTried 9 = .ok (.aload_n 0, 1) := by decide +kernel
theorem d_M_isTried_10 : decode b_M_isTried 10 = .ok (.iload_n 1, 1) := by decide +kernel
theorem d_M_isTried_11 : decode b_M_isTried 11 = .ok (.invokevirtual 113, 3) := by decide +kernel
theorem d_M_isTried_14 : decode b_M_isTried 14 = .ok (.ifCond .ne 9, 3) := by decide +kernel
theorem d_M_isTried_17 : decode b_M_isTried 17 = .ok (.aload_n 0, 1) := by decide +kernel
theorem d_M_isTried_18 : decode b_M_isTried 18 = .ok (.iload_n 1, 1) := by decide +kernel
theorem d_M_isTried_19 : decode b_M_isTried 19 = .ok (.invokevirtual 113, 3) := by decide +kernel
theorem d_M_isTried_22 : decode b_M_isTried 22 = .ok (.ireturn, 1) := by decide +kernel
theorem d_M_isTried_23 : decode b_M_isTried 23 = .ok (.iconst 0, 1) := by decide +kernel
theorem d_M_isTried_24 : decode b_M_isTried 24 = .ok (.istore_n 2, 1) := by decide +kernel
theorem d_M_isTried_25 : decode b_M_isTried 25 = .ok (.iload_n 2, 1) := by decide +kernel
theorem d_M_isTried_26 : decode b_M_isTried 26 = .ok (.iload_n 1, 1) := by decide +kernel
theorem d_M_isTried_27 : decode b_M_isTried 27 = .ok (.if_icmp .ge 43, 3) := by decide +kernel
theorem d_M_isTried_30 : decode b_M_isTried 30 = .ok (.aload_n 0, 1) := by decide +kernel
theorem d_M_isTried_31 : decode b_M_isTried 31 = .ok (.getfield 13, 3) := by decide +kernel
theorem d_M_isTried_34 : decode b_M_isTried 34 = .ok (.iload_n 2, 1) := by decide +kernel
theorem d_M_isTried_35 : decode b_M_isTried 35 = .ok (.iaload, 1) := by decide +kernel
theorem d_M_isTried_36 : decode b_M_isTried 36 = .ok (.aload_n 0, 1) := by decide +kernel
theorem d_M_isTried_37 : decode b_M_isTried 37 = .ok (.getfield 13, 3) := by decide +kernel
theorem d_M_isTried_40 : decode b_M_isTried 40 = .ok (.iload_n 1, 1) := by decide +kernel
theorem d_M_isTried_41 : decode b_M_isTried 41 = .ok (.iaload, 1) := by decide +kernel
theorem d_M_isTried_42 : decode b_M_isTried 42 = .ok (.if_icmp .ne 22, 3) := by decide +kernel
theorem d_M_isTried_45 : decode b_M_isTried 45 = .ok (.aload_n 0, 1) := by decide +kernel
theorem d_M_isTried_46 : decode b_M_isTried 46 = .ok (.getfield 75, 3) := by decide +kernel
theorem d_M_isTried_49 : decode b_M_isTried 49 = .ok (.iload_n 2, 1) := by decide +kernel
theorem d_M_isTried_50 : decode b_M_isTried 50 = .ok (.baload, 1) := by decide +kernel
theorem d_M_isTried_51 : decode b_M_isTried 51 = .ok (.ifCond .ne 13, 3) := by decide +kernel
theorem d_M_isTried_54 : decode b_M_isTried 54 = .ok (.aload_n 0, 1) := by decide +kernel
theorem d_M_isTried_55 : decode b_M_isTried 55 = .ok (.iload_n 2, 1) := by decide +kernel
theorem d_M_isTried_56 : decode b_M_isTried 56 = .ok (.invokevirtual 113, 3) := by decide +kernel
theorem d_M_isTried_59 : decode b_M_isTried 59 = .ok (.ifCond .eq 5, 3) := by decide +kernel
theorem d_M_isTried_62 : decode b_M_isTried 62 = .ok (.iconst 0, 1) := by decide +kernel
theorem d_M_isTried_63 : decode b_M_isTried 63 = .ok (.ireturn, 1) := by decide +kernel
theorem d_M_isTried_64 : decode b_M_isTried 64 = .ok (.iinc 2 1, 3) := by decide +kernel
theorem d_M_isTried_67 : decode b_M_isTried 67 = .ok (.goto (-42), 3) := by decide +kernel
theorem d_M_isTried_70 : decode b_M_isTried 70 = .ok (.iconst 1, 1) := by decide +kernel
theorem d_M_isTried_71 : decode b_M_isTried 71 = .ok (.ireturn, 1) := by decide +kernel
theorem d_M_fit_0 : decode b_M_fit 0 = .ok (.aload_n 0, 1) := by decide +kernel
theorem d_M_fit_1 : decode b_M_fit 1 = .ok (.getfield 26, 3) := by decide +kernel
theorem d_M_fit_4 : decode b_M_fit 4 = .ok (.iload_n 1, 1) := by decide +kernel
theorem d_M_fit_5 : decode b_M_fit 5 = .ok (.iaload, 1) := by decide +kernel
theorem d_M_fit_6 : decode b_M_fit 6 = .ok (.ifCond .ne 5, 3) := by decide +kernel
theorem d_M_fit_9 : decode b_M_fit 9 = .ok (.iconst 1, 1) := by decide +kernel
theorem d_M_fit_10 : decode b_M_fit 10 = .ok (.ireturn, 1) := by decide +kernel
theorem d_M_fit_11 : decode b_M_fit 11 = .ok (.aload_n 0, 1) := by decide +kernel
theorem d_M_fit_12 : decode b_M_fit 12 = .ok (.getfield 51, 3) := by decide +kernel
theorem d_M_fit_15 : decode b_M_fit 15 = .ok (.iload_n 2, 1) := by decide +kernel
theorem d_M_fit_16 : decode b_M_fit 16 = .ok (.iaload, 1) := by decide +kernel
theorem d_M_fit_17 : decode b_M_fit 17 = .ok (.ifCond .ne 10, 3) := by decide +kernel
theorem d_M_fit_20 : decode b_M_fit 20 = .ok (.aload_n 0, 1) := by decide +kernel
theorem d_M_fit_21 : decode b_M_fit 21 = .ok (.iload_n 2, 1) := by decide +kernel
theorem d_M_fit_22 : decode b_M_fit 22 = .ok (.putfield 129, 3) := by decide +kernel
theorem d_M_fit_25 : decode b_M_fit 25 = .ok (.iconst 2, 1) := by decide +kernel
theorem d_M_fit_26 : decode b_M_fit 26 = .ok (.ireturn, 1) := by decide +kernel
theorem d_M_fit_27 : decode b_M_fit 27 = .ok (.aload_n 0, 1) := by decide +kernel
theorem d_M_fit_28 : decode b_M_fit 28 = .ok (.getfield 26, 3) := by decide +kernel
theorem d_M_fit_31 : decode b_M_fit 31 = .ok (.iload_n 1, 1) := by decide +kernel
theorem d_M_fit_32 : decode b_M_fit 32 = .ok (.iaload, 1) := by decide +kernel
theorem d_M_fit_33 : decode b_M_fit 33 = .ok (.iconst 1, 1) := by decide +kernel
theorem d_M_fit_34 : decode b_M_fit 34 = .ok (.if_icmp .ne 34, 3) := by decide +kernel
theorem d_M_fit_37 : decode b_M_fit 37 = .ok (.aload_n 0, 1) := by decide +kernel
theorem d_M_fit_38 : decode b_M_fit 38 = .ok (.getfield 51, 3) := by decide +kernel
theorem d_M_fit_41 : decode b_M_fit 41 = .ok (.iload_n 2, 1) := by decide +kernel
theorem d_M_fit_42 : decode b_M_fit 42 = .ok (.iaload, 1) := by decide +kernel
theorem d_M_fit_43 : decode b_M_fit 43 = .ok (.iconst 1, 1) := by decide +kernel
theorem d_M_fit_44 : decode b_M_fit 44 = .ok (.if_icmp .ne 22, 3) := by decide +kernel
theorem d_M_fit_47 : decode b_M_fit 47 = .ok (.aload_n 0, 1) := by decide +kernel
theorem d_M_fit_48 : decode b_M_fit 48 = .ok (.getfield 57, 3) := by decide +kernel
theorem d_M_fit_51 : decode b_M_fit 51 = .ok (.iload_n 2, 1) := by decide +kernel
theorem d_M_fit_52 : decode b_M_fit 52 = .ok (.iaload, 1) := by decide +kernel
theorem d_M_fit_53 : decode b_M_fit 53 = .ok (.aload_n 0, 1) := by decide +kernel
theorem d_M_fit_54 : decode b_M_fit 54 = .ok (.getfield 32, 3) := by decide +kernel
theorem d_M_fit_57 : decode b_M_fit 57 = .ok (.iload_n 1, 1) := by decide +kernel
theorem d_M_fit_58 : decode b_M_fit 58 = .ok (.iaload, 1) := by decide +kernel
theorem d_M_fit_59 : decode b_M_fit 59 = .ok (.if_icmp .ne 7, 3) := by decide +kernel
theorem d_M_fit_62 : decode b_M_fit 62 = .ok (.iconst 1, 1) := by decide +kernel
theorem d_M_fit_63 : decode b_M_fit 63 = .ok (.goto 4, 3) := by decide +kernel
theorem d_M_fit_66 : decode b_M_fit 66 = .ok (.iconst 0, 1) := by decide +kernel
theorem d_M_fit_67 : decode b_M_fit 67 = .ok (.ireturn, 1) := by decide +kernel
theorem d_M_fit_68 : decode b_M_fit 68 = .ok (.aload_n 0, 1) := by decide +kernel
theorem d_M_fit_69 : decode b_M_fit 69 = .ok (.getfield 57, 3) := by decide +kernel
theorem d_M_fit_72 : decode b_M_fit 72 = .ok (.iload_n 2, 1) := by decide +kernel
theorem d_M_fit_73 : decode b_M_fit 73 = .ok (.iaload, 1) := by decide +kernel
theorem d_M_fit_74 : decode b_M_fit 74 = .ok (.aload_n 0, 1) := by decide +kernel
theorem d_M_fit_75 : decode b_M_fit 75 = .ok (.getfield 32, 3) := by decide +kernel
theorem d_M_fit_78 : decode b_M_fit 78 = .ok (.iload_n 1, 1) := by decide +kernel
theorem d_M_fit_79 : decode b_M_fit 79 = .ok (.iaload, 1) := by decide +kernel
theorem d_M_fit_80 : decode b_M_fit 80 = .ok (.if_icmp .eq 5, 3) := by decide +kernel
theorem d_M_fit_83 : decode b_M_fit 83 = .ok (.iconst 0, 1) := by decide +kernel
theorem d_M_fit_84 : decode b_M_fit 84 = .ok (.ireturn, 1) := by decide +kernel
theorem d_M_fit_85 : decode b_M_fit 85 = .ok (.aload_n 0, 1) := by decide +kernel
theorem d_M_fit_86 : decode b_M_fit 86 = .ok (.getfield 17, 3) := by decide +kernel
theorem d_M_fit_89 : decode b_M_fit 89 = .ok (.aload_n 0, 1) := by decide +kernel
theorem d_M_fit_90 : decode b_M_fit 90 = .ok (.getfield 32, 3) := by decide +kernel
theorem d_M_fit_93 : decode b_M_fit 93 = .ok (.iload_n 1, 1) := by decide +kernel
theorem d_M_fit_94 : decode b_M_fit 94 = .ok (.iaload, 1) := by decide +kernel
theorem d_M_fit_95 : decode b_M_fit 95 = .ok (.iaload, 1) := by decide +kernel
theorem d_M_fit_96 : decode b_M_fit 96 = .ok (.istore_n 3, 1) := by decide +kernel
theorem d_M_fit_97 : decode b_M_fit 97 = .ok (.iload_n 3, 1) := by decide +kernel
theorem d_M_fit_98 : decode b_M_fit 98 = .ok (.iconst 1, 1) := by decide +kernel
theorem d_M_fit_99 : decode b_M_fit 99 = .ok (.if_icmp .ge 7, 3) := by decide +kernel
theorem d_M_fit_102 : decode b_M_fit 102 = .ok (.iconst 1, 1) := by decide +kernel
theorem d_M_fit_103 : decode b_M_fit 103 = .ok (.goto 19, 3) := by decide +kernel
theorem d_M_fit_106 : decode b_M_fit 106 = .ok (.aload_n 0, 1) := by decide +kernel
theorem d_M_fit_107 : decode b_M_fit 107 = .ok (.aload_n 0, 1) := by decide +kernel
theorem d_M_fit_108 : decode b_M_fit 108 = .ok (.getfield 35, 3) := by decide +kernel
theorem d_M_fit_111 : decode b_M_fit 111 = .ok (.iload_n 1, 1) := by decide +kernel
theorem d_M_fit_112 : decode b_M_fit 112 = .ok (.iaload, 1) := by decide +kernel
theorem d_M_fit_113 : decode b_M_fit 113 = .ok (.aload_n 0, 1) := by decide +kernel
theorem d_M_fit_114 : decode b_M_fit 114 = .ok (.getfield 60, 3) := by decide +kernel
theorem d_M_fit_117 : decode b_M_fit 117 = .ok (.iload_n 2, 1) := by decide +kernel
theorem d_M_fit_118 : decode b_M_fit 118 = .ok (.iaload, 1) := by decide +kernel
theorem d_M_fit_119 : decode b_M_fit 119 = .ok (.invokevirtual 132, 3) := by decide +kernel
theorem d_M_fit_122 : decode b_M_fit 122 = .ok (.istore 4, 2) := by decide +kernel
theorem d_M_fit_124 : decode b_M_fit 124 = .ok (.iload 4, 2) := by decide +kernel
theorem d_M_fit_126 : decode b_M_fit 126 = .ok (.iconst 1, 1) := by decide +kernel
theorem d_M_fit_127 : decode b_M_fit 127 = .ok (.if_icmp .ne 8, 3) := by decide +kernel
theorem d_M_fit_130 : decode b_M_fit 130 = .ok (.iload_n 3, 1) := by decide +kernel
theorem d_M_fit_131 : decode b_M_fit 131 = .ok (.iconst 2, 1) := by decide +kernel
theorem d_M_fit_132 : decode b_M_fit 132 = .ok (.if_icmp .ge 8, 3) := by decide +kernel
theorem d_M_fit_135 : decode b_M_fit 135 = .ok (.iload 4, 2) := by decide +kernel
theorem d_M_fit_137 : decode b_M_fit 137 = .ok (.goto 19, 3) := by decide +kernel
theorem d_M_fit_140 : decode b_M_fit 140 = .ok (.aload_n 0, 1) := by decide +kernel
theorem d_M_fit_141 : decode b_M_fit 141 = .ok (.aload_n 0, 1) := by decide +kernel
theorem d_M_fit_142 : decode b_M_fit 142 = .ok (.getfield 38, 3) := by decide +kernel
theorem d_M_fit_145 : decode b_M_fit 145 = .ok (.iload_n 1, 1) := by decide +kernel
theorem d_M_fit_146 : decode b_M_fit 146 = .ok (.iaload, 1) := by decide +kernel
theorem d_M_fit_147 : decode b_M_fit 147 = .ok (.aload_n 0, 1) := by decide +kernel
theorem d_M_fit_148 : decode b_M_fit 148 = .ok (.getfield 63, 3) := by decide +kernel
theorem d_M_fit_151 : decode b_M_fit 151 = .ok (.iload_n 2, 1) := by decide +kernel
theorem d_M_fit_152 : decode b_M_fit 152 = .ok (.iaload, 1) := by decide +kernel
theorem d_M_fit_153 : decode b_M_fit 153 = .ok (.invokevirtual 132, 3) := by decide +kernel
theorem d_M_fit_156 : decode b_M_fit 156 = .ok (.ireturn, 1) := by decide +kernel
theorem d_M_options_0 : decode b_M_options 0 = .ok (.iload_n 1, 1) := by decide +kernel
theorem d_M_options_1 : decode b_M_options 1 = .ok (.ifCond .ne 10, 3) := by decide +kernel
theorem d_M_options_4 : decode b_M_options 4 = .ok (.aload_n 0, 1) := by decide +kernel
theorem d_M_options_5 : decode b_M_options 5 = .ok (.getfield 119, 3) := by decide +kernel
theorem d_M_options_8 : decode b_M_options 8 = .ok (.iconst 1, 1) := by decide +kernel
theorem d_M_options_9 : decode b_M_options 9 = .ok (.iadd, 1) := by decide +kernel
theorem d_M_options_10 : decode b_M_options 10 = .ok (.ireturn, 1) := by decide +kernel
theorem d_M_options_11 : decode b_M_options 11 = .ok (.iconst 0, 1) := by decide +kernel
theorem d_M_options_12 : decode b_M_options 12 = .ok (.istore_n 2, 1) := by decide +kernel
theorem d_M_options_13 : decode b_M_options 13 = .ok (.iconst 0, 1) := by decide +kernel
theorem d_M_options_14 : decode b_M_options 14 = .ok (.istore_n 3, 1) := by decide +kernel
theorem d_M_options_15 : decode b_M_options 15 = .ok (.iload_n 3, 1) := by decide +kernel
theorem d_M_options_16 : decode b_M_options 16 = .ok (.aload_n 0, 1) := by decide +kernel
theorem d_M_options_17 : decode b_M_options 17 = .ok (.getfield 97, 3) := by decide +kernel
theorem d_M_options_20 : decode b_M_options 20 = .ok (.if_icmp .ge 30, 3) := by decide +kernel
theorem d_M_options_23 : decode b_M_options 23 = .ok (.aload_n 0, 1) := by decide +kernel
theorem d_M_options_24 : decode b_M_options 24 = .ok (.getfield 13, 3) := by decide +kernel
theorem d_M_options_27 : decode b_M_options 27 = .ok (.iload_n 3, 1) := by decide +kernel
theorem d_M_options_28 : decode b_M_options 28 = .ok (.iaload, 1) := by decide +kernel
theorem d_M_options_29 : decode b_M_options 29 = .ok (.iload_n 1, 1) := by decide +kernel
theorem d_M_options_30 : decode b_M_options 30 = .ok (.if_icmp .ne 14, 3) := by decide +kernel
theorem d_M_options_33 : decode b_M_options 33 = .ok (.aload_n 0, 1) := by decide +kernel
theorem d_M_options_34 : decode b_M_options 34 = .ok (.iload_n 3, 1) := by decide +kernel
theorem d_M_options_35 : decode b_M_options 35 = .ok (.invokevirtual 122, 3) := by decide +kernel
theorem d_M_options_38 : decode b_M_options 38 = .ok (.ifCond .eq 6, 3) := by decide +kernel
theorem d_M_options_41 : decode b_M_options 41 = .ok (.iinc 2 1, 3) := by decide +kernel
theorem d_M_options_44 : decode b_M_options 44 = .ok (.iinc 3 1, 3) := by decide +kernel
theorem d_M_options_47 : decode b_M_options 47 = .ok (.goto (-32), 3) := by decide +kernel
theorem d_M_options_50 : decode b_M_options 50 = .ok (.iload_n 2, 1) := by decide +kernel
theorem d_M_options_51 : decode b_M_options 51 = .ok (.ireturn, 1) := by decide +kernel
theorem d_M_takes_0 : decode b_M_takes 0 = .ok (.aload_n 0, 1) := by decide +kernel
theorem d_M_takes_1 : decode b_M_takes 1 = .ok (.iload_n 1, 1) := by decide +kernel
theorem d_M_takes_2 : decode b_M_takes 2 = .ok (.ifCond .lt 15, 3) := by decide +kernel
theorem d_M_takes_5 : decode b_M_takes 5 = .ok (.iload_n 1, 1) := by decide +kernel
theorem d_M_takes_6 : decode b_M_takes 6 = .ok (.aload_n 0, 1) := by decide +kernel
theorem d_M_takes_7 : decode b_M_takes 7 = .ok (.getfield 107, 3) := by decide +kernel
theorem d_M_takes_10 : decode b_M_takes 10 = .ok (.if_icmp .ge 7, 3) := by decide +kernel
theorem d_M_takes_13 : decode b_M_takes 13 = .ok (.iconst 0, 1) := by decide +kernel
theorem d_M_takes_14 : decode b_M_takes 14 = .ok (.goto 4, 3) := by decide +kernel
theorem d_M_takes_17 : decode b_M_takes 17 = .ok (.iconst 1, 1) := by decide +kernel
theorem d_M_takes_18 : decode b_M_takes 18 = .ok (.putfield 87, 3) := by decide +kernel
theorem d_M_takes_21 : decode b_M_takes 21 = .ok (.aload_n 0, 1) := by decide +kernel
theorem d_M_takes_22 : decode b_M_takes 22 = .ok (.getfield 87, 3) := by decide +kernel
theorem d_M_takes_25 : decode b_M_takes 25 = .ok (.ifCond .ne 15, 3) := by decide +kernel
theorem d_M_takes_28 : decode b_M_takes 28 = .ok (.aload_n 0, 1) := by decide +kernel
theorem d_M_takes_29 : decode b_M_takes 29 = .ok (.iload_n 1, 1) := by decide +kernel
theorem d_M_takes_30 : decode b_M_takes 30 = .ok (.invokevirtual 165, 3) := by decide +kernel
theorem d_M_takes_33 : decode b_M_takes 33 = .ok (.ifCond .eq 7, 3) := by decide +kernel
theorem d_M_takes_36 : decode b_M_takes 36 = .ok (.iconst 1, 1) := by decide +kernel
theorem d_M_takes_37 : decode b_M_takes 37 = .ok (.goto 4, 3) := by decide +kernel
theorem d_M_takes_40 : decode b_M_takes 40 = .ok (.iconst 0, 1) := by decide +kernel
theorem d_M_takes_41 : decode b_M_takes 41 = .ok (.ireturn, 1) := by decide +kernel
theorem d_M_open_0 : decode b_M_open 0 = .ok (.aload_n 0, 1) := by decide +kernel
theorem d_M_open_1 : decode b_M_open 1 = .ok (.iconst 0, 1) := by decide +kernel
theorem d_M_open_2 : decode b_M_open 2 = .ok (.putfield 87, 3) := by decide +kernel
theorem d_M_open_5 : decode b_M_open 5 = .ok (.aload_n 0, 1) := by decide +kernel
theorem d_M_open_6 : decode b_M_open 6 = .ok (.iconst 0, 1) := by decide +kernel
theorem d_M_open_7 : decode b_M_open 7 = .ok (.putfield 143, 3) := by decide +kernel
theorem d_M_open_10 : decode b_M_open 10 = .ok (.aload_n 0, 1) := by decide +kernel
theorem d_M_open_11 : decode b_M_open 11 = .ok (.aload_n 0, 1) := by decide +kernel
theorem d_M_open_12 : decode b_M_open 12 = .ok (.getfield 107, 3) := by decide +kernel
theorem d_M_open_15 : decode b_M_open 15 = .ok (.putfield 146, 3) := by decide +kernel
theorem d_M_open_18 : decode b_M_open 18 = .ok (.iconst 0, 1) := by decide +kernel
theorem d_M_open_19 : decode b_M_open 19 = .ok (.istore_n 1, 1) := by decide +kernel
theorem d_M_open_20 : decode b_M_open 20 = .ok (.iload_n 1, 1) := by decide +kernel
theorem d_M_open_21 : decode b_M_open 21 = .ok (.aload_n 0, 1) := by decide +kernel
theorem d_M_open_22 : decode b_M_open 22 = .ok (.getfield 107, 3) := by decide +kernel
theorem d_M_open_25 : decode b_M_open 25 = .ok (.if_icmp .ge 21, 3) := by decide +kernel
theorem d_M_open_28 : decode b_M_open 28 = .ok (.aload_n 0, 1) := by decide +kernel
theorem d_M_open_29 : decode b_M_open 29 = .ok (.getfield 81, 3) := by decide +kernel
theorem d_M_open_32 : decode b_M_open 32 = .ok (.iload_n 1, 1) := by decide +kernel
theorem d_M_open_33 : decode b_M_open 33 = .ok (.aload_n 0, 1) := by decide +kernel
theorem d_M_open_34 : decode b_M_open 34 = .ok (.getfield 44, 3) := by decide +kernel
theorem d_M_open_37 : decode b_M_open 37 = .ok (.iload_n 1, 1) := by decide +kernel
theorem d_M_open_38 : decode b_M_open 38 = .ok (.iaload, 1) := by decide +kernel
theorem d_M_open_39 : decode b_M_open 39 = .ok (.iastore, 1) := by decide +kernel
theorem d_M_open_40 : decode b_M_open 40 = .ok (.iinc 1 1, 3) := by decide +kernel
theorem d_M_open_43 : decode b_M_open 43 = .ok (.goto (-23), 3) := by decide +kernel
theorem d_M_open_46 : decode b_M_open 46 = .ok (.aload_n 0, 1) := by decide +kernel
theorem d_M_open_47 : decode b_M_open 47 = .ok (.aload_n 0, 1) := by decide +kernel
theorem d_M_open_48 : decode b_M_open 48 = .ok (.getfield 110, 3) := by decide +kernel
theorem d_M_open_51 : decode b_M_open 51 = .ok (.invokevirtual 162, 3) := by decide +kernel
theorem d_M_open_54 : decode b_M_open 54 = .ok (.ireturn, 1) := by decide +kernel
theorem d_M_covers_0 : decode b_M_covers 0 = .ok (.aload_n 0, 1) := by decide +kernel
theorem d_M_covers_1 : decode b_M_covers 1 = .ok (.aload_n 0, 1) := by decide +kernel
theorem d_M_covers_2 : decode b_M_covers 2 = .ok (.iload_n 1, 1) := by decide +kernel
theorem d_M_covers_3 : decode b_M_covers 3 = .ok (.iload_n 2, 1) := by decide +kernel
theorem d_M_covers_4 : decode b_M_covers 4 = .ok (.invokevirtual 168, 3) := by decide +kernel
theorem d_M_covers_7 : decode b_M_covers 7 = .ok (.ifCond .eq 7, 3) := by decide +kernel
theorem d_M_covers_10 : decode b_M_covers 10 = .ok (.iconst 0, 1) := by decide +kernel
theorem d_M_covers_11 : decode b_M_covers 11 = .ok (.goto 4, 3) := by decide +kernel
theorem d_M_covers_14 : decode b_M_covers 14 = .ok (.iconst 1, 1) := by decide +kernel
theorem d_M_covers_15 : decode b_M_covers 15 = .ok (.putfield 87, 3) := by decide +kernel
theorem d_M_covers_18 : decode b_M_covers 18 = .ok (.aload_n 0, 1) := by decide +kernel
theorem d_M_covers_19 : decode b_M_covers 19 = .ok (.getfield 87, 3) := by decide +kernel
theorem d_M_covers_22 : decode b_M_covers 22 = .ok (.ifCond .le 5, 3) := by decide +kernel
theorem d_M_covers_25 : decode b_M_covers 25 = .ok (.iconst 0, 1) := by decide +kernel
theorem d_M_covers_26 : decode b_M_covers 26 = .ok (.ireturn, 1) := by decide +kernel
theorem d_M_covers_27 : decode b_M_covers 27 = .ok (.aload_n 0, 1) := by decide +kernel
theorem d_M_covers_28 : decode b_M_covers 28 = .ok (.iconst 1, 1) := by decide +kernel
theorem d_M_covers_29 : decode b_M_covers 29 = .ok (.putfield 143, 3) := by decide +kernel
theorem d_M_covers_32 : decode b_M_covers 32 = .ok (.aload_n 0, 1) := by decide +kernel
theorem d_M_covers_33 : decode b_M_covers 33 = .ok (.getfield 78, 3) := by decide +kernel
theorem d_M_covers_36 : decode b_M_covers 36 = .ok (.iconst 0, 1) := by decide +kernel
theorem d_M_covers_37 : decode b_M_covers 37 = .ok (.iload_n 2, 1) := by decide +kernel
theorem d_M_covers_38 : decode b_M_covers 38 = .ok (.iastore, 1) := by decide +kernel
theorem d_M_covers_39 : decode b_M_covers 39 = .ok (.aload_n 0, 1) := by decide +kernel
theorem d_M_covers_40 : decode b_M_covers 40 = .ok (.iconst 1, 1) := by decide +kernel
theorem d_M_covers_41 : decode b_M_covers 41 = .ok (.putfield 146, 3) := by decide +kernel
theorem d_M_covers_44 : decode b_M_covers 44 = .ok (.aload_n 0, 1) := by decide +kernel
theorem d_M_covers_45 : decode b_M_covers 45 = .ok (.getfield 81, 3) := by decide +kernel
theorem d_M_covers_48 : decode b_M_covers 48 = .ok (.iconst 0, 1) := by decide +kernel
theorem d_M_covers_49 : decode b_M_covers 49 = .ok (.iload_n 1, 1) := by decide +kernel
theorem d_M_covers_50 : decode b_M_covers 50 = .ok (.iastore, 1) := by decide +kernel
theorem d_M_covers_51 : decode b_M_covers 51 = .ok (.aload_n 0, 1) := by decide +kernel
theorem d_M_covers_52 : decode b_M_covers 52 = .ok (.aload_n 0, 1) := by decide +kernel
theorem d_M_covers_53 : decode b_M_covers 53 = .ok (.getfield 29, 3) := by decide +kernel
theorem d_M_covers_56 : decode b_M_covers 56 = .ok (.iload_n 1, 1) := by decide +kernel
theorem d_M_covers_57 : decode b_M_covers 57 = .ok (.iaload, 1) := by decide +kernel
theorem d_M_covers_58 : decode b_M_covers 58 = .ok (.invokevirtual 162, 3) := by decide +kernel
theorem d_M_covers_61 : decode b_M_covers 61 = .ok (.ifCond .ne 7, 3) := by decide +kernel
theorem d_M_covers_64 : decode b_M_covers 64 = .ok (.iconst 1, 1) := by decide +kernel
theorem d_M_covers_65 : decode b_M_covers 65 = .ok (.goto 4, 3) := by decide +kernel
theorem d_M_covers_68 : decode b_M_covers 68 = .ok (.iconst 0, 1) := by decide +kernel
theorem d_M_covers_69 : decode b_M_covers 69 = .ok (.ireturn, 1) := by decide +kernel
theorem d_M_areLike_0 : decode b_M_areLike 0 = .ok (.aload_n 0, 1) := by decide +kernel
theorem d_M_areLike_1 : decode b_M_areLike 1 = .ok (.iload_n 1, 1) := by decide +kernel
theorem d_M_areLike_2 : decode b_M_areLike 2 = .ok (.invokevirtual 104, 3) := by decide +kernel
theorem d_M_areLike_5 : decode b_M_areLike 5 = .ok (.ifCond .eq 30, 3) := by decide +kernel
theorem d_M_areLike_8 : decode b_M_areLike 8 = .ok (.aload_n 0, 1) := by decide +kernel
theorem d_M_areLike_9 : decode b_M_areLike 9 = .ok (.iload_n 2, 1) := by decide +kernel
theorem d_M_areLike_10 : decode b_M_areLike 10 = .ok (.invokevirtual 104, 3) := by decide +kernel
theorem d_M_areLike_13 : decode b_M_areLike 13 = .ok (.ifCond .eq 22, 3) := by decide +kernel
theorem d_M_areLike_16 : decode b_M_areLike 16 = .ok (.aload_n 0, 1) := by decide +kernel
theorem d_M_areLike_17 : decode b_M_areLike 17 = .ok (.getfield 29, 3) := by decide +kernel
theorem d_M_areLike_20 : decode b_M_areLike 20 = .ok (.iload_n 1, 1) := by decide +kernel
theorem d_M_areLike_21 : decode b_M_areLike 21 = .ok (.iaload, 1) := by decide +kernel
theorem d_M_areLike_22 : decode b_M_areLike 22 = .ok (.aload_n 0, 1) := by decide +kernel
theorem d_M_areLike_23 : decode b_M_areLike 23 = .ok (.getfield 29, 3) := by decide +kernel
theorem d_M_areLike_26 : decode b_M_areLike 26 = .ok (.iload_n 2, 1) := by decide +kernel
theorem d_M_areLike_27 : decode b_M_areLike 27 = .ok (.iaload, 1) := by decide +kernel
theorem d_M_areLike_28 : decode b_M_areLike 28 = .ok (.if_icmp .ne 7, 3) := by decide +kernel
theorem d_M_areLike_31 : decode b_M_areLike 31 = .ok (.iconst 1, 1) := by decide +kernel
theorem d_M_areLike_32 : decode b_M_areLike 32 = .ok (.goto 4, 3) := by decide +kernel
theorem d_M_areLike_35 : decode b_M_areLike 35 = .ok (.iconst 0, 1) := by decide +kernel
theorem d_M_areLike_36 : decode b_M_areLike 36 = .ok (.ireturn, 1) := by decide +kernel
theorem d_M_meets_0 : decode b_M_meets 0 = .ok (.aload_n 0, 1) := by decide +kernel
theorem d_M_meets_1 : decode b_M_meets 1 = .ok (.aload_n 0, 1) := by decide +kernel
theorem d_M_meets_2 : decode b_M_meets 2 = .ok (.iload_n 1, 1) := by decide +kernel
theorem d_M_meets_3 : decode b_M_meets 3 = .ok (.iload_n 2, 1) := by decide +kernel
theorem d_M_meets_4 : decode b_M_meets 4 = .ok (.invokevirtual 168, 3) := by decide +kernel
theorem d_M_meets_7 : decode b_M_meets 7 = .ok (.ifCond .eq 7, 3) := by decide +kernel
theorem d_M_meets_10 : decode b_M_meets 10 = .ok (.iconst 0, 1) := by decide +kernel
theorem d_M_meets_11 : decode b_M_meets 11 = .ok (.goto 4, 3) := by decide +kernel
theorem d_M_meets_14 : decode b_M_meets 14 = .ok (.iconst 1, 1) := by decide +kernel
theorem d_M_meets_15 : decode b_M_meets 15 = .ok (.putfield 87, 3) := by decide +kernel
theorem d_M_meets_18 : decode b_M_meets 18 = .ok (.aload_n 0, 1) := by decide +kernel
theorem d_M_meets_19 : decode b_M_meets 19 = .ok (.getfield 87, 3) := by decide +kernel
theorem d_M_meets_22 : decode b_M_meets 22 = .ok (.ifCond .le 5, 3) := by decide +kernel
theorem d_M_meets_25 : decode b_M_meets 25 = .ok (.iconst 0, 1) := by decide +kernel
theorem d_M_meets_26 : decode b_M_meets 26 = .ok (.ireturn, 1) := by decide +kernel
theorem d_M_meets_27 : decode b_M_meets 27 = .ok (.aload_n 0, 1) := by decide +kernel
theorem d_M_meets_28 : decode b_M_meets 28 = .ok (.iconst 2, 1) := by decide +kernel
theorem d_M_meets_29 : decode b_M_meets 29 = .ok (.putfield 143, 3) := by decide +kernel
theorem d_M_meets_32 : decode b_M_meets 32 = .ok (.aload_n 0, 1) := by decide +kernel
theorem d_M_meets_33 : decode b_M_meets 33 = .ok (.getfield 78, 3) := by decide +kernel
theorem d_M_meets_36 : decode b_M_meets 36 = .ok (.iconst 0, 1) := by decide +kernel
theorem d_M_meets_37 : decode b_M_meets 37 = .ok (.iload_n 1, 1) := by decide +kernel
theorem d_M_meets_38 : decode b_M_meets 38 = .ok (.iastore, 1) := by decide +kernel
theorem d_M_meets_39 : decode b_M_meets 39 = .ok (.aload_n 0, 1) := by decide +kernel
theorem d_M_meets_40 : decode b_M_meets 40 = .ok (.getfield 78, 3) := by decide +kernel
theorem d_M_meets_43 : decode b_M_meets 43 = .ok (.iconst 1, 1) := by decide +kernel
theorem d_M_meets_44 : decode b_M_meets 44 = .ok (.iload_n 2, 1) := by decide +kernel
theorem d_M_meets_45 : decode b_M_meets 45 = .ok (.iastore, 1) := by decide +kernel
theorem d_M_meets_46 : decode b_M_meets 46 = .ok (.aload_n 0, 1) := by decide +kernel
theorem d_M_meets_47 : decode b_M_meets 47 = .ok (.iconst 0, 1) := by decide +kernel
theorem d_M_meets_48 : decode b_M_meets 48 = .ok (.putfield 146, 3) := by decide +kernel
theorem d_M_meets_51 : decode b_M_meets 51 = .ok (.aload_n 0, 1) := by decide +kernel
theorem d_M_meets_52 : decode b_M_meets 52 = .ok (.aload_n 0, 1) := by decide +kernel
theorem d_M_meets_53 : decode b_M_meets 53 = .ok (.getfield 29, 3) := by decide +kernel
theorem d_M_meets_56 : decode b_M_meets 56 = .ok (.iload_n 1, 1) := by decide +kernel
theorem d_M_meets_57 : decode b_M_meets 57 = .ok (.iaload, 1) := by decide +kernel
theorem d_M_meets_58 : decode b_M_meets 58 = .ok (.invokevirtual 162, 3) := by decide +kernel
theorem d_M_meets_61 : decode b_M_meets 61 = .ok (.ireturn, 1) := by decide +kernel
theorem d_M_lives_0 : decode b_M_lives 0 = .ok (.aload_n 0, 1) := by decide +kernel
theorem d_M_lives_1 : decode b_M_lives 1 = .ok (.aload_n 0, 1) := by decide +kernel
theorem d_M_lives_2 : decode b_M_lives 2 = .ok (.iload_n 1, 1) := by decide +kernel
theorem d_M_lives_3 : decode b_M_lives 3 = .ok (.invokevirtual 93, 3) := by decide +kernel
theorem d_M_lives_6 : decode b_M_lives 6 = .ok (.ifCond .eq 7, 3) := by decide +kernel
theorem d_M_lives_9 : decode b_M_lives 9 = .ok (.iconst 0, 1) := by decide +kernel
theorem d_M_lives_10 : decode b_M_lives 10 = .ok (.goto 4, 3) := by decide +kernel
theorem d_M_lives_13 : decode b_M_lives 13 = .ok (.iconst 1, 1) := by decide +kernel
theorem d_M_lives_14 : decode b_M_lives 14 = .ok (.putfield 87, 3) := by decide +kernel
theorem d_M_lives_17 : decode b_M_lives 17 = .ok (.aload_n 0, 1) := by decide +kernel
theorem d_M_lives_18 : decode b_M_lives 18 = .ok (.getfield 87, 3) := by decide +kernel
theorem d_M_lives_21 : decode b_M_lives 21 = .ok (.ifCond .le 5, 3) := by decide +kernel
theorem d_M_lives_24 : decode b_M_lives 24 = .ok (.iconst 0, 1) := by decide +kernel
theorem d_M_lives_25 : decode b_M_lives 25 = .ok (.ireturn, 1) := by decide +kernel
theorem d_M_lives_26 : decode b_M_lives 26 = .ok (.aload_n 0, 1) := by decide +kernel
theorem d_M_lives_27 : decode b_M_lives 27 = .ok (.invokevirtual 153, 3) := by decide +kernel
theorem d_M_lives_30 : decode b_M_lives 30 = .ok (.aload_n 0, 1) := by decide +kernel
theorem d_M_lives_31 : decode b_M_lives 31 = .ok (.getfield 47, 3) := by decide +kernel
theorem d_M_lives_34 : decode b_M_lives 34 = .ok (.iload_n 1, 1) := by decide +kernel
theorem d_M_lives_35 : decode b_M_lives 35 = .ok (.baload, 1) := by decide +kernel
theorem d_M_lives_36 : decode b_M_lives 36 = .ok (.ireturn, 1) := by decide +kernel
theorem d_M_count_0 : decode b_M_count 0 = .ok (.aload_n 0, 1) := by decide +kernel
theorem d_M_count_1 : decode b_M_count 1 = .ok (.iconst 0, 1) := by decide +kernel
theorem d_M_count_2 : decode b_M_count 2 = .ok (.putfield 87, 3) := by decide +kernel
theorem d_M_count_5 : decode b_M_count 5 = .ok (.iconst 0, 1) := by decide +kernel
theorem d_M_count_6 : decode b_M_count 6 = .ok (.istore_n 2, 1) := by decide +kernel
theorem d_M_count_7 : decode b_M_count 7 = .ok (.iload_n 1, 1) := by decide +kernel
theorem d_M_count_8 : decode b_M_count 8 = .ok (.tableswitch 123 0 5 #[40, 45, 50, 55, 60, 89], 40) := by decide +kernel
theorem d_M_count_48 : decode b_M_count 48 = .ok (.aload_n 0, 1) := by decide +kernel
theorem d_M_count_49 : decode b_M_count 49 = .ok (.getfield 7, 3) := by decide +kernel
theorem d_M_count_52 : decode b_M_count 52 = .ok (.ireturn, 1) := by decide +kernel
theorem d_M_count_53 : decode b_M_count 53 = .ok (.aload_n 0, 1) := by decide +kernel
theorem d_M_count_54 : decode b_M_count 54 = .ok (.getfield 97, 3) := by decide +kernel
theorem d_M_count_57 : decode b_M_count 57 = .ok (.ireturn, 1) := by decide +kernel
theorem d_M_count_58 : decode b_M_count 58 = .ok (.aload_n 0, 1) := by decide +kernel
theorem d_M_count_59 : decode b_M_count 59 = .ok (.getfield 90, 3) := by decide +kernel
theorem d_M_count_62 : decode b_M_count 62 = .ok (.ireturn, 1) := by decide +kernel
theorem d_M_count_63 : decode b_M_count 63 = .ok (.aload_n 0, 1) := by decide +kernel
theorem d_M_count_64 : decode b_M_count 64 = .ok (.getfield 107, 3) := by decide +kernel
theorem d_M_count_67 : decode b_M_count 67 = .ok (.ireturn, 1) := by decide +kernel
theorem d_M_count_68 : decode b_M_count 68 = .ok (.iconst 0, 1) := by decide +kernel
theorem d_M_count_69 : decode b_M_count 69 = .ok (.istore_n 3, 1) := by decide +kernel
theorem d_M_count_70 : decode b_M_count 70 = .ok (.iload_n 3, 1) := by decide +kernel
theorem d_M_count_71 : decode b_M_count 71 = .ok (.aload_n 0, 1) := by decide +kernel
theorem d_M_count_72 : decode b_M_count 72 = .ok (.getfield 107, 3) := by decide +kernel
theorem d_M_count_75 : decode b_M_count 75 = .ok (.if_icmp .ge 20, 3) := by decide +kernel
theorem d_M_count_78 : decode b_M_count 78 = .ok (.aload_n 0, 1) := by decide +kernel
theorem d_M_count_79 : decode b_M_count 79 = .ok (.iload_n 3, 1) := by decide +kernel
theorem d_M_count_80 : decode b_M_count 80 = .ok (.invokevirtual 165, 3) := by decide +kernel
theorem d_M_count_83 : decode b_M_count 83 = .ok (.ifCond .eq 6, 3) := by decide +kernel
theorem d_M_count_86 : decode b_M_count 86 = .ok (.iinc 2 1, 3) := by decide +kernel
theorem d_M_count_89 : decode b_M_count 89 = .ok (.iinc 3 1, 3) := by decide +kernel
theorem d_M_count_92 : decode b_M_count 92 = .ok (.goto (-22), 3) := by decide +kernel
theorem d_M_count_95 : decode b_M_count 95 = .ok (.iload_n 2, 1) := by decide +kernel
theorem d_M_count_96 : decode b_M_count 96 = .ok (.ireturn, 1) := by decide +kernel
theorem d_M_count_97 : decode b_M_count 97 = .ok (.aload_n 0, 1) := by decide +kernel
theorem d_M_count_98 : decode b_M_count 98 = .ok (.invokevirtual 153, 3) := by decide +kernel
theorem d_M_count_101 : decode b_M_count 101 = .ok (.iconst 0, 1) := by decide +kernel
theorem d_M_count_102 : decode b_M_count 102 = .ok (.istore_n 3, 1) := by decide +kernel
theorem d_M_count_103 : decode b_M_count 103 = .ok (.iload_n 3, 1) := by decide +kernel
theorem d_M_count_104 : decode b_M_count 104 = .ok (.aload_n 0, 1) := by decide +kernel
theorem d_M_count_105 : decode b_M_count 105 = .ok (.getfield 7, 3) := by decide +kernel
theorem d_M_count_108 : decode b_M_count 108 = .ok (.if_icmp .ge 21, 3) := by decide +kernel
theorem d_M_count_111 : decode b_M_count 111 = .ok (.aload_n 0, 1) := by decide +kernel
theorem d_M_count_112 : decode b_M_count 112 = .ok (.getfield 47, 3) := by decide +kernel
theorem d_M_count_115 : decode b_M_count 115 = .ok (.iload_n 3, 1) := by decide +kernel
theorem d_M_count_116 : decode b_M_count 116 = .ok (.baload, 1) := by decide +kernel
theorem d_M_count_117 : decode b_M_count 117 = .ok (.ifCond .eq 6, 3) := by decide +kernel
theorem d_M_count_120 : decode b_M_count 120 = .ok (.iinc 2 1, 3) := by decide +kernel
theorem d_M_count_123 : decode b_M_count 123 = .ok (.iinc 3 1, 3) := by decide +kernel
theorem d_M_count_126 : decode b_M_count 126 = .ok (.goto (-23), 3) := by decide +kernel
theorem d_M_count_129 : decode b_M_count 129 = .ok (.iload_n 2, 1) := by decide +kernel
theorem d_M_count_130 : decode b_M_count 130 = .ok (.ireturn, 1) := by decide +kernel
theorem d_M_count_131 : decode b_M_count 131 = .ok (.iconst (-1), 1) := by decide +kernel
theorem d_M_count_132 : decode b_M_count 132 = .ok (.ireturn, 1) := by decide +kernel
theorem d_L_law_0 : decode b_L_law 0 = .ok (.new 8, 3) := by decide +kernel
theorem d_L_law_3 : decode b_L_law 3 = .ok (.dup, 1) := by decide +kernel
theorem d_L_law_4 : decode b_L_law 4 = .ok (.invokespecial 53, 3) := by decide +kernel
theorem d_L_law_7 : decode b_L_law 7 = .ok (.astore_n 1, 1) := by decide +kernel
theorem d_L_law_8 : decode b_L_law 8 = .ok (.new 54, 3) := by decide +kernel
theorem d_L_law_11 : decode b_L_law 11 = .ok (.dup, 1) := by decide +kernel
theorem d_L_law_12 : decode b_L_law 12 = .ok (.invokespecial 56, 3) := by decide +kernel
theorem d_L_law_15 : decode b_L_law 15 = .ok (.astore_n 2, 1) := by decide +kernel
theorem d_L_law_16 : decode b_L_law 16 = .ok (.iconst 1, 1) := by decide +kernel
theorem d_L_law_17 : decode b_L_law 17 = .ok (.newarray .long, 2) := by decide +kernel
theorem d_L_law_19 : decode b_L_law 19 = .ok (.astore_n 3, 1) := by decide +kernel
theorem d_L_law_20 : decode b_L_law 20 = .ok (.iconst 0, 1) := by decide +kernel
theorem d_L_law_21 : decode b_L_law 21 = .ok (.istore 4, 2) := by decide +kernel
theorem d_L_law_23 : decode b_L_law 23 = .ok (.iload 4, 2) := by decide +kernel
theorem d_L_law_25 : decode b_L_law 25 = .ok (.aload_n 0, 1) := by decide +kernel
theorem d_L_law_26 : decode b_L_law 26 = .ok (.arraylength, 1) := by decide +kernel
theorem d_L_law_27 : decode b_L_law 27 = .ok (.iconst 5, 1) := by decide +kernel
theorem d_L_law_28 : decode b_L_law 28 = .ok (.isub, 1) := by decide +kernel
theorem d_L_law_29 : decode b_L_law 29 = .ok (.if_icmp .gt 822, 3) := by decide +kernel
theorem d_L_law_32 : decode b_L_law 32 = .ok (.aload_n 0, 1) := by decide +kernel
theorem d_L_law_33 : decode b_L_law 33 = .ok (.iload 4, 2) := by decide +kernel
theorem d_L_law_35 : decode b_L_law 35 = .ok (.iaload, 1) := by decide +kernel
theorem d_L_law_36 : decode b_L_law 36 = .ok (.bipush 15, 2) := by decide +kernel
theorem d_L_law_38 : decode b_L_law 38 = .ok (.iand, 1) := by decide +kernel
theorem d_L_law_39 : decode b_L_law 39 = .ok (.tableswitch 806 0 12 #[65, 109, 201, 257, 313, 393, 429, 492, 555, 568, 643, 718, 781], 65) := by decide +kernel
theorem d_L_law_104 : decode b_L_law 104 = .ok (.aload_n 1, 1) := by decide +kernel
theorem d_L_law_105 : decode b_L_law 105 = .ok (.aload_n 3, 1) := by decide +kernel
theorem d_L_law_106 : decode b_L_law 106 = .ok (.invokestatic 57, 3) := by decide +kernel
theorem d_L_law_109 : decode b_L_law 109 = .ok (.istore 5, 2) := by decide +kernel
theorem d_L_law_111 : decode b_L_law 111 = .ok (.aload_n 2, 1) := by decide +kernel
theorem d_L_law_112 : decode b_L_law 112 = .ok (.invokevirtual 62, 3) := by decide +kernel
theorem d_L_law_115 : decode b_L_law 115 = .ok (.istore 6, 2) := by decide +kernel
theorem d_L_law_117 : decode b_L_law 117 = .ok (.aload_n 2, 1) := by decide +kernel
theorem d_L_law_118 : decode b_L_law 118 = .ok (.invokevirtual 63, 3) := by decide +kernel
theorem d_L_law_121 : decode b_L_law 121 = .ok (.iload 5, 2) := by decide +kernel
theorem d_L_law_123 : decode b_L_law 123 = .ok (.if_icmp .eq 5, 3) := by decide +kernel
theorem d_L_law_126 : decode b_L_law 126 = .ok (.iconst 0, 1) := by decide +kernel
theorem d_L_law_127 : decode b_L_law 127 = .ok (.ireturn, 1) := by decide +kernel
theorem d_L_law_128 : decode b_L_law 128 = .ok (.iload 5, 2) := by decide +kernel
theorem d_L_law_130 : decode b_L_law 130 = .ok (.ifCond .ne 15, 3) := by decide +kernel
theorem d_L_law_133 : decode b_L_law 133 = .ok (.aload_n 3, 1) := by decide +kernel
theorem d_L_law_134 : decode b_L_law 134 = .ok (.iconst 0, 1) := by decide +kernel
theorem d_L_law_135 : decode b_L_law 135 = .ok (.laload, 1) := by decide +kernel
theorem d_L_law_136 : decode b_L_law 136 = .ok (.iload 6, 2) := by decide +kernel
theorem d_L_law_138 : decode b_L_law 138 = .ok (.i2l, 1) := by decide +kernel
theorem d_L_law_139 : decode b_L_law 139 = .ok (.lcmp, 1) := by decide +kernel
theorem d_L_law_140 : decode b_L_law 140 = .ok (.ifCond .eq 5, 3) := by decide +kernel
theorem d_L_law_143 : decode b_L_law 143 = .ok (.iconst 0, 1) := by decide +kernel
theorem d_L_law_144 : decode b_L_law 144 = .ok (.ireturn, 1) := by decide +kernel
theorem d_L_law_145 : decode b_L_law 145 = .ok (.goto 700, 3) := by decide +kernel
theorem d_L_law_148 : decode b_L_law 148 = .ok (.aload_n 1, 1) := by decide +kernel
theorem d_L_law_149 : decode b_L_law 149 = .ok (.aload_n 0, 1) := by decide +kernel
theorem d_L_law_150 : decode b_L_law 150 = .ok (.iload 4, 2) := by decide +kernel
theorem d_L_law_152 : decode b_L_law 152 = .ok (.iconst 1, 1) := by decide +kernel
theorem d_L_law_153 : decode b_L_law 153 = .ok (.iadd, 1) := by decide +kernel
theorem d_L_law_154 : decode b_L_law 154 = .ok (.iaload, 1) := by decide +kernel
theorem d_L_law_155 : decode b_L_law 155 = .ok (.aload_n 0, 1) := by decide +kernel
theorem d_L_law_156 : decode b_L_law 156 = .ok (.iload 4, 2) := by decide +kernel
theorem d_L_law_158 : decode b_L_law 158 = .ok (.iconst 2, 1) := by decide +kernel
theorem d_L_law_159 : decode b_L_law 159 = .ok (.iadd, 1) := by decide +kernel
theorem d_L_law_160 : decode b_L_law 160 = .ok (.iaload, 1) := by decide +kernel
theorem d_L_law_161 : decode b_L_law 161 = .ok (.aload_n 0, 1) := by decide +kernel
theorem d_L_law_162 : decode b_L_law 162 = .ok (.iload 4, 2) := by decide +kernel
theorem d_L_law_164 : decode b_L_law 164 = .ok (.iconst 3, 1) := by decide +kernel
theorem d_L_law_165 : decode b_L_law 165 = .ok (.iadd, 1) := by decide +kernel
theorem d_L_law_166 : decode b_L_law 166 = .ok (.iaload, 1) := by decide +kernel
theorem d_L_law_167 : decode b_L_law 167 = .ok (.aload_n 0, 1) := by decide +kernel
theorem d_L_law_168 : decode b_L_law 168 = .ok (.iload 4, 2) := by decide +kernel
theorem d_L_law_170 : decode b_L_law 170 = .ok (.iconst 4, 1) := by decide +kernel
theorem d_L_law_171 : decode b_L_law 171 = .ok (.iadd, 1) := by decide +kernel
theorem d_L_law_172 : decode b_L_law 172 = .ok (.iaload, 1) := by decide +kernel
theorem d_L_law_173 : decode b_L_law 173 = .ok (.aload_n 3, 1) := by decide +kernel
theorem d_L_law_174 : decode b_L_law 174 = .ok (.invokestatic 66, 3) := by decide +kernel
theorem d_L_law_177 : decode b_L_law 177 = .ok (.istore 5, 2) := by decide +kernel
theorem d_L_law_179 : decode b_L_law 179 = .ok (.aload_n 2, 1) := by decide +kernel
theorem d_L_law_180 : decode b_L_law 180 = .ok (.aload_n 0, 1) := by decide +kernel
theorem d_L_law_181 : decode b_L_law 181 = .ok (.iload 4, 2) := by decide +kernel
theorem d_L_law_183 : decode b_L_law 183 = .ok (.iconst 1, 1) := by decide +kernel
theorem d_L_law_184 : decode b_L_law 184 = .ok (.iadd, 1) := by decide +kernel
theorem d_L_law_185 : decode b_L_law 185 = .ok (.iaload, 1) := by decide +kernel
theorem d_L_law_186 : decode b_L_law 186 = .ok (.aload_n 0, 1) := by decide +kernel
theorem d_L_law_187 : decode b_L_law 187 = .ok (.iload 4, 2) := by decide +kernel
theorem d_L_law_189 : decode b_L_law 189 = .ok (.iconst 2, 1) := by decide +kernel
theorem d_L_law_190 : decode b_L_law 190 = .ok (.iadd, 1) := by decide +kernel
theorem d_L_law_191 : decode b_L_law 191 = .ok (.iaload, 1) := by decide +kernel
theorem d_L_law_192 : decode b_L_law 192 = .ok (.aload_n 0, 1) := by decide +kernel
theorem d_L_law_193 : decode b_L_law 193 = .ok (.iload 4, 2) := by decide +kernel
theorem d_L_law_195 : decode b_L_law 195 = .ok (.iconst 3, 1) := by decide +kernel
theorem d_L_law_196 : decode b_L_law 196 = .ok (.iadd, 1) := by decide +kernel
theorem d_L_law_197 : decode b_L_law 197 = .ok (.iaload, 1) := by decide +kernel
theorem d_L_law_198 : decode b_L_law 198 = .ok (.aload_n 0, 1) := by decide +kernel
theorem d_L_law_199 : decode b_L_law 199 = .ok (.iload 4, 2) := by decide +kernel
theorem d_L_law_201 : decode b_L_law 201 = .ok (.iconst 4, 1) := by decide +kernel
theorem d_L_law_202 : decode b_L_law 202 = .ok (.iadd, 1) := by decide +kernel
theorem d_L_law_203 : decode b_L_law 203 = .ok (.iaload, 1) := by decide +kernel
theorem d_L_law_204 : decode b_L_law 204 = .ok (.invokevirtual 69, 3) := by decide +kernel
theorem d_L_law_207 : decode b_L_law 207 = .ok (.istore 6, 2) := by decide +kernel
theorem d_L_law_209 : decode b_L_law 209 = .ok (.aload_n 2, 1) := by decide +kernel
theorem d_L_law_210 : decode b_L_law 210 = .ok (.invokevirtual 63, 3) := by decide +kernel
theorem d_L_law_213 : decode b_L_law 213 = .ok (.iload 5, 2) := by decide +kernel
theorem d_L_law_215 : decode b_L_law 215 = .ok (.if_icmp .eq 5, 3) := by decide +kernel
theorem d_L_law_218 : decode b_L_law 218 = .ok (.iconst 0, 1) := by decide +kernel
theorem d_L_law_219 : decode b_L_law 219 = .ok (.ireturn, 1) := by decide +kernel
theorem d_L_law_220 : decode b_L_law 220 = .ok (.iload 5, 2) := by decide +kernel
theorem d_L_law_222 : decode b_L_law 222 = .ok (.ifCond .ne 15, 3) := by decide +kernel
theorem d_L_law_225 : decode b_L_law 225 = .ok (.aload_n 3, 1) := by decide +kernel
theorem d_L_law_226 : decode b_L_law 226 = .ok (.iconst 0, 1) := by decide +kernel
theorem d_L_law_227 : decode b_L_law 227 = .ok (.laload, 1) := by decide +kernel
theorem d_L_law_228 : decode b_L_law 228 = .ok (.iload 6, 2) := by decide +kernel
theorem d_L_law_230 : decode b_L_law 230 = .ok (.i2l, 1) := by decide +kernel
theorem d_L_law_231 : decode b_L_law 231 = .ok (.lcmp, 1) := by decide +kernel
theorem d_L_law_232 : decode b_L_law 232 = .ok (.ifCond .eq 5, 3) := by decide +kernel
theorem d_L_law_235 : decode b_L_law 235 = .ok (.iconst 0, 1) := by decide +kernel
theorem d_L_law_236 : decode b_L_law 236 = .ok (.ireturn, 1) := by decide +kernel
theorem d_L_law_237 : decode b_L_law 237 = .ok (.goto 608, 3) := by decide +kernel
theorem d_L_law_240 : decode b_L_law 240 = .ok (.aload_n 1, 1) := by decide +kernel
theorem d_L_law_241 : decode b_L_law 241 = .ok (.aload_n 0, 1) := by decide +kernel
theorem d_L_law_242 : decode b_L_law 242 = .ok (.iload 4, 2) := by decide +kernel
theorem d_L_law_244 : decode b_L_law 244 = .ok (.iconst 1, 1) := by decide +kernel
theorem d_L_law_245 : decode b_L_law 245 = .ok (.iadd, 1) := by decide +kernel
theorem d_L_law_246 : decode b_L_law 246 = .ok (.iaload, 1) := by decide +kernel
theorem d_L_law_247 : decode b_L_law 247 = .ok (.aload_n 3, 1) := by decide +kernel
theorem d_L_law_248 : decode b_L_law 248 = .ok (.invokestatic 70, 3) := by decide +kernel
theorem d_L_law_251 : decode b_L_law 251 = .ok (.istore 5, 2) := by decide +kernel
theorem d_L_law_253 : decode b_L_law 253 = .ok (.aload_n 2, 1) := by decide +kernel
theorem d_L_law_254 : decode b_L_law 254 = .ok (.aload_n 0, 1) := by decide +kernel
theorem d_L_law_255 : decode b_L_law 255 = .ok (.iload 4, 2) := by decide +kernel
theorem d_L_law_257 : decode b_L_law 257 = .ok (.iconst 1, 1) := by decide +kernel
theorem d_L_law_258 : decode b_L_law 258 = .ok (.iadd, 1) := by decide +kernel
theorem d_L_law_259 : decode b_L_law 259 = .ok (.iaload, 1) := by decide +kernel
theorem d_L_law_260 : decode b_L_law 260 = .ok (.invokevirtual 73, 3) := by decide +kernel
theorem d_L_law_263 : decode b_L_law 263 = .ok (.istore 6, 2) := by decide +kernel
theorem d_L_law_265 : decode b_L_law 265 = .ok (.aload_n 2, 1) := by decide +kernel
theorem d_L_law_266 : decode b_L_law 266 = .ok (.invokevirtual 63, 3) := by decide +kernel
theorem d_L_law_269 : decode b_L_law 269 = .ok (.iload 5, 2) := by decide +kernel
theorem d_L_law_271 : decode b_L_law 271 = .ok (.if_icmp .eq 5, 3) := by decide +kernel
theorem d_L_law_274 : decode b_L_law 274 = .ok (.iconst 0, 1) := by decide +kernel
theorem d_L_law_275 : decode b_L_law 275 = .ok (.ireturn, 1) := by decide +kernel
theorem d_L_law_276 : decode b_L_law 276 = .ok (.iload 5, 2) := by decide +kernel
theorem d_L_law_278 : decode b_L_law 278 = .ok (.ifCond .ne 15, 3) := by decide +kernel
theorem d_L_law_281 : decode b_L_law 281 = .ok (.aload_n 3, 1) := by decide +kernel
theorem d_L_law_282 : decode b_L_law 282 = .ok (.iconst 0, 1) := by decide +kernel
theorem d_L_law_283 : decode b_L_law 283 = .ok (.laload, 1) := by decide +kernel
theorem d_L_law_284 : decode b_L_law 284 = .ok (.iload 6, 2) := by decide +kernel
theorem d_L_law_286 : decode b_L_law 286 = .ok (.i2l, 1) := by decide +kernel
theorem d_L_law_287 : decode b_L_law 287 = .ok (.lcmp, 1) := by decide +kernel
theorem d_L_law_288 : decode b_L_law 288 = .ok (.ifCond .eq 5, 3) := by decide +kernel
theorem d_L_law_291 : decode b_L_law 291 = .ok (.iconst 0, 1) := by decide +kernel
theorem d_L_law_292 : decode b_L_law 292 = .ok (.ireturn, 1) := by decide +kernel
theorem d_L_law_293 : decode b_L_law 293 = .ok (.goto 552, 3) := by decide +kernel
theorem d_L_law_296 : decode b_L_law 296 = .ok (.aload_n 1, 1) := by decide +kernel
theorem d_L_law_297 : decode b_L_law 297 = .ok (.aload_n 0, 1) := by decide +kernel
theorem d_L_law_298 : decode b_L_law 298 = .ok (.iload 4, 2) := by decide +kernel
theorem d_L_law_300 : decode b_L_law 300 = .ok (.iconst 1, 1) := by decide +kernel
theorem d_L_law_301 : decode b_L_law 301 = .ok (.iadd, 1) := by decide +kernel
theorem d_L_law_302 : decode b_L_law 302 = .ok (.iaload, 1) := by decide +kernel
theorem d_L_law_303 : decode b_L_law 303 = .ok (.aload_n 3, 1) := by decide +kernel
theorem d_L_law_304 : decode b_L_law 304 = .ok (.invokestatic 74, 3) := by decide +kernel
theorem d_L_law_307 : decode b_L_law 307 = .ok (.istore 5, 2) := by decide +kernel
theorem d_L_law_309 : decode b_L_law 309 = .ok (.aload_n 2, 1) := by decide +kernel
theorem d_L_law_310 : decode b_L_law 310 = .ok (.aload_n 0, 1) := by decide +kernel
theorem d_L_law_311 : decode b_L_law 311 = .ok (.iload 4, 2) := by decide +kernel
theorem d_L_law_313 : decode b_L_law 313 = .ok (.iconst 1, 1) := by decide +kernel
theorem d_L_law_314 : decode b_L_law 314 = .ok (.iadd, 1) := by decide +kernel
theorem d_L_law_315 : decode b_L_law 315 = .ok (.iaload, 1) := by decide +kernel
theorem d_L_law_316 : decode b_L_law 316 = .ok (.invokevirtual 76, 3) := by decide +kernel
theorem d_L_law_319 : decode b_L_law 319 = .ok (.istore 6, 2) := by decide +kernel
theorem d_L_law_321 : decode b_L_law 321 = .ok (.aload_n 2, 1) := by decide +kernel
theorem d_L_law_322 : decode b_L_law 322 = .ok (.invokevirtual 63, 3) := by decide +kernel
theorem d_L_law_325 : decode b_L_law 325 = .ok (.iload 5, 2) := by decide +kernel
theorem d_L_law_327 : decode b_L_law 327 = .ok (.if_icmp .eq 5, 3) := by decide +kernel
theorem d_L_law_330 : decode b_L_law 330 = .ok (.iconst 0, 1) := by decide +kernel
theorem d_L_law_331 : decode b_L_law 331 = .ok (.ireturn, 1) := by decide +kernel
theorem d_L_law_332 : decode b_L_law 332 = .ok (.iload 5, 2) := by decide +kernel
theorem d_L_law_334 : decode b_L_law 334 = .ok (.ifCond .ne 15, 3) := by decide +kernel
theorem d_L_law_337 : decode b_L_law 337 = .ok (.aload_n 3, 1) := by decide +kernel
theorem d_L_law_338 : decode b_L_law 338 = .ok (.iconst 0, 1) := by decide +kernel
theorem d_L_law_339 : decode b_L_law 339 = .ok (.laload, 1) := by decide +kernel
theorem d_L_law_340 : decode b_L_law 340 = .ok (.iload 6, 2) := by decide +kernel
theorem d_L_law_342 : decode b_L_law 342 = .ok (.i2l, 1) := by decide +kernel
theorem d_L_law_343 : decode b_L_law 343 = .ok (.lcmp, 1) := by decide +kernel
theorem d_L_law_344 : decode b_L_law 344 = .ok (.ifCond .eq 5, 3) := by decide +kernel
theorem d_L_law_347 : decode b_L_law 347 = .ok (.iconst 0, 1) := by decide +kernel
theorem d_L_law_348 : decode b_L_law 348 = .ok (.ireturn, 1) := by decide +kernel
theorem d_L_law_349 : decode b_L_law 349 = .ok (.goto 496, 3) := by decide +kernel
theorem d_L_law_352 : decode b_L_law 352 = .ok (.aload_n 1, 1) := by decide +kernel
theorem d_L_law_353 : decode b_L_law 353 = .ok (.aload_n 0, 1) := by decide +kernel
theorem d_L_law_354 : decode b_L_law 354 = .ok (.iload 4, 2) := by decide +kernel
theorem d_L_law_356 : decode b_L_law 356 = .ok (.iconst 1, 1) := by decide +kernel
theorem d_L_law_357 : decode b_L_law 357 = .ok (.iadd, 1) := by decide +kernel
theorem d_L_law_358 : decode b_L_law 358 = .ok (.iaload, 1) := by decide +kernel
theorem d_L_law_359 : decode b_L_law 359 = .ok (.aload_n 0, 1) := by decide +kernel
theorem d_L_law_360 : decode b_L_law 360 = .ok (.iload 4, 2) := by decide +kernel
theorem d_L_law_362 : decode b_L_law 362 = .ok (.iconst 2, 1) := by decide +kernel
theorem d_L_law_363 : decode b_L_law 363 = .ok (.iadd, 1) := by decide +kernel
theorem d_L_law_364 : decode b_L_law 364 = .ok (.iaload, 1) := by decide +kernel
theorem d_L_law_365 : decode b_L_law 365 = .ok (.aload_n 0, 1) := by decide +kernel
theorem d_L_law_366 : decode b_L_law 366 = .ok (.iload 4, 2) := by decide +kernel
theorem d_L_law_368 : decode b_L_law 368 = .ok (.iconst 3, 1) := by decide +kernel
theorem d_L_law_369 : decode b_L_law 369 = .ok (.iadd, 1) := by decide +kernel
theorem d_L_law_370 : decode b_L_law 370 = .ok (.iaload, 1) := by decide +kernel
theorem d_L_law_371 : decode b_L_law 371 = .ok (.aload_n 3, 1) := by decide +kernel
theorem d_L_law_372 : decode b_L_law 372 = .ok (.invokestatic 77, 3) := by decide +kernel
theorem d_L_law_375 : decode b_L_law 375 = .ok (.istore 5, 2) := by decide +kernel
theorem d_L_law_377 : decode b_L_law 377 = .ok (.aload_n 2, 1) := by decide +kernel
theorem d_L_law_378 : decode b_L_law 378 = .ok (.aload_n 0, 1) := by decide +kernel
theorem d_L_law_379 : decode b_L_law 379 = .ok (.iload 4, 2) := by decide +kernel
theorem d_L_law_381 : decode b_L_law 381 = .ok (.iconst 1, 1) := by decide +kernel
theorem d_L_law_382 : decode b_L_law 382 = .ok (.iadd, 1) := by decide +kernel
theorem d_L_law_383 : decode b_L_law 383 = .ok (.iaload, 1) := by decide +kernel
theorem d_L_law_384 : decode b_L_law 384 = .ok (.aload_n 0, 1) := by decide +kernel
theorem d_L_law_385 : decode b_L_law 385 = .ok (.iload 4, 2) := by decide +kernel
theorem d_L_law_387 : decode b_L_law 387 = .ok (.iconst 2, 1) := by decide +kernel
theorem d_L_law_388 : decode b_L_law 388 = .ok (.iadd, 1) := by decide +kernel
theorem d_L_law_389 : decode b_L_law 389 = .ok (.iaload, 1) := by decide +kernel
theorem d_L_law_390 : decode b_L_law 390 = .ok (.aload_n 0, 1) := by decide +kernel
theorem d_L_law_391 : decode b_L_law 391 = .ok (.iload 4, 2) := by decide +kernel
theorem d_L_law_393 : decode b_L_law 393 = .ok (.iconst 3, 1) := by decide +kernel
theorem d_L_law_394 : decode b_L_law 394 = .ok (.iadd, 1) := by decide +kernel
theorem d_L_law_395 : decode b_L_law 395 = .ok (.iaload, 1) := by decide +kernel
theorem d_L_law_396 : decode b_L_law 396 = .ok (.invokevirtual 80, 3) := by decide +kernel
theorem d_L_law_399 : decode b_L_law 399 = .ok (.istore 6, 2) := by decide +kernel
theorem d_L_law_401 : decode b_L_law 401 = .ok (.aload_n 2, 1) := by decide +kernel
theorem d_L_law_402 : decode b_L_law 402 = .ok (.invokevirtual 63, 3) := by decide +kernel
theorem d_L_law_405 : decode b_L_law 405 = .ok (.iload 5, 2) := by decide +kernel
theorem d_L_law_407 : decode b_L_law 407 = .ok (.if_icmp .eq 5, 3) := by decide +kernel
theorem d_L_law_410 : decode b_L_law 410 = .ok (.iconst 0, 1) := by decide +kernel
theorem d_L_law_411 : decode b_L_law 411 = .ok (.ireturn, 1) := by decide +kernel
theorem d_L_law_412 : decode b_L_law 412 = .ok (.iload 5, 2) := by decide +kernel
theorem d_L_law_414 : decode b_L_law 414 = .ok (.ifCond .ne 15, 3) := by decide +kernel
theorem d_L_law_417 : decode b_L_law 417 = .ok (.aload_n 3, 1) := by decide +kernel
theorem d_L_law_418 : decode b_L_law 418 = .ok (.iconst 0, 1) := by decide +kernel
theorem d_L_law_419 : decode b_L_law 419 = .ok (.laload, 1) := by decide +kernel
theorem d_L_law_420 : decode b_L_law 420 = .ok (.iload 6, 2) := by decide +kernel
theorem d_L_law_422 : decode b_L_law 422 = .ok (.i2l, 1) := by decide +kernel
theorem d_L_law_423 : decode b_L_law 423 = .ok (.lcmp, 1) := by decide +kernel
theorem d_L_law_424 : decode b_L_law 424 = .ok (.ifCond .eq 5, 3) := by decide +kernel
theorem d_L_law_427 : decode b_L_law 427 = .ok (.iconst 0, 1) := by decide +kernel
theorem d_L_law_428 : decode b_L_law 428 = .ok (.ireturn, 1) := by decide +kernel
theorem d_L_law_429 : decode b_L_law 429 = .ok (.goto 416, 3) := by decide +kernel
theorem d_L_law_432 : decode b_L_law 432 = .ok (.aload_n 1, 1) := by decide +kernel
theorem d_L_law_433 : decode b_L_law 433 = .ok (.aload_n 0, 1) := by decide +kernel
theorem d_L_law_434 : decode b_L_law 434 = .ok (.iload 4, 2) := by decide +kernel
theorem d_L_law_436 : decode b_L_law 436 = .ok (.iconst 1, 1) := by decide +kernel
theorem d_L_law_437 : decode b_L_law 437 = .ok (.iadd, 1) := by decide +kernel
theorem d_L_law_438 : decode b_L_law 438 = .ok (.iaload, 1) := by decide +kernel
theorem d_L_law_439 : decode b_L_law 439 = .ok (.invokestatic 81, 3) := by decide +kernel
theorem d_L_law_442 : decode b_L_law 442 = .ok (.istore 5, 2) := by decide +kernel
theorem d_L_law_444 : decode b_L_law 444 = .ok (.aload_n 2, 1) := by decide +kernel
theorem d_L_law_445 : decode b_L_law 445 = .ok (.aload_n 0, 1) := by decide +kernel
theorem d_L_law_446 : decode b_L_law 446 = .ok (.iload 4, 2) := by decide +kernel
theorem d_L_law_448 : decode b_L_law 448 = .ok (.iconst 1, 1) := by decide +kernel
theorem d_L_law_449 : decode b_L_law 449 = .ok (.iadd, 1) := by decide +kernel
theorem d_L_law_450 : decode b_L_law 450 = .ok (.iaload, 1) := by decide +kernel
theorem d_L_law_451 : decode b_L_law 451 = .ok (.invokevirtual 84, 3) := by decide +kernel
theorem d_L_law_454 : decode b_L_law 454 = .ok (.aload_n 2, 1) := by decide +kernel
theorem d_L_law_455 : decode b_L_law 455 = .ok (.invokevirtual 63, 3) := by decide +kernel
theorem d_L_law_458 : decode b_L_law 458 = .ok (.iload 5, 2) := by decide +kernel
theorem d_L_law_460 : decode b_L_law 460 = .ok (.if_icmp .eq 5, 3) := by decide +kernel
theorem d_L_law_463 : decode b_L_law 463 = .ok (.iconst 0, 1) := by decide +kernel
theorem d_L_law_464 : decode b_L_law 464 = .ok (.ireturn, 1) := by decide +kernel
theorem d_L_law_465 : decode b_L_law 465 = .ok (.goto 380, 3) := by decide +kernel
theorem d_L_law_468 : decode b_L_law 468 = .ok (.aload_n 1, 1) := by decide +kernel
theorem d_L_law_469 : decode b_L_law 469 = .ok (.aload_n 0, 1) := by decide +kernel
theorem d_L_law_470 : decode b_L_law 470 = .ok (.iload 4, 2) := by decide +kernel
theorem d_L_law_472 : decode b_L_law 472 = .ok (.iconst 1, 1) := by decide +kernel
theorem d_L_law_473 : decode b_L_law 473 = .ok (.iadd, 1) := by decide +kernel
theorem d_L_law_474 : decode b_L_law 474 = .ok (.iaload, 1) := by decide +kernel
theorem d_L_law_475 : decode b_L_law 475 = .ok (.aload_n 3, 1) := by decide +kernel
theorem d_L_law_476 : decode b_L_law 476 = .ok (.invokestatic 85, 3) := by decide +kernel
theorem d_L_law_479 : decode b_L_law 479 = .ok (.istore 5, 2) := by decide +kernel
theorem d_L_law_481 : decode b_L_law 481 = .ok (.aload_n 2, 1) := by decide +kernel
theorem d_L_law_482 : decode b_L_law 482 = .ok (.aload_n 0, 1) := by decide +kernel
theorem d_L_law_483 : decode b_L_law 483 = .ok (.iload 4, 2) := by decide +kernel
theorem d_L_law_485 : decode b_L_law 485 = .ok (.iconst 1, 1) := by decide +kernel
theorem d_L_law_486 : decode b_L_law 486 = .ok (.iadd, 1) := by decide +kernel
theorem d_L_law_487 : decode b_L_law 487 = .ok (.iaload, 1) := by decide +kernel
theorem d_L_law_488 : decode b_L_law 488 = .ok (.invokevirtual 87, 3) := by decide +kernel
theorem d_L_law_491 : decode b_L_law 491 = .ok (.istore 6, 2) := by decide +kernel
theorem d_L_law_493 : decode b_L_law 493 = .ok (.aload_n 2, 1) := by decide +kernel
theorem d_L_law_494 : decode b_L_law 494 = .ok (.invokevirtual 63, 3) := by decide +kernel
theorem d_L_law_497 : decode b_L_law 497 = .ok (.iload 5, 2) := by decide +kernel
theorem d_L_law_499 : decode b_L_law 499 = .ok (.if_icmp .eq 5, 3) := by decide +kernel
theorem d_L_law_502 : decode b_L_law 502 = .ok (.iconst 0, 1) := by decide +kernel
theorem d_L_law_503 : decode b_L_law 503 = .ok (.ireturn, 1) := by decide +kernel
theorem d_L_law_504 : decode b_L_law 504 = .ok (.iload 5, 2) := by decide +kernel
theorem d_L_law_506 : decode b_L_law 506 = .ok (.ifCond .ne 22, 3) := by decide +kernel
theorem d_L_law_509 : decode b_L_law 509 = .ok (.aload_n 3, 1) := by decide +kernel
theorem d_L_law_510 : decode b_L_law 510 = .ok (.iconst 0, 1) := by decide +kernel
theorem d_L_law_511 : decode b_L_law 511 = .ok (.laload, 1) := by decide +kernel
theorem d_L_law_512 : decode b_L_law 512 = .ok (.iload 6, 2) := by decide +kernel
theorem d_L_law_514 : decode b_L_law 514 = .ok (.ifCond .eq 7, 3) := by decide +kernel
theorem d_L_law_517 : decode b_L_law 517 = .ok (.lconst 1, 1) := by decide +kernel
theorem d_L_law_518 : decode b_L_law 518 = .ok (.goto 4, 3) := by decide +kernel
theorem d_L_law_521 : decode b_L_law 521 = .ok (.lconst 0, 1) := by decide +kernel
theorem d_L_law_522 : decode b_L_law 522 = .ok (.lcmp, 1) := by decide +kernel
theorem d_L_law_523 : decode b_L_law 523 = .ok (.ifCond .eq 5, 3) := by decide +kernel
theorem d_L_law_526 : decode b_L_law 526 = .ok (.iconst 0, 1) := by decide +kernel
theorem d_L_law_527 : decode b_L_law 527 = .ok (.ireturn, 1) := by decide +kernel
theorem d_L_law_528 : decode b_L_law 528 = .ok (.goto 317, 3) := by decide +kernel
theorem d_L_law_531 : decode b_L_law 531 = .ok (.aload_n 1, 1) := by decide +kernel
theorem d_L_law_532 : decode b_L_law 532 = .ok (.aload_n 0, 1) := by decide +kernel
theorem d_L_law_533 : decode b_L_law 533 = .ok (.iload 4, 2) := by decide +kernel
theorem d_L_law_535 : decode b_L_law 535 = .ok (.iconst 1, 1) := by decide +kernel
theorem d_L_law_536 : decode b_L_law 536 = .ok (.iadd, 1) := by decide +kernel
theorem d_L_law_537 : decode b_L_law 537 = .ok (.iaload, 1) := by decide +kernel
theorem d_L_law_538 : decode b_L_law 538 = .ok (.aload_n 3, 1) := by decide +kernel
theorem d_L_law_539 : decode b_L_law 539 = .ok (.invokestatic 88, 3) := by decide +kernel
theorem d_L_law_542 : decode b_L_law 542 = .ok (.istore 5, 2) := by decide +kernel
theorem d_L_law_544 : decode b_L_law 544 = .ok (.aload_n 2, 1) := by decide +kernel
theorem d_L_law_545 : decode b_L_law 545 = .ok (.aload_n 0, 1) := by decide +kernel
theorem d_L_law_546 : decode b_L_law 546 = .ok (.iload 4, 2) := by decide +kernel
theorem d_L_law_548 : decode b_L_law 548 = .ok (.iconst 1, 1) := by decide +kernel
theorem d_L_law_549 : decode b_L_law 549 = .ok (.iadd, 1) := by decide +kernel
theorem d_L_law_550 : decode b_L_law 550 = .ok (.iaload, 1) := by decide +kernel
theorem d_L_law_551 : decode b_L_law 551 = .ok (.invokevirtual 90, 3) := by decide +kernel
theorem d_L_law_554 : decode b_L_law 554 = .ok (.istore 6, 2) := by decide +kernel
theorem d_L_law_556 : decode b_L_law 556 = .ok (.aload_n 2, 1) := by decide +kernel
theorem d_L_law_557 : decode b_L_law 557 = .ok (.invokevirtual 63, 3) := by decide +kernel
theorem d_L_law_560 : decode b_L_law 560 = .ok (.iload 5, 2) := by decide +kernel
theorem d_L_law_562 : decode b_L_law 562 = .ok (.if_icmp .eq 5, 3) := by decide +kernel
theorem d_L_law_565 : decode b_L_law 565 = .ok (.iconst 0, 1) := by decide +kernel
theorem d_L_law_566 : decode b_L_law 566 = .ok (.ireturn, 1) := by decide +kernel
theorem d_L_law_567 : decode b_L_law 567 = .ok (.iload 5, 2) := by decide +kernel
theorem d_L_law_569 : decode b_L_law 569 = .ok (.ifCond .ne 22, 3) := by decide +kernel
theorem d_L_law_572 : decode b_L_law 572 = .ok (.aload_n 3, 1) := by decide +kernel
theorem d_L_law_573 : decode b_L_law 573 = .ok (.iconst 0, 1) := by decide +kernel
theorem d_L_law_574 : decode b_L_law 574 = .ok (.laload, 1) := by decide +kernel
theorem d_L_law_575 : decode b_L_law 575 = .ok (.iload 6, 2) := by decide +kernel
theorem d_L_law_577 : decode b_L_law 577 = .ok (.ifCond .eq 7, 3) := by decide +kernel
theorem d_L_law_580 : decode b_L_law 580 = .ok (.lconst 1, 1) := by decide +kernel
theorem d_L_law_581 : decode b_L_law 581 = .ok (.goto 4, 3) := by decide +kernel
theorem d_L_law_584 : decode b_L_law 584 = .ok (.lconst 0, 1) := by decide +kernel
theorem d_L_law_585 : decode b_L_law 585 = .ok (.lcmp, 1) := by decide +kernel
theorem d_L_law_586 : decode b_L_law 586 = .ok (.ifCond .eq 5, 3) := by decide +kernel
theorem d_L_law_589 : decode b_L_law 589 = .ok (.iconst 0, 1) := by decide +kernel
theorem d_L_law_590 : decode b_L_law 590 = .ok (.ireturn, 1) := by decide +kernel
theorem d_L_law_591 : decode b_L_law 591 = .ok (.goto 254, 3) := by decide +kernel
theorem d_L_law_594 : decode b_L_law 594 = .ok (.aload_n 1, 1) := by decide +kernel
theorem d_L_law_595 : decode b_L_law 595 = .ok (.invokevirtual 91, 3) := by decide +kernel
theorem d_L_law_598 : decode b_L_law 598 = .ok (.aload_n 2, 1) := by decide +kernel
theorem d_L_law_599 : decode b_L_law 599 = .ok (.invokevirtual 95, 3) := by decide +kernel
theorem d_L_law_602 : decode b_L_law 602 = .ok (.if_icmp .eq 243, 3) := by decide +kernel
theorem d_L_law_605 : decode b_L_law 605 = .ok (.iconst 0, 1) := by decide +kernel
theorem d_L_law_606 : decode b_L_law 606 = .ok (.ireturn, 1) := by decide +kernel
theorem d_L_law_607 : decode b_L_law 607 = .ok (.aload_n 1, 1) := by decide +kernel
theorem d_L_law_608 : decode b_L_law 608 = .ok (.aload_n 0, 1) := by decide +kernel
theorem d_L_law_609 : decode b_L_law 609 = .ok (.iload 4, 2) := by decide +kernel
theorem d_L_law_611 : decode b_L_law 611 = .ok (.iconst 1, 1) := by decide +kernel
theorem d_L_law_612 : decode b_L_law 612 = .ok (.iadd, 1) := by decide +kernel
theorem d_L_law_613 : decode b_L_law 613 = .ok (.iaload, 1) := by decide +kernel
theorem d_L_law_614 : decode b_L_law 614 = .ok (.aload_n 0, 1) := by decide +kernel
theorem d_L_law_615 : decode b_L_law 615 = .ok (.iload 4, 2) := by decide +kernel
theorem d_L_law_617 : decode b_L_law 617 = .ok (.iconst 2, 1) := by decide +kernel
theorem d_L_law_618 : decode b_L_law 618 = .ok (.iadd, 1) := by decide +kernel
theorem d_L_law_619 : decode b_L_law 619 = .ok (.iaload, 1) := by decide +kernel
theorem d_L_law_620 : decode b_L_law 620 = .ok (.aload_n 3, 1) := by decide +kernel
theorem d_L_law_621 : decode b_L_law 621 = .ok (.invokestatic 96, 3) := by decide +kernel
theorem d_L_law_624 : decode b_L_law 624 = .ok (.istore 5, 2) := by decide +kernel
theorem d_L_law_626 : decode b_L_law 626 = .ok (.aload_n 2, 1) := by decide +kernel
theorem d_L_law_627 : decode b_L_law 627 = .ok (.aload_n 0, 1) := by decide +kernel
theorem d_L_law_628 : decode b_L_law 628 = .ok (.iload 4, 2) := by decide +kernel
theorem d_L_law_630 : decode b_L_law 630 = .ok (.iconst 1, 1) := by decide +kernel
theorem d_L_law_631 : decode b_L_law 631 = .ok (.iadd, 1) := by decide +kernel
theorem d_L_law_632 : decode b_L_law 632 = .ok (.iaload, 1) := by decide +kernel
theorem d_L_law_633 : decode b_L_law 633 = .ok (.aload_n 0, 1) := by decide +kernel
theorem d_L_law_634 : decode b_L_law 634 = .ok (.iload 4, 2) := by decide +kernel
theorem d_L_law_636 : decode b_L_law 636 = .ok (.iconst 2, 1) := by decide +kernel
theorem d_L_law_637 : decode b_L_law 637 = .ok (.iadd, 1) := by decide +kernel
theorem d_L_law_638 : decode b_L_law 638 = .ok (.iaload, 1) := by decide +kernel
theorem d_L_law_639 : decode b_L_law 639 = .ok (.invokevirtual 99, 3) := by decide +kernel
theorem d_L_law_642 : decode b_L_law 642 = .ok (.istore 6, 2) := by decide +kernel
theorem d_L_law_644 : decode b_L_law 644 = .ok (.aload_n 2, 1) := by decide +kernel
theorem d_L_law_645 : decode b_L_law 645 = .ok (.invokevirtual 63, 3) := by decide +kernel
theorem d_L_law_648 : decode b_L_law 648 = .ok (.iload 5, 2) := by decide +kernel
theorem d_L_law_650 : decode b_L_law 650 = .ok (.if_icmp .eq 5, 3) := by decide +kernel
theorem d_L_law_653 : decode b_L_law 653 = .ok (.iconst 0, 1) := by decide +kernel
theorem d_L_law_654 : decode b_L_law 654 = .ok (.ireturn, 1) := by decide +kernel
theorem d_L_law_655 : decode b_L_law 655 = .ok (.iload 5, 2) := by decide +kernel
theorem d_L_law_657 : decode b_L_law 657 = .ok (.ifCond .ne 22, 3) := by decide +kernel
theorem d_L_law_660 : decode b_L_law 660 = .ok (.aload_n 3, 1) := by decide +kernel
theorem d_L_law_661 : decode b_L_law 661 = .ok (.iconst 0, 1) := by decide +kernel
theorem d_L_law_662 : decode b_L_law 662 = .ok (.laload, 1) := by decide +kernel
theorem d_L_law_663 : decode b_L_law 663 = .ok (.iload 6, 2) := by decide +kernel
theorem d_L_law_665 : decode b_L_law 665 = .ok (.ifCond .eq 7, 3) := by decide +kernel
theorem d_L_law_668 : decode b_L_law 668 = .ok (.lconst 1, 1) := by decide +kernel
theorem d_L_law_669 : decode b_L_law 669 = .ok (.goto 4, 3) := by decide +kernel
theorem d_L_law_672 : decode b_L_law 672 = .ok (.lconst 0, 1) := by decide +kernel
theorem d_L_law_673 : decode b_L_law 673 = .ok (.lcmp, 1) := by decide +kernel
theorem d_L_law_674 : decode b_L_law 674 = .ok (.ifCond .eq 5, 3) := by decide +kernel
theorem d_L_law_677 : decode b_L_law 677 = .ok (.iconst 0, 1) := by decide +kernel
theorem d_L_law_678 : decode b_L_law 678 = .ok (.ireturn, 1) := by decide +kernel
theorem d_L_law_679 : decode b_L_law 679 = .ok (.goto 166, 3) := by decide +kernel
theorem d_L_law_682 : decode b_L_law 682 = .ok (.aload_n 1, 1) := by decide +kernel
theorem d_L_law_683 : decode b_L_law 683 = .ok (.aload_n 0, 1) := by decide +kernel
theorem d_L_law_684 : decode b_L_law 684 = .ok (.iload 4, 2) := by decide +kernel
theorem d_L_law_686 : decode b_L_law 686 = .ok (.iconst 1, 1) := by decide +kernel
theorem d_L_law_687 : decode b_L_law 687 = .ok (.iadd, 1) := by decide +kernel
theorem d_L_law_688 : decode b_L_law 688 = .ok (.iaload, 1) := by decide +kernel
theorem d_L_law_689 : decode b_L_law 689 = .ok (.aload_n 0, 1) := by decide +kernel
theorem d_L_law_690 : decode b_L_law 690 = .ok (.iload 4, 2) := by decide +kernel
theorem d_L_law_692 : decode b_L_law 692 = .ok (.iconst 2, 1) := by decide +kernel
theorem d_L_law_693 : decode b_L_law 693 = .ok (.iadd, 1) := by decide +kernel
theorem d_L_law_694 : decode b_L_law 694 = .ok (.iaload, 1) := by decide +kernel
theorem d_L_law_695 : decode b_L_law 695 = .ok (.aload_n 3, 1) := by decide +kernel
theorem d_L_law_696 : decode b_L_law 696 = .ok (.invokestatic 100, 3) := by decide +kernel
theorem d_L_law_699 : decode b_L_law 699 = .ok (.istore 5, 2) := by decide +kernel
theorem d_L_law_701 : decode b_L_law 701 = .ok (.aload_n 2, 1) := by decide +kernel
theorem d_L_law_702 : decode b_L_law 702 = .ok (.aload_n 0, 1) := by decide +kernel
theorem d_L_law_703 : decode b_L_law 703 = .ok (.iload 4, 2) := by decide +kernel
theorem d_L_law_705 : decode b_L_law 705 = .ok (.iconst 1, 1) := by decide +kernel
theorem d_L_law_706 : decode b_L_law 706 = .ok (.iadd, 1) := by decide +kernel
theorem d_L_law_707 : decode b_L_law 707 = .ok (.iaload, 1) := by decide +kernel
theorem d_L_law_708 : decode b_L_law 708 = .ok (.aload_n 0, 1) := by decide +kernel
theorem d_L_law_709 : decode b_L_law 709 = .ok (.iload 4, 2) := by decide +kernel
theorem d_L_law_711 : decode b_L_law 711 = .ok (.iconst 2, 1) := by decide +kernel
theorem d_L_law_712 : decode b_L_law 712 = .ok (.iadd, 1) := by decide +kernel
theorem d_L_law_713 : decode b_L_law 713 = .ok (.iaload, 1) := by decide +kernel
theorem d_L_law_714 : decode b_L_law 714 = .ok (.invokevirtual 102, 3) := by decide +kernel
theorem d_L_law_717 : decode b_L_law 717 = .ok (.istore 6, 2) := by decide +kernel
theorem d_L_law_719 : decode b_L_law 719 = .ok (.aload_n 2, 1) := by decide +kernel
theorem d_L_law_720 : decode b_L_law 720 = .ok (.invokevirtual 63, 3) := by decide +kernel
theorem d_L_law_723 : decode b_L_law 723 = .ok (.iload 5, 2) := by decide +kernel
theorem d_L_law_725 : decode b_L_law 725 = .ok (.if_icmp .eq 5, 3) := by decide +kernel
theorem d_L_law_728 : decode b_L_law 728 = .ok (.iconst 0, 1) := by decide +kernel
theorem d_L_law_729 : decode b_L_law 729 = .ok (.ireturn, 1) := by decide +kernel
theorem d_L_law_730 : decode b_L_law 730 = .ok (.iload 5, 2) := by decide +kernel
theorem d_L_law_732 : decode b_L_law 732 = .ok (.ifCond .ne 22, 3) := by decide +kernel
theorem d_L_law_735 : decode b_L_law 735 = .ok (.aload_n 3, 1) := by decide +kernel
theorem d_L_law_736 : decode b_L_law 736 = .ok (.iconst 0, 1) := by decide +kernel
theorem d_L_law_737 : decode b_L_law 737 = .ok (.laload, 1) := by decide +kernel
theorem d_L_law_738 : decode b_L_law 738 = .ok (.iload 6, 2) := by decide +kernel
theorem d_L_law_740 : decode b_L_law 740 = .ok (.ifCond .eq 7, 3) := by decide +kernel
theorem d_L_law_743 : decode b_L_law 743 = .ok (.lconst 1, 1) := by decide +kernel
theorem d_L_law_744 : decode b_L_law 744 = .ok (.goto 4, 3) := by decide +kernel
theorem d_L_law_747 : decode b_L_law 747 = .ok (.lconst 0, 1) := by decide +kernel
theorem d_L_law_748 : decode b_L_law 748 = .ok (.lcmp, 1) := by decide +kernel
theorem d_L_law_749 : decode b_L_law 749 = .ok (.ifCond .eq 5, 3) := by decide +kernel
theorem d_L_law_752 : decode b_L_law 752 = .ok (.iconst 0, 1) := by decide +kernel
theorem d_L_law_753 : decode b_L_law 753 = .ok (.ireturn, 1) := by decide +kernel
theorem d_L_law_754 : decode b_L_law 754 = .ok (.goto 91, 3) := by decide +kernel
theorem d_L_law_757 : decode b_L_law 757 = .ok (.aload_n 1, 1) := by decide +kernel
theorem d_L_law_758 : decode b_L_law 758 = .ok (.aload_n 0, 1) := by decide +kernel
theorem d_L_law_759 : decode b_L_law 759 = .ok (.iload 4, 2) := by decide +kernel
theorem d_L_law_761 : decode b_L_law 761 = .ok (.iconst 1, 1) := by decide +kernel
theorem d_L_law_762 : decode b_L_law 762 = .ok (.iadd, 1) := by decide +kernel
theorem d_L_law_763 : decode b_L_law 763 = .ok (.iaload, 1) := by decide +kernel
theorem d_L_law_764 : decode b_L_law 764 = .ok (.aload_n 3, 1) := by decide +kernel
theorem d_L_law_765 : decode b_L_law 765 = .ok (.invokestatic 103, 3) := by decide +kernel
theorem d_L_law_768 : decode b_L_law 768 = .ok (.istore 5, 2) := by decide +kernel
theorem d_L_law_770 : decode b_L_law 770 = .ok (.aload_n 2, 1) := by decide +kernel
theorem d_L_law_771 : decode b_L_law 771 = .ok (.aload_n 0, 1) := by decide +kernel
theorem d_L_law_772 : decode b_L_law 772 = .ok (.iload 4, 2) := by decide +kernel
theorem d_L_law_774 : decode b_L_law 774 = .ok (.iconst 1, 1) := by decide +kernel
theorem d_L_law_775 : decode b_L_law 775 = .ok (.iadd, 1) := by decide +kernel
theorem d_L_law_776 : decode b_L_law 776 = .ok (.iaload, 1) := by decide +kernel
theorem d_L_law_777 : decode b_L_law 777 = .ok (.invokevirtual 105, 3) := by decide +kernel
theorem d_L_law_780 : decode b_L_law 780 = .ok (.istore 6, 2) := by decide +kernel
theorem d_L_law_782 : decode b_L_law 782 = .ok (.aload_n 2, 1) := by decide +kernel
theorem d_L_law_783 : decode b_L_law 783 = .ok (.invokevirtual 63, 3) := by decide +kernel
theorem d_L_law_786 : decode b_L_law 786 = .ok (.iload 5, 2) := by decide +kernel
theorem d_L_law_788 : decode b_L_law 788 = .ok (.if_icmp .eq 5, 3) := by decide +kernel
theorem d_L_law_791 : decode b_L_law 791 = .ok (.iconst 0, 1) := by decide +kernel
theorem d_L_law_792 : decode b_L_law 792 = .ok (.ireturn, 1) := by decide +kernel
theorem d_L_law_793 : decode b_L_law 793 = .ok (.iload 5, 2) := by decide +kernel
theorem d_L_law_795 : decode b_L_law 795 = .ok (.ifCond .ne 22, 3) := by decide +kernel
theorem d_L_law_798 : decode b_L_law 798 = .ok (.aload_n 3, 1) := by decide +kernel
theorem d_L_law_799 : decode b_L_law 799 = .ok (.iconst 0, 1) := by decide +kernel
theorem d_L_law_800 : decode b_L_law 800 = .ok (.laload, 1) := by decide +kernel
theorem d_L_law_801 : decode b_L_law 801 = .ok (.iload 6, 2) := by decide +kernel
theorem d_L_law_803 : decode b_L_law 803 = .ok (.ifCond .eq 7, 3) := by decide +kernel
theorem d_L_law_806 : decode b_L_law 806 = .ok (.lconst 1, 1) := by decide +kernel
theorem d_L_law_807 : decode b_L_law 807 = .ok (.goto 4, 3) := by decide +kernel
theorem d_L_law_810 : decode b_L_law 810 = .ok (.lconst 0, 1) := by decide +kernel
theorem d_L_law_811 : decode b_L_law 811 = .ok (.lcmp, 1) := by decide +kernel
theorem d_L_law_812 : decode b_L_law 812 = .ok (.ifCond .eq 5, 3) := by decide +kernel
theorem d_L_law_815 : decode b_L_law 815 = .ok (.iconst 0, 1) := by decide +kernel
theorem d_L_law_816 : decode b_L_law 816 = .ok (.ireturn, 1) := by decide +kernel
theorem d_L_law_817 : decode b_L_law 817 = .ok (.goto 28, 3) := by decide +kernel
theorem d_L_law_820 : decode b_L_law 820 = .ok (.aload_n 1, 1) := by decide +kernel
theorem d_L_law_821 : decode b_L_law 821 = .ok (.aload_n 0, 1) := by decide +kernel
theorem d_L_law_822 : decode b_L_law 822 = .ok (.iload 4, 2) := by decide +kernel
theorem d_L_law_824 : decode b_L_law 824 = .ok (.iconst 1, 1) := by decide +kernel
theorem d_L_law_825 : decode b_L_law 825 = .ok (.iadd, 1) := by decide +kernel
theorem d_L_law_826 : decode b_L_law 826 = .ok (.iaload, 1) := by decide +kernel
theorem d_L_law_827 : decode b_L_law 827 = .ok (.invokevirtual 106, 3) := by decide +kernel
theorem d_L_law_830 : decode b_L_law 830 = .ok (.aload_n 2, 1) := by decide +kernel
theorem d_L_law_831 : decode b_L_law 831 = .ok (.aload_n 0, 1) := by decide +kernel
theorem d_L_law_832 : decode b_L_law 832 = .ok (.iload 4, 2) := by decide +kernel
theorem d_L_law_834 : decode b_L_law 834 = .ok (.iconst 1, 1) := by decide +kernel
theorem d_L_law_835 : decode b_L_law 835 = .ok (.iadd, 1) := by decide +kernel
theorem d_L_law_836 : decode b_L_law 836 = .ok (.iaload, 1) := by decide +kernel
theorem d_L_law_837 : decode b_L_law 837 = .ok (.invokevirtual 109, 3) := by decide +kernel
theorem d_L_law_840 : decode b_L_law 840 = .ok (.if_icmp .eq 5, 3) := by decide +kernel
theorem d_L_law_843 : decode b_L_law 843 = .ok (.iconst 0, 1) := by decide +kernel
theorem d_L_law_844 : decode b_L_law 844 = .ok (.ireturn, 1) := by decide +kernel
theorem d_L_law_845 : decode b_L_law 845 = .ok (.iinc 4 5, 3) := by decide +kernel
theorem d_L_law_848 : decode b_L_law 848 = .ok (.goto (-825), 3) := by decide +kernel
theorem d_L_law_851 : decode b_L_law 851 = .ok (.iconst 1, 1) := by decide +kernel
theorem d_L_law_852 : decode b_L_law 852 = .ok (.ireturn, 1) := by decide +kernel
