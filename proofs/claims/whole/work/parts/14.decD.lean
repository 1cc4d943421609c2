theorem d_Mo_rowMany_0 : decode prog_11_method_39_code 0 = .ok (.iconst 0, 1) := by decide +kernel
theorem d_Mo_rowMany_1 : decode prog_11_method_39_code 1 = .ok (.istore_n 1, 1) := by decide +kernel
theorem d_Mo_rowMany_2 : decode prog_11_method_39_code 2 = .ok (.iconst 0, 1) := by decide +kernel
theorem d_Mo_rowMany_3 : decode prog_11_method_39_code 3 = .ok (.istore_n 2, 1) := by decide +kernel
theorem d_Mo_rowMany_4 : decode prog_11_method_39_code 4 = .ok (.iload_n 2, 1) := by decide +kernel
theorem d_Mo_rowMany_5 : decode prog_11_method_39_code 5 = .ok (.bipush 24, 2) := by decide +kernel
theorem d_Mo_rowMany_7 : decode prog_11_method_39_code 7 = .ok (.if_icmp .ge 18, 3) := by decide +kernel
theorem d_Mo_rowMany_10 : decode prog_11_method_39_code 10 = .ok (.iload_n 1, 1) := by decide +kernel
theorem d_Mo_rowMany_11 : decode prog_11_method_39_code 11 = .ok (.aload_n 0, 1) := by decide +kernel
theorem d_Mo_rowMany_12 : decode prog_11_method_39_code 12 = .ok (.getfield 48, 3) := by decide +kernel
theorem d_Mo_rowMany_15 : decode prog_11_method_39_code 15 = .ok (.iload_n 2, 1) := by decide +kernel
theorem d_Mo_rowMany_16 : decode prog_11_method_39_code 16 = .ok (.iaload, 1) := by decide +kernel
theorem d_Mo_rowMany_17 : decode prog_11_method_39_code 17 = .ok (.iadd, 1) := by decide +kernel
theorem d_Mo_rowMany_18 : decode prog_11_method_39_code 18 = .ok (.istore_n 1, 1) := by decide +kernel
theorem d_Mo_rowMany_19 : decode prog_11_method_39_code 19 = .ok (.iinc 2 1, 3) := by decide +kernel
theorem d_Mo_rowMany_22 : decode prog_11_method_39_code 22 = .ok (.goto (-18), 3) := by decide +kernel
theorem d_Mo_rowMany_25 : decode prog_11_method_39_code 25 = .ok (.iload_n 1, 1) := by decide +kernel
theorem d_Mo_rowMany_26 : decode prog_11_method_39_code 26 = .ok (.ireturn, 1) := by decide +kernel
theorem d_Mo_clearRow_0 : decode prog_11_method_40_code 0 = .ok (.iconst 0, 1) := by decide +kernel
theorem d_Mo_clearRow_1 : decode prog_11_method_40_code 1 = .ok (.istore_n 1, 1) := by decide +kernel
theorem d_Mo_clearRow_2 : decode prog_11_method_40_code 2 = .ok (.iload_n 1, 1) := by decide +kernel
theorem d_Mo_clearRow_3 : decode prog_11_method_40_code 3 = .ok (.bipush 24, 2) := by decide +kernel
theorem d_Mo_clearRow_5 : decode prog_11_method_40_code 5 = .ok (.if_icmp .ge 16, 3) := by decide +kernel
theorem d_Mo_clearRow_8 : decode prog_11_method_40_code 8 = .ok (.aload_n 0, 1) := by decide +kernel
theorem d_Mo_clearRow_9 : decode prog_11_method_40_code 9 = .ok (.getfield 48, 3) := by decide +kernel
theorem d_Mo_clearRow_12 : decode prog_11_method_40_code 12 = .ok (.iload_n 1, 1) := by decide +kernel
theorem d_Mo_clearRow_13 : decode prog_11_method_40_code 13 = .ok (.iconst 0, 1) := by decide +kernel
theorem d_Mo_clearRow_14 : decode prog_11_method_40_code 14 = .ok (.iastore, 1) := by decide +kernel
theorem d_Mo_clearRow_15 : decode prog_11_method_40_code 15 = .ok (.iinc 1 1, 3) := by decide +kernel
theorem d_Mo_clearRow_18 : decode prog_11_method_40_code 18 = .ok (.goto (-16), 3) := by decide +kernel
theorem d_Mo_clearRow_21 : decode prog_11_method_40_code 21 = .ok (.return_, 1) := by decide +kernel
theorem d_Mo_layRow_0 : decode prog_11_method_41_code 0 = .ok (.aload_n 0, 1) := by decide +kernel
theorem d_Mo_layRow_1 : decode prog_11_method_41_code 1 = .ok (.getfield 7, 3) := by decide +kernel
theorem d_Mo_layRow_4 : decode prog_11_method_41_code 4 = .ok (.iload_n 2, 1) := by decide +kernel
theorem d_Mo_layRow_5 : decode prog_11_method_41_code 5 = .ok (.iload_n 1, 1) := by decide +kernel
theorem d_Mo_layRow_6 : decode prog_11_method_41_code 6 = .ok (.iastore, 1) := by decide +kernel
theorem d_Mo_layRow_7 : decode prog_11_method_41_code 7 = .ok (.aload_n 0, 1) := by decide +kernel
theorem d_Mo_layRow_8 : decode prog_11_method_41_code 8 = .ok (.getfield 13, 3) := by decide +kernel
theorem d_Mo_layRow_11 : decode prog_11_method_41_code 11 = .ok (.iload_n 2, 1) := by decide +kernel
theorem d_Mo_layRow_12 : decode prog_11_method_41_code 12 = .ok (.iconst 0, 1) := by decide +kernel
theorem d_Mo_layRow_13 : decode prog_11_method_41_code 13 = .ok (.iastore, 1) := by decide +kernel
theorem d_Mo_layRow_14 : decode prog_11_method_41_code 14 = .ok (.iconst 0, 1) := by decide +kernel
theorem d_Mo_layRow_15 : decode prog_11_method_41_code 15 = .ok (.istore_n 3, 1) := by decide +kernel
theorem d_Mo_layRow_16 : decode prog_11_method_41_code 16 = .ok (.iload_n 3, 1) := by decide +kernel
theorem d_Mo_layRow_17 : decode prog_11_method_41_code 17 = .ok (.bipush 24, 2) := by decide +kernel
theorem d_Mo_layRow_19 : decode prog_11_method_41_code 19 = .ok (.if_icmp .ge 47, 3) := by decide +kernel
theorem d_Mo_layRow_22 : decode prog_11_method_41_code 22 = .ok (.iconst 0, 1) := by decide +kernel
theorem d_Mo_layRow_23 : decode prog_11_method_41_code 23 = .ok (.istore 4, 2) := by decide +kernel
theorem d_Mo_layRow_25 : decode prog_11_method_41_code 25 = .ok (.iload 4, 2) := by decide +kernel
theorem d_Mo_layRow_27 : decode prog_11_method_41_code 27 = .ok (.aload_n 0, 1) := by decide +kernel
theorem d_Mo_layRow_28 : decode prog_11_method_41_code 28 = .ok (.getfield 48, 3) := by decide +kernel
theorem d_Mo_layRow_31 : decode prog_11_method_41_code 31 = .ok (.iload_n 3, 1) := by decide +kernel
theorem d_Mo_layRow_32 : decode prog_11_method_41_code 32 = .ok (.iaload, 1) := by decide +kernel
theorem d_Mo_layRow_33 : decode prog_11_method_41_code 33 = .ok (.if_icmp .ge 27, 3) := by decide +kernel
theorem d_Mo_layRow_36 : decode prog_11_method_41_code 36 = .ok (.aload_n 0, 1) := by decide +kernel
theorem d_Mo_layRow_37 : decode prog_11_method_41_code 37 = .ok (.iload_n 2, 1) := by decide +kernel
theorem d_Mo_layRow_38 : decode prog_11_method_41_code 38 = .ok (.iload_n 3, 1) := by decide +kernel
theorem d_Mo_layRow_39 : decode prog_11_method_41_code 39 = .ok (.invokestatic 200, 3) := by decide +kernel
theorem d_Mo_layRow_42 : decode prog_11_method_41_code 42 = .ok (.iload_n 3, 1) := by decide +kernel
theorem d_Mo_layRow_43 : decode prog_11_method_41_code 43 = .ok (.invokestatic 197, 3) := by decide +kernel
theorem d_Mo_layRow_46 : decode prog_11_method_41_code 46 = .ok (.iconst 1, 1) := by decide +kernel
theorem d_Mo_layRow_47 : decode prog_11_method_41_code 47 = .ok (.iload_n 3, 1) := by decide +kernel
theorem d_Mo_layRow_48 : decode prog_11_method_41_code 48 = .ok (.iconst 4, 1) := by decide +kernel
theorem d_Mo_layRow_49 : decode prog_11_method_41_code 49 = .ok (.irem, 1) := by decide +kernel
theorem d_Mo_layRow_50 : decode prog_11_method_41_code 50 = .ok (.iadd, 1) := by decide +kernel
theorem d_Mo_layRow_51 : decode prog_11_method_41_code 51 = .ok (.invokevirtual 124, 3) := by decide +kernel
theorem d_Mo_layRow_54 : decode prog_11_method_41_code 54 = .ok (.iinc 4 1, 3) := by decide +kernel
theorem d_Mo_layRow_57 : decode prog_11_method_41_code 57 = .ok (.goto (-32), 3) := by decide +kernel
theorem d_Mo_layRow_60 : decode prog_11_method_41_code 60 = .ok (.iinc 3 1, 3) := by decide +kernel
theorem d_Mo_layRow_63 : decode prog_11_method_41_code 63 = .ok (.goto (-47), 3) := by decide +kernel
theorem d_Mo_layRow_66 : decode prog_11_method_41_code 66 = .ok (.return_, 1) := by decide +kernel
theorem d_Mo_areKnots_0 : decode prog_11_method_42_code 0 = .ok (.iload_n 0, 1) := by decide +kernel
theorem d_Mo_areKnots_1 : decode prog_11_method_42_code 1 = .ok (.i2l, 1) := by decide +kernel
theorem d_Mo_areKnots_2 : decode prog_11_method_42_code 2 = .ok (.lconst 1, 1) := by decide +kernel
theorem d_Mo_areKnots_3 : decode prog_11_method_42_code 3 = .ok (.ldc2_w 111, 3) := by decide +kernel
theorem d_Mo_areKnots_6 : decode prog_11_method_42_code 6 = .ok (.invokestatic 107, 3) := by decide +kernel
theorem d_Mo_areKnots_9 : decode prog_11_method_42_code 9 = .ok (.ifCond .eq 19, 3) := by decide +kernel
theorem d_Mo_areKnots_12 : decode prog_11_method_42_code 12 = .ok (.iload_n 1, 1) := by decide +kernel
theorem d_Mo_areKnots_13 : decode prog_11_method_42_code 13 = .ok (.i2l, 1) := by decide +kernel
theorem d_Mo_areKnots_14 : decode prog_11_method_42_code 14 = .ok (.lconst 0, 1) := by decide +kernel
theorem d_Mo_areKnots_15 : decode prog_11_method_42_code 15 = .ok (.ldc2_w 132, 3) := by decide +kernel
theorem d_Mo_areKnots_18 : decode prog_11_method_42_code 18 = .ok (.invokestatic 107, 3) := by decide +kernel
theorem d_Mo_areKnots_21 : decode prog_11_method_42_code 21 = .ok (.ifCond .eq 7, 3) := by decide +kernel
theorem d_Mo_areKnots_24 : decode prog_11_method_42_code 24 = .ok (.iconst 1, 1) := by decide +kernel
theorem d_Mo_areKnots_25 : decode prog_11_method_42_code 25 = .ok (.goto 4, 3) := by decide +kernel
theorem d_Mo_areKnots_28 : decode prog_11_method_42_code 28 = .ok (.iconst 0, 1) := by decide +kernel
theorem d_Mo_areKnots_29 : decode prog_11_method_42_code 29 = .ok (.ireturn, 1) := by decide +kernel
theorem d_Mo_find_0 : decode prog_11_method_43_code 0 = .ok (.bipush 7, 2) := by decide +kernel
theorem d_Mo_find_2 : decode prog_11_method_43_code 2 = .ok (.iload_n 1, 1) := by decide +kernel
theorem d_Mo_find_3 : decode prog_11_method_43_code 3 = .ok (.imul, 1) := by decide +kernel
theorem d_Mo_find_4 : decode prog_11_method_43_code 4 = .ok (.iload_n 2, 1) := by decide +kernel
theorem d_Mo_find_5 : decode prog_11_method_43_code 5 = .ok (.iadd, 1) := by decide +kernel
theorem d_Mo_find_6 : decode prog_11_method_43_code 6 = .ok (.istore_n 3, 1) := by decide +kernel
theorem d_Mo_find_7 : decode prog_11_method_43_code 7 = .ok (.aload_n 0, 1) := by decide +kernel
theorem d_Mo_find_8 : decode prog_11_method_43_code 8 = .ok (.getfield 51, 3) := by decide +kernel
theorem d_Mo_find_11 : decode prog_11_method_43_code 11 = .ok (.iload_n 3, 1) := by decide +kernel
theorem d_Mo_find_12 : decode prog_11_method_43_code 12 = .ok (.baload, 1) := by decide +kernel
theorem d_Mo_find_13 : decode prog_11_method_43_code 13 = .ok (.ifCond .eq 4, 3) := by decide +kernel
theorem d_Mo_find_16 : decode prog_11_method_43_code 16 = .ok (.return_, 1) := by decide +kernel
theorem d_Mo_find_17 : decode prog_11_method_43_code 17 = .ok (.aload_n 0, 1) := by decide +kernel
theorem d_Mo_find_18 : decode prog_11_method_43_code 18 = .ok (.getfield 51, 3) := by decide +kernel
theorem d_Mo_find_21 : decode prog_11_method_43_code 21 = .ok (.iload_n 3, 1) := by decide +kernel
theorem d_Mo_find_22 : decode prog_11_method_43_code 22 = .ok (.iconst 1, 1) := by decide +kernel
theorem d_Mo_find_23 : decode prog_11_method_43_code 23 = .ok (.bastore, 1) := by decide +kernel
theorem d_Mo_find_24 : decode prog_11_method_43_code 24 = .ok (.aload_n 0, 1) := by decide +kernel
theorem d_Mo_find_25 : decode prog_11_method_43_code 25 = .ok (.invokevirtual 209, 3) := by decide +kernel
theorem d_Mo_find_28 : decode prog_11_method_43_code 28 = .ok (.iconst 1, 1) := by decide +kernel
theorem d_Mo_find_29 : decode prog_11_method_43_code 29 = .ok (.istore 4, 2) := by decide +kernel
theorem d_Mo_find_31 : decode prog_11_method_43_code 31 = .ok (.iload 4, 2) := by decide +kernel
theorem d_Mo_find_33 : decode prog_11_method_43_code 33 = .ok (.ifCond .eq 142, 3) := by decide +kernel
theorem d_Mo_find_36 : decode prog_11_method_43_code 36 = .ok (.aload_n 0, 1) := by decide +kernel
theorem d_Mo_find_37 : decode prog_11_method_43_code 37 = .ok (.invokevirtual 212, 3) := by decide +kernel
theorem d_Mo_find_40 : decode prog_11_method_43_code 40 = .ok (.iload_n 1, 1) := by decide +kernel
theorem d_Mo_find_41 : decode prog_11_method_43_code 41 = .ok (.iload_n 1, 1) := by decide +kernel
theorem d_Mo_find_42 : decode prog_11_method_43_code 42 = .ok (.iconst 1, 1) := by decide +kernel
theorem d_Mo_find_43 : decode prog_11_method_43_code 43 = .ok (.isub, 1) := by decide +kernel
theorem d_Mo_find_44 : decode prog_11_method_43_code 44 = .ok (.imul, 1) := by decide +kernel
theorem d_Mo_find_45 : decode prog_11_method_43_code 45 = .ok (.iconst 2, 1) := by decide +kernel
theorem d_Mo_find_46 : decode prog_11_method_43_code 46 = .ok (.idiv, 1) := by decide +kernel
theorem d_Mo_find_47 : decode prog_11_method_43_code 47 = .ok (.iload_n 2, 1) := by decide +kernel
theorem d_Mo_find_48 : decode prog_11_method_43_code 48 = .ok (.isub, 1) := by decide +kernel
theorem d_Mo_find_49 : decode prog_11_method_43_code 49 = .ok (.if_icmp .ne 116, 3) := by decide +kernel
theorem d_Mo_find_52 : decode prog_11_method_43_code 52 = .ok (.aload_n 0, 1) := by decide +kernel
theorem d_Mo_find_53 : decode prog_11_method_43_code 53 = .ok (.iload_n 1, 1) := by decide +kernel
theorem d_Mo_find_54 : decode prog_11_method_43_code 54 = .ok (.bipush 8, 2) := by decide +kernel
theorem d_Mo_find_56 : decode prog_11_method_43_code 56 = .ok (.invokevirtual 216, 3) := by decide +kernel
theorem d_Mo_find_59 : decode prog_11_method_43_code 59 = .ok (.aload_n 0, 1) := by decide +kernel
theorem d_Mo_find_60 : decode prog_11_method_43_code 60 = .ok (.bipush 8, 2) := by decide +kernel
theorem d_Mo_find_62 : decode prog_11_method_43_code 62 = .ok (.bipush (-4), 2) := by decide +kernel
theorem d_Mo_find_64 : decode prog_11_method_43_code 64 = .ok (.iconst 0, 1) := by decide +kernel
theorem d_Mo_find_65 : decode prog_11_method_43_code 65 = .ok (.invokevirtual 184, 3) := by decide +kernel
theorem d_Mo_find_68 : decode prog_11_method_43_code 68 = .ok (.lstore 5, 2) := by decide +kernel
theorem d_Mo_find_70 : decode prog_11_method_43_code 70 = .ok (.aload_n 0, 1) := by decide +kernel
theorem d_Mo_find_71 : decode prog_11_method_43_code 71 = .ok (.bipush 8, 2) := by decide +kernel
theorem d_Mo_find_73 : decode prog_11_method_43_code 73 = .ok (.invokevirtual 156, 3) := by decide +kernel
theorem d_Mo_find_76 : decode prog_11_method_43_code 76 = .ok (.aload_n 0, 1) := by decide +kernel
theorem d_Mo_find_77 : decode prog_11_method_43_code 77 = .ok (.getfield 55, 3) := by decide +kernel
theorem d_Mo_find_80 : decode prog_11_method_43_code 80 = .ok (.iload_n 3, 1) := by decide +kernel
theorem d_Mo_find_81 : decode prog_11_method_43_code 81 = .ok (.dup2, 1) := by decide +kernel
theorem d_Mo_find_82 : decode prog_11_method_43_code 82 = .ok (.laload, 1) := by decide +kernel
theorem d_Mo_find_83 : decode prog_11_method_43_code 83 = .ok (.lload 5, 2) := by decide +kernel
theorem d_Mo_find_85 : decode prog_11_method_43_code 85 = .ok (.aload_n 0, 1) := by decide +kernel
theorem d_Mo_find_86 : decode prog_11_method_43_code 86 = .ok (.bipush 8, 2) := by decide +kernel
theorem d_Mo_find_88 : decode prog_11_method_43_code 88 = .ok (.invokevirtual 144, 3) := by decide +kernel
theorem d_Mo_find_91 : decode prog_11_method_43_code 91 = .ok (.i2l, 1) := by decide +kernel
theorem d_Mo_find_92 : decode prog_11_method_43_code 92 = .ok (.lmul, 1) := by decide +kernel
theorem d_Mo_find_93 : decode prog_11_method_43_code 93 = .ok (.ladd, 1) := by decide +kernel
theorem d_Mo_find_94 : decode prog_11_method_43_code 94 = .ok (.lastore, 1) := by decide +kernel
theorem d_Mo_find_95 : decode prog_11_method_43_code 95 = .ok (.aload_n 0, 1) := by decide +kernel
theorem d_Mo_find_96 : decode prog_11_method_43_code 96 = .ok (.getfield 58, 3) := by decide +kernel
theorem d_Mo_find_99 : decode prog_11_method_43_code 99 = .ok (.iload_n 3, 1) := by decide +kernel
theorem d_Mo_find_100 : decode prog_11_method_43_code 100 = .ok (.dup2, 1) := by decide +kernel
theorem d_Mo_find_101 : decode prog_11_method_43_code 101 = .ok (.laload, 1) := by decide +kernel
theorem d_Mo_find_102 : decode prog_11_method_43_code 102 = .ok (.lload 5, 2) := by decide +kernel
theorem d_Mo_find_104 : decode prog_11_method_43_code 104 = .ok (.aload_n 0, 1) := by decide +kernel
theorem d_Mo_find_105 : decode prog_11_method_43_code 105 = .ok (.bipush 8, 2) := by decide +kernel
theorem d_Mo_find_107 : decode prog_11_method_43_code 107 = .ok (.invokevirtual 147, 3) := by decide +kernel
theorem d_Mo_find_110 : decode prog_11_method_43_code 110 = .ok (.i2l, 1) := by decide +kernel
theorem d_Mo_find_111 : decode prog_11_method_43_code 111 = .ok (.lmul, 1) := by decide +kernel
theorem d_Mo_find_112 : decode prog_11_method_43_code 112 = .ok (.ladd, 1) := by decide +kernel
theorem d_Mo_find_113 : decode prog_11_method_43_code 113 = .ok (.lastore, 1) := by decide +kernel
theorem d_Mo_find_114 : decode prog_11_method_43_code 114 = .ok (.aload_n 0, 1) := by decide +kernel
theorem d_Mo_find_115 : decode prog_11_method_43_code 115 = .ok (.getfield 61, 3) := by decide +kernel
theorem d_Mo_find_118 : decode prog_11_method_43_code 118 = .ok (.iload_n 3, 1) := by decide +kernel
theorem d_Mo_find_119 : decode prog_11_method_43_code 119 = .ok (.dup2, 1) := by decide +kernel
theorem d_Mo_find_120 : decode prog_11_method_43_code 120 = .ok (.iaload, 1) := by decide +kernel
theorem d_Mo_find_121 : decode prog_11_method_43_code 121 = .ok (.iconst 1, 1) := by decide +kernel
theorem d_Mo_find_122 : decode prog_11_method_43_code 122 = .ok (.iadd, 1) := by decide +kernel
theorem d_Mo_find_123 : decode prog_11_method_43_code 123 = .ok (.iastore, 1) := by decide +kernel
theorem d_Mo_find_124 : decode prog_11_method_43_code 124 = .ok (.iconst 0, 1) := by decide +kernel
theorem d_Mo_find_125 : decode prog_11_method_43_code 125 = .ok (.istore 7, 2) := by decide +kernel
theorem d_Mo_find_127 : decode prog_11_method_43_code 127 = .ok (.iload 7, 2) := by decide +kernel
theorem d_Mo_find_129 : decode prog_11_method_43_code 129 = .ok (.bipush 37, 2) := by decide +kernel
theorem d_Mo_find_131 : decode prog_11_method_43_code 131 = .ok (.if_icmp .ge 34, 3) := by decide +kernel
theorem d_Mo_find_134 : decode prog_11_method_43_code 134 = .ok (.aload_n 0, 1) := by decide +kernel
theorem d_Mo_find_135 : decode prog_11_method_43_code 135 = .ok (.getfield 64, 3) := by decide +kernel
theorem d_Mo_find_138 : decode prog_11_method_43_code 138 = .ok (.bipush 37, 2) := by decide +kernel
theorem d_Mo_find_140 : decode prog_11_method_43_code 140 = .ok (.iload_n 3, 1) := by decide +kernel
theorem d_Mo_find_141 : decode prog_11_method_43_code 141 = .ok (.imul, 1) := by decide +kernel
theorem d_Mo_find_142 : decode prog_11_method_43_code 142 = .ok (.iload 7, 2) := by decide +kernel
theorem d_Mo_find_144 : decode prog_11_method_43_code 144 = .ok (.iadd, 1) := by decide +kernel
theorem d_Mo_find_145 : decode prog_11_method_43_code 145 = .ok (.dup2, 1) := by decide +kernel
theorem d_Mo_find_146 : decode prog_11_method_43_code 146 = .ok (.laload, 1) := by decide +kernel
theorem d_Mo_find_147 : decode prog_11_method_43_code 147 = .ok (.lload 5, 2) := by decide +kernel
theorem d_Mo_find_149 : decode prog_11_method_43_code 149 = .ok (.aload_n 0, 1) := by decide +kernel
theorem d_Mo_find_150 : decode prog_11_method_43_code 150 = .ok (.getfield 25, 3) := by decide +kernel
theorem d_Mo_find_153 : decode prog_11_method_43_code 153 = .ok (.iload 7, 2) := by decide +kernel
theorem d_Mo_find_155 : decode prog_11_method_43_code 155 = .ok (.laload, 1) := by decide +kernel
theorem d_Mo_find_156 : decode prog_11_method_43_code 156 = .ok (.lmul, 1) := by decide +kernel
theorem d_Mo_find_157 : decode prog_11_method_43_code 157 = .ok (.ladd, 1) := by decide +kernel
theorem d_Mo_find_158 : decode prog_11_method_43_code 158 = .ok (.lastore, 1) := by decide +kernel
theorem d_Mo_find_159 : decode prog_11_method_43_code 159 = .ok (.iinc 7 1, 3) := by decide +kernel
theorem d_Mo_find_162 : decode prog_11_method_43_code 162 = .ok (.goto (-35), 3) := by decide +kernel
theorem d_Mo_find_165 : decode prog_11_method_43_code 165 = .ok (.aload_n 0, 1) := by decide +kernel
theorem d_Mo_find_166 : decode prog_11_method_43_code 166 = .ok (.iload_n 1, 1) := by decide +kernel
theorem d_Mo_find_167 : decode prog_11_method_43_code 167 = .ok (.invokevirtual 220, 3) := by decide +kernel
theorem d_Mo_find_170 : decode prog_11_method_43_code 170 = .ok (.istore 4, 2) := by decide +kernel
theorem d_Mo_find_172 : decode prog_11_method_43_code 172 = .ok (.goto (-141), 3) := by decide +kernel
theorem d_Mo_find_175 : decode prog_11_method_43_code 175 = .ok (.return_, 1) := by decide +kernel
theorem d_Mo_count_0 : decode prog_11_method_44_code 0 = .ok (.iload_n 1, 1) := by decide +kernel
theorem d_Mo_count_1 : decode prog_11_method_44_code 1 = .ok (.iload_n 2, 1) := by decide +kernel
theorem d_Mo_count_2 : decode prog_11_method_44_code 2 = .ok (.invokestatic 223, 3) := by decide +kernel
theorem d_Mo_count_5 : decode prog_11_method_44_code 5 = .ok (.ifCond .ne 7, 3) := by decide +kernel
theorem d_Mo_count_8 : decode prog_11_method_44_code 8 = .ok (.ldc2_w 154, 3) := by decide +kernel
theorem d_Mo_count_11 : decode prog_11_method_44_code 11 = .ok (.lreturn, 1) := by decide +kernel
theorem d_Mo_count_12 : decode prog_11_method_44_code 12 = .ok (.aload_n 0, 1) := by decide +kernel
theorem d_Mo_count_13 : decode prog_11_method_44_code 13 = .ok (.iload_n 1, 1) := by decide +kernel
theorem d_Mo_count_14 : decode prog_11_method_44_code 14 = .ok (.iload_n 2, 1) := by decide +kernel
theorem d_Mo_count_15 : decode prog_11_method_44_code 15 = .ok (.invokevirtual 227, 3) := by decide +kernel
theorem d_Mo_count_18 : decode prog_11_method_44_code 18 = .ok (.aload_n 0, 1) := by decide +kernel
theorem d_Mo_count_19 : decode prog_11_method_44_code 19 = .ok (.getfield 55, 3) := by decide +kernel
theorem d_Mo_count_22 : decode prog_11_method_44_code 22 = .ok (.bipush 7, 2) := by decide +kernel
theorem d_Mo_count_24 : decode prog_11_method_44_code 24 = .ok (.iload_n 1, 1) := by decide +kernel
theorem d_Mo_count_25 : decode prog_11_method_44_code 25 = .ok (.imul, 1) := by decide +kernel
theorem d_Mo_count_26 : decode prog_11_method_44_code 26 = .ok (.iload_n 2, 1) := by decide +kernel
theorem d_Mo_count_27 : decode prog_11_method_44_code 27 = .ok (.iadd, 1) := by decide +kernel
theorem d_Mo_count_28 : decode prog_11_method_44_code 28 = .ok (.laload, 1) := by decide +kernel
theorem d_Mo_count_29 : decode prog_11_method_44_code 29 = .ok (.lreturn, 1) := by decide +kernel
theorem d_Mo_signed_0 : decode prog_11_method_45_code 0 = .ok (.iload_n 1, 1) := by decide +kernel
theorem d_Mo_signed_1 : decode prog_11_method_45_code 1 = .ok (.iload_n 2, 1) := by decide +kernel
theorem d_Mo_signed_2 : decode prog_11_method_45_code 2 = .ok (.invokestatic 223, 3) := by decide +kernel
theorem d_Mo_signed_5 : decode prog_11_method_45_code 5 = .ok (.ifCond .ne 7, 3) := by decide +kernel
theorem d_Mo_signed_8 : decode prog_11_method_45_code 8 = .ok (.ldc2_w 154, 3) := by decide +kernel
theorem d_Mo_signed_11 : decode prog_11_method_45_code 11 = .ok (.lreturn, 1) := by decide +kernel
theorem d_Mo_signed_12 : decode prog_11_method_45_code 12 = .ok (.aload_n 0, 1) := by decide +kernel
theorem d_Mo_signed_13 : decode prog_11_method_45_code 13 = .ok (.iload_n 1, 1) := by decide +kernel
theorem d_Mo_signed_14 : decode prog_11_method_45_code 14 = .ok (.iload_n 2, 1) := by decide +kernel
theorem d_Mo_signed_15 : decode prog_11_method_45_code 15 = .ok (.invokevirtual 227, 3) := by decide +kernel
theorem d_Mo_signed_18 : decode prog_11_method_45_code 18 = .ok (.aload_n 0, 1) := by decide +kernel
theorem d_Mo_signed_19 : decode prog_11_method_45_code 19 = .ok (.getfield 58, 3) := by decide +kernel
theorem d_Mo_signed_22 : decode prog_11_method_45_code 22 = .ok (.bipush 7, 2) := by decide +kernel
theorem d_Mo_signed_24 : decode prog_11_method_45_code 24 = .ok (.iload_n 1, 1) := by decide +kernel
theorem d_Mo_signed_25 : decode prog_11_method_45_code 25 = .ok (.imul, 1) := by decide +kernel
theorem d_Mo_signed_26 : decode prog_11_method_45_code 26 = .ok (.iload_n 2, 1) := by decide +kernel
theorem d_Mo_signed_27 : decode prog_11_method_45_code 27 = .ok (.iadd, 1) := by decide +kernel
theorem d_Mo_signed_28 : decode prog_11_method_45_code 28 = .ok (.laload, 1) := by decide +kernel
theorem d_Mo_signed_29 : decode prog_11_method_45_code 29 = .ok (.lreturn, 1) := by decide +kernel
theorem d_Mo_spreadAll_0 : decode prog_11_method_46_code 0 = .ok (.iload_n 1, 1) := by decide +kernel
theorem d_Mo_spreadAll_1 : decode prog_11_method_46_code 1 = .ok (.iload_n 2, 1) := by decide +kernel
theorem d_Mo_spreadAll_2 : decode prog_11_method_46_code 2 = .ok (.invokestatic 223, 3) := by decide +kernel
theorem d_Mo_spreadAll_5 : decode prog_11_method_46_code 5 = .ok (.ifCond .ne 7, 3) := by decide +kernel
theorem d_Mo_spreadAll_8 : decode prog_11_method_46_code 8 = .ok (.ldc2_w 154, 3) := by decide +kernel
theorem d_Mo_spreadAll_11 : decode prog_11_method_46_code 11 = .ok (.lreturn, 1) := by decide +kernel
theorem d_Mo_spreadAll_12 : decode prog_11_method_46_code 12 = .ok (.aload_n 0, 1) := by decide +kernel
theorem d_Mo_spreadAll_13 : decode prog_11_method_46_code 13 = .ok (.iload_n 1, 1) := by decide +kernel
theorem d_Mo_spreadAll_14 : decode prog_11_method_46_code 14 = .ok (.iload_n 2, 1) := by decide +kernel
theorem d_Mo_spreadAll_15 : decode prog_11_method_46_code 15 = .ok (.invokevirtual 227, 3) := by decide +kernel
theorem d_Mo_spreadAll_18 : decode prog_11_method_46_code 18 = .ok (.iload_n 3, 1) := by decide +kernel
theorem d_Mo_spreadAll_19 : decode prog_11_method_46_code 19 = .ok (.i2l, 1) := by decide +kernel
theorem d_Mo_spreadAll_20 : decode prog_11_method_46_code 20 = .ok (.ldc2_w 160, 3) := by decide +kernel
theorem d_Mo_spreadAll_23 : decode prog_11_method_46_code 23 = .ok (.ldc2_w 162, 3) := by decide +kernel
theorem d_Mo_spreadAll_26 : decode prog_11_method_46_code 26 = .ok (.invokestatic 107, 3) := by decide +kernel
theorem d_Mo_spreadAll_29 : decode prog_11_method_46_code 29 = .ok (.ifCond .eq 25, 3) := by decide +kernel
theorem d_Mo_spreadAll_32 : decode prog_11_method_46_code 32 = .ok (.aload_n 0, 1) := by decide +kernel
theorem d_Mo_spreadAll_33 : decode prog_11_method_46_code 33 = .ok (.getfield 64, 3) := by decide +kernel
theorem d_Mo_spreadAll_36 : decode prog_11_method_46_code 36 = .ok (.bipush 37, 2) := by decide +kernel
theorem d_Mo_spreadAll_38 : decode prog_11_method_46_code 38 = .ok (.bipush 7, 2) := by decide +kernel
theorem d_Mo_spreadAll_40 : decode prog_11_method_46_code 40 = .ok (.iload_n 1, 1) := by decide +kernel
theorem d_Mo_spreadAll_41 : decode prog_11_method_46_code 41 = .ok (.imul, 1) := by decide +kernel
theorem d_Mo_spreadAll_42 : decode prog_11_method_46_code 42 = .ok (.iload_n 2, 1) := by decide +kernel
theorem d_Mo_spreadAll_43 : decode prog_11_method_46_code 43 = .ok (.iadd, 1) := by decide +kernel
theorem d_Mo_spreadAll_44 : decode prog_11_method_46_code 44 = .ok (.imul, 1) := by decide +kernel
theorem d_Mo_spreadAll_45 : decode prog_11_method_46_code 45 = .ok (.bipush 18, 2) := by decide +kernel
theorem d_Mo_spreadAll_47 : decode prog_11_method_46_code 47 = .ok (.iadd, 1) := by decide +kernel
theorem d_Mo_spreadAll_48 : decode prog_11_method_46_code 48 = .ok (.iload_n 3, 1) := by decide +kernel
theorem d_Mo_spreadAll_49 : decode prog_11_method_46_code 49 = .ok (.iadd, 1) := by decide +kernel
theorem d_Mo_spreadAll_50 : decode prog_11_method_46_code 50 = .ok (.laload, 1) := by decide +kernel
theorem d_Mo_spreadAll_51 : decode prog_11_method_46_code 51 = .ok (.goto 4, 3) := by decide +kernel
theorem d_Mo_spreadAll_54 : decode prog_11_method_46_code 54 = .ok (.lconst 0, 1) := by decide +kernel
theorem d_Mo_spreadAll_55 : decode prog_11_method_46_code 55 = .ok (.lreturn, 1) := by decide +kernel
theorem d_Mo_listed_0 : decode prog_11_method_47_code 0 = .ok (.iload_n 1, 1) := by decide +kernel
theorem d_Mo_listed_1 : decode prog_11_method_47_code 1 = .ok (.iload_n 2, 1) := by decide +kernel
theorem d_Mo_listed_2 : decode prog_11_method_47_code 2 = .ok (.invokestatic 223, 3) := by decide +kernel
theorem d_Mo_listed_5 : decode prog_11_method_47_code 5 = .ok (.ifCond .ne 5, 3) := by decide +kernel
theorem d_Mo_listed_8 : decode prog_11_method_47_code 8 = .ok (.iconst (-1), 1) := by decide +kernel
theorem d_Mo_listed_9 : decode prog_11_method_47_code 9 = .ok (.ireturn, 1) := by decide +kernel
theorem d_Mo_listed_10 : decode prog_11_method_47_code 10 = .ok (.aload_n 0, 1) := by decide +kernel
theorem d_Mo_listed_11 : decode prog_11_method_47_code 11 = .ok (.iload_n 1, 1) := by decide +kernel
theorem d_Mo_listed_12 : decode prog_11_method_47_code 12 = .ok (.iload_n 2, 1) := by decide +kernel
theorem d_Mo_listed_13 : decode prog_11_method_47_code 13 = .ok (.invokevirtual 227, 3) := by decide +kernel
theorem d_Mo_listed_16 : decode prog_11_method_47_code 16 = .ok (.aload_n 0, 1) := by decide +kernel
theorem d_Mo_listed_17 : decode prog_11_method_47_code 17 = .ok (.getfield 61, 3) := by decide +kernel
theorem d_Mo_listed_20 : decode prog_11_method_47_code 20 = .ok (.bipush 7, 2) := by decide +kernel
theorem d_Mo_listed_22 : decode prog_11_method_47_code 22 = .ok (.iload_n 1, 1) := by decide +kernel
theorem d_Mo_listed_23 : decode prog_11_method_47_code 23 = .ok (.imul, 1) := by decide +kernel
theorem d_Mo_listed_24 : decode prog_11_method_47_code 24 = .ok (.iload_n 2, 1) := by decide +kernel
theorem d_Mo_listed_25 : decode prog_11_method_47_code 25 = .ok (.iadd, 1) := by decide +kernel
theorem d_Mo_listed_26 : decode prog_11_method_47_code 26 = .ok (.iaload, 1) := by decide +kernel
theorem d_Mo_listed_27 : decode prog_11_method_47_code 27 = .ok (.ireturn, 1) := by decide +kernel
theorem d_Mo_take_0 : decode prog_11_method_48_code 0 = .ok (.iload_n 1, 1) := by decide +kernel
theorem d_Mo_take_1 : decode prog_11_method_48_code 1 = .ok (.iload_n 2, 1) := by decide +kernel
theorem d_Mo_take_2 : decode prog_11_method_48_code 2 = .ok (.invokestatic 223, 3) := by decide +kernel
theorem d_Mo_take_5 : decode prog_11_method_48_code 5 = .ok (.ifCond .eq 7, 3) := by decide +kernel
theorem d_Mo_take_8 : decode prog_11_method_48_code 8 = .ok (.iload_n 3, 1) := by decide +kernel
theorem d_Mo_take_9 : decode prog_11_method_48_code 9 = .ok (.ifCond .ge 5, 3) := by decide +kernel
theorem d_Mo_take_12 : decode prog_11_method_48_code 12 = .ok (.iconst (-1), 1) := by decide +kernel
theorem d_Mo_take_13 : decode prog_11_method_48_code 13 = .ok (.ireturn, 1) := by decide +kernel
theorem d_Mo_take_14 : decode prog_11_method_48_code 14 = .ok (.aload_n 0, 1) := by decide +kernel
theorem d_Mo_take_15 : decode prog_11_method_48_code 15 = .ok (.iload_n 1, 1) := by decide +kernel
theorem d_Mo_take_16 : decode prog_11_method_48_code 16 = .ok (.iload_n 2, 1) := by decide +kernel
theorem d_Mo_take_17 : decode prog_11_method_48_code 17 = .ok (.invokevirtual 227, 3) := by decide +kernel
theorem d_Mo_take_20 : decode prog_11_method_48_code 20 = .ok (.iload_n 3, 1) := by decide +kernel
theorem d_Mo_take_21 : decode prog_11_method_48_code 21 = .ok (.aload_n 0, 1) := by decide +kernel
theorem d_Mo_take_22 : decode prog_11_method_48_code 22 = .ok (.getfield 61, 3) := by decide +kernel
theorem d_Mo_take_25 : decode prog_11_method_48_code 25 = .ok (.bipush 7, 2) := by decide +kernel
theorem d_Mo_take_27 : decode prog_11_method_48_code 27 = .ok (.iload_n 1, 1) := by decide +kernel
theorem d_Mo_take_28 : decode prog_11_method_48_code 28 = .ok (.imul, 1) := by decide +kernel
theorem d_Mo_take_29 : decode prog_11_method_48_code 29 = .ok (.iload_n 2, 1) := by decide +kernel
theorem d_Mo_take_30 : decode prog_11_method_48_code 30 = .ok (.iadd, 1) := by decide +kernel
theorem d_Mo_take_31 : decode prog_11_method_48_code 31 = .ok (.iaload, 1) := by decide +kernel
theorem d_Mo_take_32 : decode prog_11_method_48_code 32 = .ok (.if_icmp .lt 6, 3) := by decide +kernel
theorem d_Mo_take_35 : decode prog_11_method_48_code 35 = .ok (.bipush (-4), 2) := by decide +kernel
theorem d_Mo_take_37 : decode prog_11_method_48_code 37 = .ok (.ireturn, 1) := by decide +kernel
theorem d_Mo_take_38 : decode prog_11_method_48_code 38 = .ok (.aload_n 0, 1) := by decide +kernel
theorem d_Mo_take_39 : decode prog_11_method_48_code 39 = .ok (.getfield 103, 3) := by decide +kernel
theorem d_Mo_take_42 : decode prog_11_method_48_code 42 = .ok (.bipush 8, 2) := by decide +kernel
theorem d_Mo_take_44 : decode prog_11_method_48_code 44 = .ok (.if_icmp .ne 6, 3) := by decide +kernel
theorem d_Mo_take_47 : decode prog_11_method_48_code 47 = .ok (.bipush (-3), 2) := by decide +kernel
theorem d_Mo_take_49 : decode prog_11_method_48_code 49 = .ok (.ireturn, 1) := by decide +kernel
theorem d_Mo_take_50 : decode prog_11_method_48_code 50 = .ok (.aload_n 0, 1) := by decide +kernel
theorem d_Mo_take_51 : decode prog_11_method_48_code 51 = .ok (.invokevirtual 209, 3) := by decide +kernel
theorem d_Mo_take_54 : decode prog_11_method_48_code 54 = .ok (.iload_n 3, 1) := by decide +kernel
theorem d_Mo_take_55 : decode prog_11_method_48_code 55 = .ok (.istore 4, 2) := by decide +kernel
theorem d_Mo_take_57 : decode prog_11_method_48_code 57 = .ok (.aload_n 0, 1) := by decide +kernel
theorem d_Mo_take_58 : decode prog_11_method_48_code 58 = .ok (.invokevirtual 212, 3) := by decide +kernel
theorem d_Mo_take_61 : decode prog_11_method_48_code 61 = .ok (.iload_n 1, 1) := by decide +kernel
theorem d_Mo_take_62 : decode prog_11_method_48_code 62 = .ok (.iload_n 1, 1) := by decide +kernel
theorem d_Mo_take_63 : decode prog_11_method_48_code 63 = .ok (.iconst 1, 1) := by decide +kernel
theorem d_Mo_take_64 : decode prog_11_method_48_code 64 = .ok (.isub, 1) := by decide +kernel
theorem d_Mo_take_65 : decode prog_11_method_48_code 65 = .ok (.imul, 1) := by decide +kernel
theorem d_Mo_take_66 : decode prog_11_method_48_code 66 = .ok (.iconst 2, 1) := by decide +kernel
theorem d_Mo_take_67 : decode prog_11_method_48_code 67 = .ok (.idiv, 1) := by decide +kernel
theorem d_Mo_take_68 : decode prog_11_method_48_code 68 = .ok (.iload_n 2, 1) := by decide +kernel
theorem d_Mo_take_69 : decode prog_11_method_48_code 69 = .ok (.isub, 1) := by decide +kernel
theorem d_Mo_take_70 : decode prog_11_method_48_code 70 = .ok (.if_icmp .ne 7, 3) := by decide +kernel
theorem d_Mo_take_73 : decode prog_11_method_48_code 73 = .ok (.iconst 1, 1) := by decide +kernel
theorem d_Mo_take_74 : decode prog_11_method_48_code 74 = .ok (.goto 4, 3) := by decide +kernel
theorem d_Mo_take_77 : decode prog_11_method_48_code 77 = .ok (.iconst 0, 1) := by decide +kernel
theorem d_Mo_take_78 : decode prog_11_method_48_code 78 = .ok (.istore 5, 2) := by decide +kernel
theorem d_Mo_take_80 : decode prog_11_method_48_code 80 = .ok (.iload 5, 2) := by decide +kernel
theorem d_Mo_take_82 : decode prog_11_method_48_code 82 = .ok (.ifCond .eq 8, 3) := by decide +kernel
theorem d_Mo_take_85 : decode prog_11_method_48_code 85 = .ok (.iload 4, 2) := by decide +kernel
theorem d_Mo_take_87 : decode prog_11_method_48_code 87 = .ok (.ifCond .le 51, 3) := by decide +kernel
theorem d_Mo_take_90 : decode prog_11_method_48_code 90 = .ok (.iload 4, 2) := by decide +kernel
theorem d_Mo_take_92 : decode prog_11_method_48_code 92 = .ok (.iload 5, 2) := by decide +kernel
theorem d_Mo_take_94 : decode prog_11_method_48_code 94 = .ok (.ifCond .eq 7, 3) := by decide +kernel
theorem d_Mo_take_97 : decode prog_11_method_48_code 97 = .ok (.iconst 1, 1) := by decide +kernel
theorem d_Mo_take_98 : decode prog_11_method_48_code 98 = .ok (.goto 4, 3) := by decide +kernel
theorem d_Mo_take_101 : decode prog_11_method_48_code 101 = .ok (.iconst 0, 1) := by decide +kernel
theorem d_Mo_take_102 : decode prog_11_method_48_code 102 = .ok (.isub, 1) := by decide +kernel
theorem d_Mo_take_103 : decode prog_11_method_48_code 103 = .ok (.istore 4, 2) := by decide +kernel
theorem d_Mo_take_105 : decode prog_11_method_48_code 105 = .ok (.aload_n 0, 1) := by decide +kernel
theorem d_Mo_take_106 : decode prog_11_method_48_code 106 = .ok (.iload_n 1, 1) := by decide +kernel
theorem d_Mo_take_107 : decode prog_11_method_48_code 107 = .ok (.invokevirtual 220, 3) := by decide +kernel
theorem d_Mo_take_110 : decode prog_11_method_48_code 110 = .ok (.istore 6, 2) := by decide +kernel
theorem d_Mo_take_112 : decode prog_11_method_48_code 112 = .ok (.aload_n 0, 1) := by decide +kernel
theorem d_Mo_take_113 : decode prog_11_method_48_code 113 = .ok (.invokevirtual 212, 3) := by decide +kernel
theorem d_Mo_take_116 : decode prog_11_method_48_code 116 = .ok (.iload_n 1, 1) := by decide +kernel
theorem d_Mo_take_117 : decode prog_11_method_48_code 117 = .ok (.iload_n 1, 1) := by decide +kernel
theorem d_Mo_take_118 : decode prog_11_method_48_code 118 = .ok (.iconst 1, 1) := by decide +kernel
theorem d_Mo_take_119 : decode prog_11_method_48_code 119 = .ok (.isub, 1) := by decide +kernel
theorem d_Mo_take_120 : decode prog_11_method_48_code 120 = .ok (.imul, 1) := by decide +kernel
theorem d_Mo_take_121 : decode prog_11_method_48_code 121 = .ok (.iconst 2, 1) := by decide +kernel
theorem d_Mo_take_122 : decode prog_11_method_48_code 122 = .ok (.idiv, 1) := by decide +kernel
theorem d_Mo_take_123 : decode prog_11_method_48_code 123 = .ok (.iload_n 2, 1) := by decide +kernel
theorem d_Mo_take_124 : decode prog_11_method_48_code 124 = .ok (.isub, 1) := by decide +kernel
theorem d_Mo_take_125 : decode prog_11_method_48_code 125 = .ok (.if_icmp .ne 7, 3) := by decide +kernel
theorem d_Mo_take_128 : decode prog_11_method_48_code 128 = .ok (.iconst 1, 1) := by decide +kernel
theorem d_Mo_take_129 : decode prog_11_method_48_code 129 = .ok (.goto 4, 3) := by decide +kernel
theorem d_Mo_take_132 : decode prog_11_method_48_code 132 = .ok (.iconst 0, 1) := by decide +kernel
theorem d_Mo_take_133 : decode prog_11_method_48_code 133 = .ok (.istore 5, 2) := by decide +kernel
theorem d_Mo_take_135 : decode prog_11_method_48_code 135 = .ok (.goto (-55), 3) := by decide +kernel
theorem d_Mo_take_138 : decode prog_11_method_48_code 138 = .ok (.aload_n 0, 1) := by decide +kernel
theorem d_Mo_take_139 : decode prog_11_method_48_code 139 = .ok (.iload_n 1, 1) := by decide +kernel
theorem d_Mo_take_140 : decode prog_11_method_48_code 140 = .ok (.aload_n 0, 1) := by decide +kernel
theorem d_Mo_take_141 : decode prog_11_method_48_code 141 = .ok (.getfield 103, 3) := by decide +kernel
theorem d_Mo_take_144 : decode prog_11_method_48_code 144 = .ok (.invokevirtual 216, 3) := by decide +kernel
theorem d_Mo_take_147 : decode prog_11_method_48_code 147 = .ok (.aload_n 0, 1) := by decide +kernel
theorem d_Mo_take_148 : decode prog_11_method_48_code 148 = .ok (.dup, 1) := by decide +kernel
theorem d_Mo_take_149 : decode prog_11_method_48_code 149 = .ok (.getfield 103, 3) := by decide +kernel
theorem d_Mo_take_152 : decode prog_11_method_48_code 152 = .ok (.iconst 1, 1) := by decide +kernel
theorem d_Mo_take_153 : decode prog_11_method_48_code 153 = .ok (.iadd, 1) := by decide +kernel
theorem d_Mo_take_154 : decode prog_11_method_48_code 154 = .ok (.putfield 103, 3) := by decide +kernel
theorem d_Mo_take_157 : decode prog_11_method_48_code 157 = .ok (.aload_n 0, 1) := by decide +kernel
theorem d_Mo_take_158 : decode prog_11_method_48_code 158 = .ok (.getfield 103, 3) := by decide +kernel
theorem d_Mo_take_161 : decode prog_11_method_48_code 161 = .ok (.iconst 1, 1) := by decide +kernel
theorem d_Mo_take_162 : decode prog_11_method_48_code 162 = .ok (.isub, 1) := by decide +kernel
theorem d_Mo_take_163 : decode prog_11_method_48_code 163 = .ok (.ireturn, 1) := by decide +kernel
theorem d_Mo_place_0 : decode prog_11_method_49_code 0 = .ok (.aload_n 0, 1) := by decide +kernel
theorem d_Mo_place_1 : decode prog_11_method_49_code 1 = .ok (.iload_n 1, 1) := by decide +kernel
theorem d_Mo_place_2 : decode prog_11_method_49_code 2 = .ok (.invokevirtual 117, 3) := by decide +kernel
theorem d_Mo_place_5 : decode prog_11_method_49_code 5 = .ok (.ifCond .ne 5, 3) := by decide +kernel
theorem d_Mo_place_8 : decode prog_11_method_49_code 8 = .ok (.iconst (-1), 1) := by decide +kernel
theorem d_Mo_place_9 : decode prog_11_method_49_code 9 = .ok (.ireturn, 1) := by decide +kernel
theorem d_Mo_place_10 : decode prog_11_method_49_code 10 = .ok (.aload_n 0, 1) := by decide +kernel
theorem d_Mo_place_11 : decode prog_11_method_49_code 11 = .ok (.iload_n 1, 1) := by decide +kernel
theorem d_Mo_place_12 : decode prog_11_method_49_code 12 = .ok (.invokevirtual 134, 3) := by decide +kernel
theorem d_Mo_place_15 : decode prog_11_method_49_code 15 = .ok (.ifCond .ne 6, 3) := by decide +kernel
theorem d_Mo_place_18 : decode prog_11_method_49_code 18 = .ok (.bipush (-2), 2) := by decide +kernel
theorem d_Mo_place_20 : decode prog_11_method_49_code 20 = .ok (.ireturn, 1) := by decide +kernel
theorem d_Mo_place_21 : decode prog_11_method_49_code 21 = .ok (.aload_n 0, 1) := by decide +kernel
theorem d_Mo_place_22 : decode prog_11_method_49_code 22 = .ok (.invokevirtual 209, 3) := by decide +kernel
theorem d_Mo_place_25 : decode prog_11_method_49_code 25 = .ok (.iconst 0, 1) := by decide +kernel
theorem d_Mo_place_26 : decode prog_11_method_49_code 26 = .ok (.istore_n 2, 1) := by decide +kernel
theorem d_Mo_place_27 : decode prog_11_method_49_code 27 = .ok (.iconst 1, 1) := by decide +kernel
theorem d_Mo_place_28 : decode prog_11_method_49_code 28 = .ok (.istore_n 3, 1) := by decide +kernel
theorem d_Mo_place_29 : decode prog_11_method_49_code 29 = .ok (.iload_n 3, 1) := by decide +kernel
theorem d_Mo_place_30 : decode prog_11_method_49_code 30 = .ok (.ifCond .eq 99, 3) := by decide +kernel
theorem d_Mo_place_33 : decode prog_11_method_49_code 33 = .ok (.aload_n 0, 1) := by decide +kernel
theorem d_Mo_place_34 : decode prog_11_method_49_code 34 = .ok (.invokevirtual 212, 3) := by decide +kernel
theorem d_Mo_place_37 : decode prog_11_method_49_code 37 = .ok (.aload_n 0, 1) := by decide +kernel
theorem d_Mo_place_38 : decode prog_11_method_49_code 38 = .ok (.getfield 13, 3) := by decide +kernel
theorem d_Mo_place_41 : decode prog_11_method_49_code 41 = .ok (.iload_n 1, 1) := by decide +kernel
theorem d_Mo_place_42 : decode prog_11_method_49_code 42 = .ok (.iaload, 1) := by decide +kernel
theorem d_Mo_place_43 : decode prog_11_method_49_code 43 = .ok (.if_icmp .ne 72, 3) := by decide +kernel
theorem d_Mo_place_46 : decode prog_11_method_49_code 46 = .ok (.aload_n 0, 1) := by decide +kernel
theorem d_Mo_place_47 : decode prog_11_method_49_code 47 = .ok (.aload_n 0, 1) := by decide +kernel
theorem d_Mo_place_48 : decode prog_11_method_49_code 48 = .ok (.getfield 7, 3) := by decide +kernel
theorem d_Mo_place_51 : decode prog_11_method_49_code 51 = .ok (.iload_n 1, 1) := by decide +kernel
theorem d_Mo_place_52 : decode prog_11_method_49_code 52 = .ok (.iaload, 1) := by decide +kernel
theorem d_Mo_place_53 : decode prog_11_method_49_code 53 = .ok (.bipush 8, 2) := by decide +kernel
theorem d_Mo_place_55 : decode prog_11_method_49_code 55 = .ok (.invokevirtual 216, 3) := by decide +kernel
theorem d_Mo_place_58 : decode prog_11_method_49_code 58 = .ok (.iconst 1, 1) := by decide +kernel
theorem d_Mo_place_59 : decode prog_11_method_49_code 59 = .ok (.istore 4, 2) := by decide +kernel
theorem d_Mo_place_61 : decode prog_11_method_49_code 61 = .ok (.iconst 0, 1) := by decide +kernel
theorem d_Mo_place_62 : decode prog_11_method_49_code 62 = .ok (.istore 5, 2) := by decide +kernel
theorem d_Mo_place_64 : decode prog_11_method_49_code 64 = .ok (.iload 5, 2) := by decide +kernel
theorem d_Mo_place_66 : decode prog_11_method_49_code 66 = .ok (.aload_n 0, 1) := by decide +kernel
theorem d_Mo_place_67 : decode prog_11_method_49_code 67 = .ok (.getfield 7, 3) := by decide +kernel
theorem d_Mo_place_70 : decode prog_11_method_49_code 70 = .ok (.iload_n 1, 1) := by decide +kernel
theorem d_Mo_place_71 : decode prog_11_method_49_code 71 = .ok (.iaload, 1) := by decide +kernel
theorem d_Mo_place_72 : decode prog_11_method_49_code 72 = .ok (.if_icmp .ge 33, 3) := by decide +kernel
theorem d_Mo_place_75 : decode prog_11_method_49_code 75 = .ok (.iload 4, 2) := by decide +kernel
theorem d_Mo_place_77 : decode prog_11_method_49_code 77 = .ok (.ifCond .eq 19, 3) := by decide +kernel
theorem d_Mo_place_80 : decode prog_11_method_49_code 80 = .ok (.aload_n 0, 1) := by decide +kernel
theorem d_Mo_place_81 : decode prog_11_method_49_code 81 = .ok (.iload_n 1, 1) := by decide +kernel
theorem d_Mo_place_82 : decode prog_11_method_49_code 82 = .ok (.bipush 8, 2) := by decide +kernel
theorem d_Mo_place_84 : decode prog_11_method_49_code 84 = .ok (.iload 5, 2) := by decide +kernel
theorem d_Mo_place_86 : decode prog_11_method_49_code 86 = .ok (.invokevirtual 190, 3) := by decide +kernel
theorem d_Mo_place_89 : decode prog_11_method_49_code 89 = .ok (.ifCond .ne 7, 3) := by decide +kernel
theorem d_Mo_place_92 : decode prog_11_method_49_code 92 = .ok (.iconst 1, 1) := by decide +kernel
theorem d_Mo_place_93 : decode prog_11_method_49_code 93 = .ok (.goto 4, 3) := by decide +kernel
theorem d_Mo_place_96 : decode prog_11_method_49_code 96 = .ok (.iconst 0, 1) := by decide +kernel
theorem d_Mo_place_97 : decode prog_11_method_49_code 97 = .ok (.istore 4, 2) := by decide +kernel
theorem d_Mo_place_99 : decode prog_11_method_49_code 99 = .ok (.iinc 5 1, 3) := by decide +kernel
theorem d_Mo_place_102 : decode prog_11_method_49_code 102 = .ok (.goto (-38), 3) := by decide +kernel
theorem d_Mo_place_105 : decode prog_11_method_49_code 105 = .ok (.iload 4, 2) := by decide +kernel
theorem d_Mo_place_107 : decode prog_11_method_49_code 107 = .ok (.ifCond .eq 5, 3) := by decide +kernel
theorem d_Mo_place_110 : decode prog_11_method_49_code 110 = .ok (.iload_n 2, 1) := by decide +kernel
theorem d_Mo_place_111 : decode prog_11_method_49_code 111 = .ok (.ireturn, 1) := by decide +kernel
theorem d_Mo_place_112 : decode prog_11_method_49_code 112 = .ok (.iinc 2 1, 3) := by decide +kernel
theorem d_Mo_place_115 : decode prog_11_method_49_code 115 = .ok (.aload_n 0, 1) := by decide +kernel
theorem d_Mo_place_116 : decode prog_11_method_49_code 116 = .ok (.aload_n 0, 1) := by decide +kernel
theorem d_Mo_place_117 : decode prog_11_method_49_code 117 = .ok (.getfield 7, 3) := by decide +kernel
theorem d_Mo_place_120 : decode prog_11_method_49_code 120 = .ok (.iload_n 1, 1) := by decide +kernel
theorem d_Mo_place_121 : decode prog_11_method_49_code 121 = .ok (.iaload, 1) := by decide +kernel
theorem d_Mo_place_122 : decode prog_11_method_49_code 122 = .ok (.invokevirtual 220, 3) := by decide +kernel
theorem d_Mo_place_125 : decode prog_11_method_49_code 125 = .ok (.istore_n 3, 1) := by decide +kernel
theorem d_Mo_place_126 : decode prog_11_method_49_code 126 = .ok (.goto (-97), 3) := by decide +kernel
theorem d_Mo_place_129 : decode prog_11_method_49_code 129 = .ok (.bipush (-4), 2) := by decide +kernel
theorem d_Mo_place_131 : decode prog_11_method_49_code 131 = .ok (.ireturn, 1) := by decide +kernel
theorem d_Mo_feed_0 : decode prog_11_method_50_code 0 = .ok (.aload_n 0, 1) := by decide +kernel
theorem d_Mo_feed_1 : decode prog_11_method_50_code 1 = .ok (.getfield 230, 3) := by decide +kernel
theorem d_Mo_feed_4 : decode prog_11_method_50_code 4 = .ok (.bipush 8, 2) := by decide +kernel
theorem d_Mo_feed_6 : decode prog_11_method_50_code 6 = .ok (.iadd, 1) := by decide +kernel
theorem d_Mo_feed_7 : decode prog_11_method_50_code 7 = .ok (.bipush 80, 2) := by decide +kernel
theorem d_Mo_feed_9 : decode prog_11_method_50_code 9 = .ok (.if_icmp .le 6, 3) := by decide +kernel
theorem d_Mo_feed_12 : decode prog_11_method_50_code 12 = .ok (.bipush (-3), 2) := by decide +kernel
theorem d_Mo_feed_14 : decode prog_11_method_50_code 14 = .ok (.ireturn, 1) := by decide +kernel
theorem d_Mo_feed_15 : decode prog_11_method_50_code 15 = .ok (.bipush 56, 2) := by decide +kernel
theorem d_Mo_feed_17 : decode prog_11_method_50_code 17 = .ok (.istore_n 3, 1) := by decide +kernel
theorem d_Mo_feed_18 : decode prog_11_method_50_code 18 = .ok (.iload_n 3, 1) := by decide +kernel
theorem d_Mo_feed_19 : decode prog_11_method_50_code 19 = .ok (.ifCond .lt 36, 3) := by decide +kernel
theorem d_Mo_feed_22 : decode prog_11_method_50_code 22 = .ok (.aload_n 0, 1) := by decide +kernel
theorem d_Mo_feed_23 : decode prog_11_method_50_code 23 = .ok (.getfield 67, 3) := by decide +kernel
theorem d_Mo_feed_26 : decode prog_11_method_50_code 26 = .ok (.aload_n 0, 1) := by decide +kernel
theorem d_Mo_feed_27 : decode prog_11_method_50_code 27 = .ok (.getfield 230, 3) := by decide +kernel
theorem d_Mo_feed_30 : decode prog_11_method_50_code 30 = .ok (.lload_n 1, 1) := by decide +kernel
theorem d_Mo_feed_31 : decode prog_11_method_50_code 31 = .ok (.iload_n 3, 1) := by decide +kernel
theorem d_Mo_feed_32 : decode prog_11_method_50_code 32 = .ok (.lshr, 1) := by decide +kernel
theorem d_Mo_feed_33 : decode prog_11_method_50_code 33 = .ok (.l2i, 1) := by decide +kernel
theorem d_Mo_feed_34 : decode prog_11_method_50_code 34 = .ok (.sipush 255, 3) := by decide +kernel
theorem d_Mo_feed_37 : decode prog_11_method_50_code 37 = .ok (.iand, 1) := by decide +kernel
theorem d_Mo_feed_38 : decode prog_11_method_50_code 38 = .ok (.iastore, 1) := by decide +kernel
theorem d_Mo_feed_39 : decode prog_11_method_50_code 39 = .ok (.aload_n 0, 1) := by decide +kernel
theorem d_Mo_feed_40 : decode prog_11_method_50_code 40 = .ok (.dup, 1) := by decide +kernel
theorem d_Mo_feed_41 : decode prog_11_method_50_code 41 = .ok (.getfield 230, 3) := by decide +kernel
theorem d_Mo_feed_44 : decode prog_11_method_50_code 44 = .ok (.iconst 1, 1) := by decide +kernel
theorem d_Mo_feed_45 : decode prog_11_method_50_code 45 = .ok (.iadd, 1) := by decide +kernel
theorem d_Mo_feed_46 : decode prog_11_method_50_code 46 = .ok (.putfield 230, 3) := by decide +kernel
theorem d_Mo_feed_49 : decode prog_11_method_50_code 49 = .ok (.iinc 3 (-8), 3) := by decide +kernel
theorem d_Mo_feed_52 : decode prog_11_method_50_code 52 = .ok (.goto (-34), 3) := by decide +kernel
theorem d_Mo_feed_55 : decode prog_11_method_50_code 55 = .ok (.aload_n 0, 1) := by decide +kernel
theorem d_Mo_feed_56 : decode prog_11_method_50_code 56 = .ok (.getfield 230, 3) := by decide +kernel
theorem d_Mo_feed_59 : decode prog_11_method_50_code 59 = .ok (.ireturn, 1) := by decide +kernel
theorem d_Mo_end_0 : decode prog_11_method_51_code 0 = .ok (.iload_n 1, 1) := by decide +kernel
theorem d_Mo_end_1 : decode prog_11_method_51_code 1 = .ok (.i2l, 1) := by decide +kernel
theorem d_Mo_end_2 : decode prog_11_method_51_code 2 = .ok (.lconst 0, 1) := by decide +kernel
theorem d_Mo_end_3 : decode prog_11_method_51_code 3 = .ok (.aload_n 0, 1) := by decide +kernel
theorem d_Mo_end_4 : decode prog_11_method_51_code 4 = .ok (.getfield 230, 3) := by decide +kernel
theorem d_Mo_end_7 : decode prog_11_method_51_code 7 = .ok (.i2l, 1) := by decide +kernel
theorem d_Mo_end_8 : decode prog_11_method_51_code 8 = .ok (.invokestatic 107, 3) := by decide +kernel
theorem d_Mo_end_11 : decode prog_11_method_51_code 11 = .ok (.ifCond .ne 5, 3) := by decide +kernel
theorem d_Mo_end_14 : decode prog_11_method_51_code 14 = .ok (.iconst (-1), 1) := by decide +kernel
theorem d_Mo_end_15 : decode prog_11_method_51_code 15 = .ok (.ireturn, 1) := by decide +kernel
theorem d_Mo_end_16 : decode prog_11_method_51_code 16 = .ok (.aload_n 0, 1) := by decide +kernel
theorem d_Mo_end_17 : decode prog_11_method_51_code 17 = .ok (.getfield 230, 3) := by decide +kernel
theorem d_Mo_end_20 : decode prog_11_method_51_code 20 = .ok (.istore_n 2, 1) := by decide +kernel
theorem d_Mo_end_21 : decode prog_11_method_51_code 21 = .ok (.aload_n 0, 1) := by decide +kernel
theorem d_Mo_end_22 : decode prog_11_method_51_code 22 = .ok (.iload_n 1, 1) := by decide +kernel
theorem d_Mo_end_23 : decode prog_11_method_51_code 23 = .ok (.putfield 230, 3) := by decide +kernel
theorem d_Mo_end_26 : decode prog_11_method_51_code 26 = .ok (.iload_n 2, 1) := by decide +kernel
theorem d_Mo_end_27 : decode prog_11_method_51_code 27 = .ok (.ireturn, 1) := by decide +kernel
theorem d_Mo_next_0 : decode prog_11_method_52_code 0 = .ok (.aload_n 0, 1) := by decide +kernel
theorem d_Mo_next_1 : decode prog_11_method_52_code 1 = .ok (.getfield 233, 3) := by decide +kernel
theorem d_Mo_next_4 : decode prog_11_method_52_code 4 = .ok (.aload_n 0, 1) := by decide +kernel
theorem d_Mo_next_5 : decode prog_11_method_52_code 5 = .ok (.getfield 230, 3) := by decide +kernel
theorem d_Mo_next_8 : decode prog_11_method_52_code 8 = .ok (.if_icmp .ge 30, 3) := by decide +kernel
theorem d_Mo_next_11 : decode prog_11_method_52_code 11 = .ok (.aload_n 0, 1) := by decide +kernel
theorem d_Mo_next_12 : decode prog_11_method_52_code 12 = .ok (.getfield 67, 3) := by decide +kernel
theorem d_Mo_next_15 : decode prog_11_method_52_code 15 = .ok (.aload_n 0, 1) := by decide +kernel
theorem d_Mo_next_16 : decode prog_11_method_52_code 16 = .ok (.getfield 233, 3) := by decide +kernel
theorem d_Mo_next_19 : decode prog_11_method_52_code 19 = .ok (.iaload, 1) := by decide +kernel
theorem d_Mo_next_20 : decode prog_11_method_52_code 20 = .ok (.bipush 32, 2) := by decide +kernel
theorem d_Mo_next_22 : decode prog_11_method_52_code 22 = .ok (.if_icmp .ne 16, 3) := by decide +kernel
theorem d_Mo_next_25 : decode prog_11_method_52_code 25 = .ok (.aload_n 0, 1) := by decide +kernel
theorem d_Mo_next_26 : decode prog_11_method_52_code 26 = .ok (.dup, 1) := by decide +kernel
theorem d_Mo_next_27 : decode prog_11_method_52_code 27 = .ok (.getfield 233, 3) := by decide +kernel
theorem d_Mo_next_30 : decode prog_11_method_52_code 30 = .ok (.iconst 1, 1) := by decide +kernel
theorem d_Mo_next_31 : decode prog_11_method_52_code 31 = .ok (.iadd, 1) := by decide +kernel
theorem d_Mo_next_32 : decode prog_11_method_52_code 32 = .ok (.putfield 233, 3) := by decide +kernel
theorem d_Mo_next_35 : decode prog_11_method_52_code 35 = .ok (.goto (-35), 3) := by decide +kernel
theorem d_Mo_next_38 : decode prog_11_method_52_code 38 = .ok (.aload_n 0, 1) := by decide +kernel
theorem d_Mo_next_39 : decode prog_11_method_52_code 39 = .ok (.getfield 233, 3) := by decide +kernel
theorem d_Mo_next_42 : decode prog_11_method_52_code 42 = .ok (.aload_n 0, 1) := by decide +kernel
theorem d_Mo_next_43 : decode prog_11_method_52_code 43 = .ok (.getfield 230, 3) := by decide +kernel
theorem d_Mo_next_46 : decode prog_11_method_52_code 46 = .ok (.if_icmp .ge 15, 3) := by decide +kernel
theorem d_Mo_next_49 : decode prog_11_method_52_code 49 = .ok (.aload_n 0, 1) := by decide +kernel
theorem d_Mo_next_50 : decode prog_11_method_52_code 50 = .ok (.getfield 67, 3) := by decide +kernel
theorem d_Mo_next_53 : decode prog_11_method_52_code 53 = .ok (.aload_n 0, 1) := by decide +kernel
theorem d_Mo_next_54 : decode prog_11_method_52_code 54 = .ok (.getfield 233, 3) := by decide +kernel
theorem d_Mo_next_57 : decode prog_11_method_52_code 57 = .ok (.iaload, 1) := by decide +kernel
theorem d_Mo_next_58 : decode prog_11_method_52_code 58 = .ok (.goto 5, 3) := by decide +kernel
theorem d_Mo_next_61 : decode prog_11_method_52_code 61 = .ok (.bipush (-4), 2) := by decide +kernel
theorem d_Mo_next_63 : decode prog_11_method_52_code 63 = .ok (.ireturn, 1) := by decide +kernel
theorem d_Mo_isLetter_0 : decode prog_11_method_53_code 0 = .ok (.iload_n 0, 1) := by decide +kernel
theorem d_Mo_isLetter_1 : decode prog_11_method_53_code 1 = .ok (.bipush 97, 2) := by decide +kernel
theorem d_Mo_isLetter_3 : decode prog_11_method_53_code 3 = .ok (.if_icmp .eq 9, 3) := by decide +kernel
theorem d_Mo_isLetter_6 : decode prog_11_method_53_code 6 = .ok (.iload_n 0, 1) := by decide +kernel
theorem d_Mo_isLetter_7 : decode prog_11_method_53_code 7 = .ok (.bipush 98, 2) := by decide +kernel
theorem d_Mo_isLetter_9 : decode prog_11_method_53_code 9 = .ok (.if_icmp .ne 7, 3) := by decide +kernel
theorem d_Mo_isLetter_12 : decode prog_11_method_53_code 12 = .ok (.iconst 1, 1) := by decide +kernel
theorem d_Mo_isLetter_13 : decode prog_11_method_53_code 13 = .ok (.goto 4, 3) := by decide +kernel
theorem d_Mo_isLetter_16 : decode prog_11_method_53_code 16 = .ok (.iconst 0, 1) := by decide +kernel
theorem d_Mo_isLetter_17 : decode prog_11_method_53_code 17 = .ok (.ireturn, 1) := by decide +kernel
theorem d_Mo_isToken_0 : decode prog_11_method_54_code 0 = .ok (.iload_n 0, 1) := by decide +kernel
theorem d_Mo_isToken_1 : decode prog_11_method_54_code 1 = .ok (.bipush (-4), 2) := by decide +kernel
theorem d_Mo_isToken_3 : decode prog_11_method_54_code 3 = .ok (.if_icmp .eq 24, 3) := by decide +kernel
theorem d_Mo_isToken_6 : decode prog_11_method_54_code 6 = .ok (.iload_n 0, 1) := by decide +kernel
theorem d_Mo_isToken_7 : decode prog_11_method_54_code 7 = .ok (.invokestatic 236, 3) := by decide +kernel
theorem d_Mo_isToken_10 : decode prog_11_method_54_code 10 = .ok (.ifCond .ne 17, 3) := by decide +kernel
theorem d_Mo_isToken_13 : decode prog_11_method_54_code 13 = .ok (.iload_n 0, 1) := by decide +kernel
theorem d_Mo_isToken_14 : decode prog_11_method_54_code 14 = .ok (.i2l, 1) := by decide +kernel
theorem d_Mo_isToken_15 : decode prog_11_method_54_code 15 = .ok (.ldc2_w 239, 3) := by decide +kernel
theorem d_Mo_isToken_18 : decode prog_11_method_54_code 18 = .ok (.ldc2_w 241, 3) := by decide +kernel
theorem d_Mo_isToken_21 : decode prog_11_method_54_code 21 = .ok (.invokestatic 107, 3) := by decide +kernel
theorem d_Mo_isToken_24 : decode prog_11_method_54_code 24 = .ok (.ifCond .eq 7, 3) := by decide +kernel
theorem d_Mo_isToken_27 : decode prog_11_method_54_code 27 = .ok (.iconst 1, 1) := by decide +kernel
theorem d_Mo_isToken_28 : decode prog_11_method_54_code 28 = .ok (.goto 4, 3) := by decide +kernel
theorem d_Mo_isToken_31 : decode prog_11_method_54_code 31 = .ok (.iconst 0, 1) := by decide +kernel
theorem d_Mo_isToken_32 : decode prog_11_method_54_code 32 = .ok (.ireturn, 1) := by decide +kernel
theorem d_Mo_text_0 : decode prog_11_method_55_code 0 = .ok (.iconst 0, 1) := by decide +kernel
theorem d_Mo_text_1 : decode prog_11_method_55_code 1 = .ok (.istore_n 1, 1) := by decide +kernel
theorem d_Mo_text_2 : decode prog_11_method_55_code 2 = .ok (.iload_n 1, 1) := by decide +kernel
theorem d_Mo_text_3 : decode prog_11_method_55_code 3 = .ok (.bipush 12, 2) := by decide +kernel
theorem d_Mo_text_5 : decode prog_11_method_55_code 5 = .ok (.if_icmp .ge 16, 3) := by decide +kernel
theorem d_Mo_text_8 : decode prog_11_method_55_code 8 = .ok (.aload_n 0, 1) := by decide +kernel
theorem d_Mo_text_9 : decode prog_11_method_55_code 9 = .ok (.getfield 73, 3) := by decide +kernel
theorem d_Mo_text_12 : decode prog_11_method_55_code 12 = .ok (.iload_n 1, 1) := by decide +kernel
theorem d_Mo_text_13 : decode prog_11_method_55_code 13 = .ok (.iconst 0, 1) := by decide +kernel
theorem d_Mo_text_14 : decode prog_11_method_55_code 14 = .ok (.iastore, 1) := by decide +kernel
theorem d_Mo_text_15 : decode prog_11_method_55_code 15 = .ok (.iinc 1 1, 3) := by decide +kernel
theorem d_Mo_text_18 : decode prog_11_method_55_code 18 = .ok (.goto (-16), 3) := by decide +kernel
theorem d_Mo_text_21 : decode prog_11_method_55_code 21 = .ok (.aload_n 0, 1) := by decide +kernel
theorem d_Mo_text_22 : decode prog_11_method_55_code 22 = .ok (.iconst 0, 1) := by decide +kernel
theorem d_Mo_text_23 : decode prog_11_method_55_code 23 = .ok (.putfield 233, 3) := by decide +kernel
theorem d_Mo_text_26 : decode prog_11_method_55_code 26 = .ok (.iconst 0, 1) := by decide +kernel
theorem d_Mo_text_27 : decode prog_11_method_55_code 27 = .ok (.istore_n 1, 1) := by decide +kernel
theorem d_Mo_text_28 : decode prog_11_method_55_code 28 = .ok (.iconst 0, 1) := by decide +kernel
theorem d_Mo_text_29 : decode prog_11_method_55_code 29 = .ok (.istore_n 2, 1) := by decide +kernel
theorem d_Mo_text_30 : decode prog_11_method_55_code 30 = .ok (.iconst 0, 1) := by decide +kernel
theorem d_Mo_text_31 : decode prog_11_method_55_code 31 = .ok (.istore_n 3, 1) := by decide +kernel
theorem d_Mo_text_32 : decode prog_11_method_55_code 32 = .ok (.bipush (-4), 2) := by decide +kernel
theorem d_Mo_text_34 : decode prog_11_method_55_code 34 = .ok (.istore 4, 2) := by decide +kernel
theorem d_Mo_text_36 : decode prog_11_method_55_code 36 = .ok (.iconst 1, 1) := by decide +kernel
theorem d_Mo_text_37 : decode prog_11_method_55_code 37 = .ok (.istore 5, 2) := by decide +kernel
theorem d_Mo_text_39 : decode prog_11_method_55_code 39 = .ok (.iload 5, 2) := by decide +kernel
theorem d_Mo_text_41 : decode prog_11_method_55_code 41 = .ok (.ifCond .eq 208, 3) := by decide +kernel
theorem d_Mo_text_44 : decode prog_11_method_55_code 44 = .ok (.aload_n 0, 1) := by decide +kernel
theorem d_Mo_text_45 : decode prog_11_method_55_code 45 = .ok (.invokevirtual 243, 3) := by decide +kernel
theorem d_Mo_text_48 : decode prog_11_method_55_code 48 = .ok (.istore 6, 2) := by decide +kernel
theorem d_Mo_text_50 : decode prog_11_method_55_code 50 = .ok (.iload 6, 2) := by decide +kernel
theorem d_Mo_text_52 : decode prog_11_method_55_code 52 = .ok (.bipush (-4), 2) := by decide +kernel
theorem d_Mo_text_54 : decode prog_11_method_55_code 54 = .ok (.if_icmp .ne 18, 3) := by decide +kernel
theorem d_Mo_text_57 : decode prog_11_method_55_code 57 = .ok (.iload 4, 2) := by decide +kernel
theorem d_Mo_text_59 : decode prog_11_method_55_code 59 = .ok (.bipush (-4), 2) := by decide +kernel
theorem d_Mo_text_61 : decode prog_11_method_55_code 61 = .ok (.if_icmp .ne 11, 3) := by decide +kernel
theorem d_Mo_text_64 : decode prog_11_method_55_code 64 = .ok (.iload_n 1, 1) := by decide +kernel
theorem d_Mo_text_65 : decode prog_11_method_55_code 65 = .ok (.ifCond .le 7, 3) := by decide +kernel
theorem d_Mo_text_68 : decode prog_11_method_55_code 68 = .ok (.iconst 1, 1) := by decide +kernel
theorem d_Mo_text_69 : decode prog_11_method_55_code 69 = .ok (.goto 4, 3) := by decide +kernel
theorem d_Mo_text_72 : decode prog_11_method_55_code 72 = .ok (.iconst 0, 1) := by decide +kernel
theorem d_Mo_text_73 : decode prog_11_method_55_code 73 = .ok (.istore 7, 2) := by decide +kernel
theorem d_Mo_text_75 : decode prog_11_method_55_code 75 = .ok (.iload 6, 2) := by decide +kernel
theorem d_Mo_text_77 : decode prog_11_method_55_code 77 = .ok (.invokestatic 246, 3) := by decide +kernel
theorem d_Mo_text_80 : decode prog_11_method_55_code 80 = .ok (.ifCond .ne 7, 3) := by decide +kernel
theorem d_Mo_text_83 : decode prog_11_method_55_code 83 = .ok (.iconst 1, 1) := by decide +kernel
theorem d_Mo_text_84 : decode prog_11_method_55_code 84 = .ok (.goto 66, 3) := by decide +kernel
theorem d_Mo_text_87 : decode prog_11_method_55_code 87 = .ok (.iload 7, 2) := by decide +kernel
theorem d_Mo_text_89 : decode prog_11_method_55_code 89 = .ok (.ifCond .eq 7, 3) := by decide +kernel
theorem d_Mo_text_92 : decode prog_11_method_55_code 92 = .ok (.iconst 0, 1) := by decide +kernel
theorem d_Mo_text_93 : decode prog_11_method_55_code 93 = .ok (.goto 57, 3) := by decide +kernel
theorem d_Mo_text_96 : decode prog_11_method_55_code 96 = .ok (.iload 4, 2) := by decide +kernel
theorem d_Mo_text_98 : decode prog_11_method_55_code 98 = .ok (.bipush (-4), 2) := by decide +kernel
theorem d_Mo_text_100 : decode prog_11_method_55_code 100 = .ok (.if_icmp .ne 7, 3) := by decide +kernel
theorem d_Mo_text_103 : decode prog_11_method_55_code 103 = .ok (.iconst 1, 1) := by decide +kernel
theorem d_Mo_text_104 : decode prog_11_method_55_code 104 = .ok (.goto 4, 3) := by decide +kernel
theorem d_Mo_text_107 : decode prog_11_method_55_code 107 = .ok (.iconst 0, 1) := by decide +kernel
theorem d_Mo_text_108 : decode prog_11_method_55_code 108 = .ok (.iload 6, 2) := by decide +kernel
theorem d_Mo_text_110 : decode prog_11_method_55_code 110 = .ok (.invokestatic 236, 3) := by decide +kernel
theorem d_Mo_text_113 : decode prog_11_method_55_code 113 = .ok (.if_icmp .ne 10, 3) := by decide +kernel
theorem d_Mo_text_116 : decode prog_11_method_55_code 116 = .ok (.iload 6, 2) := by decide +kernel
theorem d_Mo_text_118 : decode prog_11_method_55_code 118 = .ok (.bipush (-4), 2) := by decide +kernel
theorem d_Mo_text_120 : decode prog_11_method_55_code 120 = .ok (.if_icmp .ne 7, 3) := by decide +kernel
theorem d_Mo_text_123 : decode prog_11_method_55_code 123 = .ok (.iconst 2, 1) := by decide +kernel
theorem d_Mo_text_124 : decode prog_11_method_55_code 124 = .ok (.goto 26, 3) := by decide +kernel
theorem d_Mo_text_127 : decode prog_11_method_55_code 127 = .ok (.iload 4, 2) := by decide +kernel
theorem d_Mo_text_129 : decode prog_11_method_55_code 129 = .ok (.bipush (-4), 2) := by decide +kernel
theorem d_Mo_text_131 : decode prog_11_method_55_code 131 = .ok (.if_icmp .eq 18, 3) := by decide +kernel
theorem d_Mo_text_134 : decode prog_11_method_55_code 134 = .ok (.iload_n 1, 1) := by decide +kernel
theorem d_Mo_text_135 : decode prog_11_method_55_code 135 = .ok (.iload 6, 2) := by decide +kernel
theorem d_Mo_text_137 : decode prog_11_method_55_code 137 = .ok (.iadd, 1) := by decide +kernel
theorem d_Mo_text_138 : decode prog_11_method_55_code 138 = .ok (.bipush 48, 2) := by decide +kernel
theorem d_Mo_text_140 : decode prog_11_method_55_code 140 = .ok (.isub, 1) := by decide +kernel
theorem d_Mo_text_141 : decode prog_11_method_55_code 141 = .ok (.iconst 5, 1) := by decide +kernel
theorem d_Mo_text_142 : decode prog_11_method_55_code 142 = .ok (.if_icmp .le 7, 3) := by decide +kernel
theorem d_Mo_text_145 : decode prog_11_method_55_code 145 = .ok (.iconst 3, 1) := by decide +kernel
theorem d_Mo_text_146 : decode prog_11_method_55_code 146 = .ok (.goto 4, 3) := by decide +kernel
theorem d_Mo_text_149 : decode prog_11_method_55_code 149 = .ok (.iconst 0, 1) := by decide +kernel
theorem d_Mo_text_150 : decode prog_11_method_55_code 150 = .ok (.istore 8, 2) := by decide +kernel
theorem d_Mo_text_152 : decode prog_11_method_55_code 152 = .ok (.iload 8, 2) := by decide +kernel
theorem d_Mo_text_154 : decode prog_11_method_55_code 154 = .ok (.ifCond .ne 12, 3) := by decide +kernel
theorem d_Mo_text_157 : decode prog_11_method_55_code 157 = .ok (.iload 7, 2) := by decide +kernel
theorem d_Mo_text_159 : decode prog_11_method_55_code 159 = .ok (.ifCond .ne 7, 3) := by decide +kernel
theorem d_Mo_text_162 : decode prog_11_method_55_code 162 = .ok (.iconst 1, 1) := by decide +kernel
theorem d_Mo_text_163 : decode prog_11_method_55_code 163 = .ok (.goto 4, 3) := by decide +kernel
theorem d_Mo_text_166 : decode prog_11_method_55_code 166 = .ok (.iconst 0, 1) := by decide +kernel
theorem d_Mo_text_167 : decode prog_11_method_55_code 167 = .ok (.istore 5, 2) := by decide +kernel
theorem d_Mo_text_169 : decode prog_11_method_55_code 169 = .ok (.iload 8, 2) := by decide +kernel
theorem d_Mo_text_171 : decode prog_11_method_55_code 171 = .ok (.istore_n 2, 1) := by decide +kernel
theorem d_Mo_text_172 : decode prog_11_method_55_code 172 = .ok (.aload_n 0, 1) := by decide +kernel
theorem d_Mo_text_173 : decode prog_11_method_55_code 173 = .ok (.getfield 233, 3) := by decide +kernel
theorem d_Mo_text_176 : decode prog_11_method_55_code 176 = .ok (.istore_n 3, 1) := by decide +kernel
theorem d_Mo_text_177 : decode prog_11_method_55_code 177 = .ok (.iload 5, 2) := by decide +kernel
theorem d_Mo_text_179 : decode prog_11_method_55_code 179 = .ok (.ifCond .eq 67, 3) := by decide +kernel
theorem d_Mo_text_182 : decode prog_11_method_55_code 182 = .ok (.iload 4, 2) := by decide +kernel
theorem d_Mo_text_184 : decode prog_11_method_55_code 184 = .ok (.bipush (-4), 2) := by decide +kernel
theorem d_Mo_text_186 : decode prog_11_method_55_code 186 = .ok (.if_icmp .ne 10, 3) := by decide +kernel
theorem d_Mo_text_189 : decode prog_11_method_55_code 189 = .ok (.iload 6, 2) := by decide +kernel
theorem d_Mo_text_191 : decode prog_11_method_55_code 191 = .ok (.istore 4, 2) := by decide +kernel
theorem d_Mo_text_193 : decode prog_11_method_55_code 193 = .ok (.goto 43, 3) := by decide +kernel
theorem d_Mo_text_196 : decode prog_11_method_55_code 196 = .ok (.aload_n 0, 1) := by decide +kernel
theorem d_Mo_text_197 : decode prog_11_method_55_code 197 = .ok (.getfield 73, 3) := by decide +kernel
theorem d_Mo_text_200 : decode prog_11_method_55_code 200 = .ok (.iload 4, 2) := by decide +kernel
theorem d_Mo_text_202 : decode prog_11_method_55_code 202 = .ok (.bipush 97, 2) := by decide +kernel
theorem d_Mo_text_204 : decode prog_11_method_55_code 204 = .ok (.if_icmp .ne 7, 3) := by decide +kernel
theorem d_Mo_text_207 : decode prog_11_method_55_code 207 = .ok (.iconst 0, 1) := by decide +kernel
theorem d_Mo_text_208 : decode prog_11_method_55_code 208 = .ok (.goto 5, 3) := by decide +kernel
theorem d_Mo_text_211 : decode prog_11_method_55_code 211 = .ok (.bipush 6, 2) := by decide +kernel
theorem d_Mo_text_213 : decode prog_11_method_55_code 213 = .ok (.iload 6, 2) := by decide +kernel
theorem d_Mo_text_215 : decode prog_11_method_55_code 215 = .ok (.iadd, 1) := by decide +kernel
theorem d_Mo_text_216 : decode prog_11_method_55_code 216 = .ok (.bipush 48, 2) := by decide +kernel
theorem d_Mo_text_218 : decode prog_11_method_55_code 218 = .ok (.isub, 1) := by decide +kernel
theorem d_Mo_text_219 : decode prog_11_method_55_code 219 = .ok (.dup2, 1) := by decide +kernel
theorem d_Mo_text_220 : decode prog_11_method_55_code 220 = .ok (.iaload, 1) := by decide +kernel
theorem d_Mo_text_221 : decode prog_11_method_55_code 221 = .ok (.iconst 1, 1) := by decide +kernel
theorem d_Mo_text_222 : decode prog_11_method_55_code 222 = .ok (.iadd, 1) := by decide +kernel
theorem d_Mo_text_223 : decode prog_11_method_55_code 223 = .ok (.iastore, 1) := by decide +kernel
theorem d_Mo_text_224 : decode prog_11_method_55_code 224 = .ok (.iload_n 1, 1) := by decide +kernel
theorem d_Mo_text_225 : decode prog_11_method_55_code 225 = .ok (.iload 6, 2) := by decide +kernel
theorem d_Mo_text_227 : decode prog_11_method_55_code 227 = .ok (.bipush 48, 2) := by decide +kernel
theorem d_Mo_text_229 : decode prog_11_method_55_code 229 = .ok (.isub, 1) := by decide +kernel
theorem d_Mo_text_230 : decode prog_11_method_55_code 230 = .ok (.iadd, 1) := by decide +kernel
theorem d_Mo_text_231 : decode prog_11_method_55_code 231 = .ok (.istore_n 1, 1) := by decide +kernel
theorem d_Mo_text_232 : decode prog_11_method_55_code 232 = .ok (.bipush (-4), 2) := by decide +kernel
theorem d_Mo_text_234 : decode prog_11_method_55_code 234 = .ok (.istore 4, 2) := by decide +kernel
theorem d_Mo_text_236 : decode prog_11_method_55_code 236 = .ok (.aload_n 0, 1) := by decide +kernel
theorem d_Mo_text_237 : decode prog_11_method_55_code 237 = .ok (.dup, 1) := by decide +kernel
theorem d_Mo_text_238 : decode prog_11_method_55_code 238 = .ok (.getfield 233, 3) := by decide +kernel
theorem d_Mo_text_241 : decode prog_11_method_55_code 241 = .ok (.iconst 1, 1) := by decide +kernel
theorem d_Mo_text_242 : decode prog_11_method_55_code 242 = .ok (.iadd, 1) := by decide +kernel
theorem d_Mo_text_243 : decode prog_11_method_55_code 243 = .ok (.putfield 233, 3) := by decide +kernel
theorem d_Mo_text_246 : decode prog_11_method_55_code 246 = .ok (.goto (-207), 3) := by decide +kernel
theorem d_Mo_text_249 : decode prog_11_method_55_code 249 = .ok (.aload_n 0, 1) := by decide +kernel
theorem d_Mo_text_250 : decode prog_11_method_55_code 250 = .ok (.iconst 0, 1) := by decide +kernel
theorem d_Mo_text_251 : decode prog_11_method_55_code 251 = .ok (.putfield 230, 3) := by decide +kernel
theorem d_Mo_text_254 : decode prog_11_method_55_code 254 = .ok (.aload_n 0, 1) := by decide +kernel
theorem d_Mo_text_255 : decode prog_11_method_55_code 255 = .ok (.iload_n 2, 1) := by decide +kernel
theorem d_Mo_text_256 : decode prog_11_method_55_code 256 = .ok (.putfield 249, 3) := by decide +kernel
theorem d_Mo_text_259 : decode prog_11_method_55_code 259 = .ok (.iload_n 2, 1) := by decide +kernel
theorem d_Mo_text_260 : decode prog_11_method_55_code 260 = .ok (.ifCond .le 8, 3) := by decide +kernel
theorem d_Mo_text_263 : decode prog_11_method_55_code 263 = .ok (.bipush (-10), 2) := by decide +kernel
theorem d_Mo_text_265 : decode prog_11_method_55_code 265 = .ok (.iload_n 3, 1) := by decide +kernel
theorem d_Mo_text_266 : decode prog_11_method_55_code 266 = .ok (.isub, 1) := by decide +kernel
theorem d_Mo_text_267 : decode prog_11_method_55_code 267 = .ok (.ireturn, 1) := by decide +kernel
theorem d_Mo_text_268 : decode prog_11_method_55_code 268 = .ok (.aload_n 0, 1) := by decide +kernel
theorem d_Mo_text_269 : decode prog_11_method_55_code 269 = .ok (.iconst 1, 1) := by decide +kernel
theorem d_Mo_text_270 : decode prog_11_method_55_code 270 = .ok (.putfield 252, 3) := by decide +kernel
theorem d_Mo_text_273 : decode prog_11_method_55_code 273 = .ok (.iconst 0, 1) := by decide +kernel
theorem d_Mo_text_274 : decode prog_11_method_55_code 274 = .ok (.istore 6, 2) := by decide +kernel
theorem d_Mo_text_276 : decode prog_11_method_55_code 276 = .ok (.iload 6, 2) := by decide +kernel
theorem d_Mo_text_278 : decode prog_11_method_55_code 278 = .ok (.bipush 12, 2) := by decide +kernel
theorem d_Mo_text_280 : decode prog_11_method_55_code 280 = .ok (.if_icmp .ge 23, 3) := by decide +kernel
theorem d_Mo_text_283 : decode prog_11_method_55_code 283 = .ok (.aload_n 0, 1) := by decide +kernel
theorem d_Mo_text_284 : decode prog_11_method_55_code 284 = .ok (.getfield 70, 3) := by decide +kernel
theorem d_Mo_text_287 : decode prog_11_method_55_code 287 = .ok (.iload 6, 2) := by decide +kernel
theorem d_Mo_text_289 : decode prog_11_method_55_code 289 = .ok (.aload_n 0, 1) := by decide +kernel
theorem d_Mo_text_290 : decode prog_11_method_55_code 290 = .ok (.getfield 73, 3) := by decide +kernel
theorem d_Mo_text_293 : decode prog_11_method_55_code 293 = .ok (.iload 6, 2) := by decide +kernel
theorem d_Mo_text_295 : decode prog_11_method_55_code 295 = .ok (.iaload, 1) := by decide +kernel
theorem d_Mo_text_296 : decode prog_11_method_55_code 296 = .ok (.iastore, 1) := by decide +kernel
theorem d_Mo_text_297 : decode prog_11_method_55_code 297 = .ok (.iinc 6 1, 3) := by decide +kernel
theorem d_Mo_text_300 : decode prog_11_method_55_code 300 = .ok (.goto (-24), 3) := by decide +kernel
theorem d_Mo_text_303 : decode prog_11_method_55_code 303 = .ok (.iload_n 1, 1) := by decide +kernel
theorem d_Mo_text_304 : decode prog_11_method_55_code 304 = .ok (.ireturn, 1) := by decide +kernel
theorem d_Mo_fault_0 : decode prog_11_method_56_code 0 = .ok (.aload_n 0, 1) := by decide +kernel
theorem d_Mo_fault_1 : decode prog_11_method_56_code 1 = .ok (.getfield 249, 3) := by decide +kernel
theorem d_Mo_fault_4 : decode prog_11_method_56_code 4 = .ok (.ireturn, 1) := by decide +kernel
theorem d_Mo_sumOf_0 : decode prog_11_method_57_code 0 = .ok (.iconst 0, 1) := by decide +kernel
theorem d_Mo_sumOf_1 : decode prog_11_method_57_code 1 = .ok (.istore_n 2, 1) := by decide +kernel
theorem d_Mo_sumOf_2 : decode prog_11_method_57_code 2 = .ok (.iconst 1, 1) := by decide +kernel
theorem d_Mo_sumOf_3 : decode prog_11_method_57_code 3 = .ok (.istore_n 3, 1) := by decide +kernel
theorem d_Mo_sumOf_4 : decode prog_11_method_57_code 4 = .ok (.iload_n 3, 1) := by decide +kernel
theorem d_Mo_sumOf_5 : decode prog_11_method_57_code 5 = .ok (.bipush 6, 2) := by decide +kernel
theorem d_Mo_sumOf_7 : decode prog_11_method_57_code 7 = .ok (.if_icmp .ge 28, 3) := by decide +kernel
theorem d_Mo_sumOf_10 : decode prog_11_method_57_code 10 = .ok (.iload_n 2, 1) := by decide +kernel
theorem d_Mo_sumOf_11 : decode prog_11_method_57_code 11 = .ok (.iload_n 3, 1) := by decide +kernel
theorem d_Mo_sumOf_12 : decode prog_11_method_57_code 12 = .ok (.aload_n 0, 1) := by decide +kernel
theorem d_Mo_sumOf_13 : decode prog_11_method_57_code 13 = .ok (.iload_n 1, 1) := by decide +kernel
theorem d_Mo_sumOf_14 : decode prog_11_method_57_code 14 = .ok (.iload_n 3, 1) := by decide +kernel
theorem d_Mo_sumOf_15 : decode prog_11_method_57_code 15 = .ok (.iadd, 1) := by decide +kernel
theorem d_Mo_sumOf_16 : decode prog_11_method_57_code 16 = .ok (.iaload, 1) := by decide +kernel
theorem d_Mo_sumOf_17 : decode prog_11_method_57_code 17 = .ok (.aload_n 0, 1) := by decide +kernel
theorem d_Mo_sumOf_18 : decode prog_11_method_57_code 18 = .ok (.iload_n 1, 1) := by decide +kernel
theorem d_Mo_sumOf_19 : decode prog_11_method_57_code 19 = .ok (.bipush 6, 2) := by decide +kernel
theorem d_Mo_sumOf_21 : decode prog_11_method_57_code 21 = .ok (.iadd, 1) := by decide +kernel
theorem d_Mo_sumOf_22 : decode prog_11_method_57_code 22 = .ok (.iload_n 3, 1) := by decide +kernel
theorem d_Mo_sumOf_23 : decode prog_11_method_57_code 23 = .ok (.iadd, 1) := by decide +kernel
theorem d_Mo_sumOf_24 : decode prog_11_method_57_code 24 = .ok (.iaload, 1) := by decide +kernel
theorem d_Mo_sumOf_25 : decode prog_11_method_57_code 25 = .ok (.iadd, 1) := by decide +kernel
theorem d_Mo_sumOf_26 : decode prog_11_method_57_code 26 = .ok (.imul, 1) := by decide +kernel
theorem d_Mo_sumOf_27 : decode prog_11_method_57_code 27 = .ok (.iadd, 1) := by decide +kernel
theorem d_Mo_sumOf_28 : decode prog_11_method_57_code 28 = .ok (.istore_n 2, 1) := by decide +kernel
theorem d_Mo_sumOf_29 : decode prog_11_method_57_code 29 = .ok (.iinc 3 1, 3) := by decide +kernel
theorem d_Mo_sumOf_32 : decode prog_11_method_57_code 32 = .ok (.goto (-28), 3) := by decide +kernel
theorem d_Mo_sumOf_35 : decode prog_11_method_57_code 35 = .ok (.iload_n 2, 1) := by decide +kernel
theorem d_Mo_sumOf_36 : decode prog_11_method_57_code 36 = .ok (.ireturn, 1) := by decide +kernel
theorem d_Mo_indexOf_0 : decode prog_11_method_58_code 0 = .ok (.iconst 0, 1) := by decide +kernel
theorem d_Mo_indexOf_1 : decode prog_11_method_58_code 1 = .ok (.istore_n 3, 1) := by decide +kernel
theorem d_Mo_indexOf_2 : decode prog_11_method_58_code 2 = .ok (.iload_n 3, 1) := by decide +kernel
theorem d_Mo_indexOf_3 : decode prog_11_method_58_code 3 = .ok (.aload_n 0, 1) := by decide +kernel
theorem d_Mo_indexOf_4 : decode prog_11_method_58_code 4 = .ok (.getfield 256, 3) := by decide +kernel
theorem d_Mo_indexOf_7 : decode prog_11_method_58_code 7 = .ok (.if_icmp .ge 68, 3) := by decide +kernel
theorem d_Mo_indexOf_10 : decode prog_11_method_58_code 10 = .ok (.iconst 1, 1) := by decide +kernel
theorem d_Mo_indexOf_11 : decode prog_11_method_58_code 11 = .ok (.istore 4, 2) := by decide +kernel
theorem d_Mo_indexOf_13 : decode prog_11_method_58_code 13 = .ok (.iconst 0, 1) := by decide +kernel
theorem d_Mo_indexOf_14 : decode prog_11_method_58_code 14 = .ok (.istore 5, 2) := by decide +kernel
theorem d_Mo_indexOf_16 : decode prog_11_method_58_code 16 = .ok (.iload 5, 2) := by decide +kernel
theorem d_Mo_indexOf_18 : decode prog_11_method_58_code 18 = .ok (.bipush 12, 2) := by decide +kernel
theorem d_Mo_indexOf_20 : decode prog_11_method_58_code 20 = .ok (.if_icmp .ge 42, 3) := by decide +kernel
theorem d_Mo_indexOf_23 : decode prog_11_method_58_code 23 = .ok (.iload 4, 2) := by decide +kernel
theorem d_Mo_indexOf_25 : decode prog_11_method_58_code 25 = .ok (.ifCond .eq 28, 3) := by decide +kernel
theorem d_Mo_indexOf_28 : decode prog_11_method_58_code 28 = .ok (.aload_n 0, 1) := by decide +kernel
theorem d_Mo_indexOf_29 : decode prog_11_method_58_code 29 = .ok (.getfield 82, 3) := by decide +kernel
theorem d_Mo_indexOf_32 : decode prog_11_method_58_code 32 = .ok (.bipush 12, 2) := by decide +kernel
theorem d_Mo_indexOf_34 : decode prog_11_method_58_code 34 = .ok (.iload_n 3, 1) := by decide +kernel
theorem d_Mo_indexOf_35 : decode prog_11_method_58_code 35 = .ok (.imul, 1) := by decide +kernel
theorem d_Mo_indexOf_36 : decode prog_11_method_58_code 36 = .ok (.iload 5, 2) := by decide +kernel
theorem d_Mo_indexOf_38 : decode prog_11_method_58_code 38 = .ok (.iadd, 1) := by decide +kernel
theorem d_Mo_indexOf_39 : decode prog_11_method_58_code 39 = .ok (.iaload, 1) := by decide +kernel
theorem d_Mo_indexOf_40 : decode prog_11_method_58_code 40 = .ok (.aload_n 1, 1) := by decide +kernel
theorem d_Mo_indexOf_41 : decode prog_11_method_58_code 41 = .ok (.iload_n 2, 1) := by decide +kernel
theorem d_Mo_indexOf_42 : decode prog_11_method_58_code 42 = .ok (.iload 5, 2) := by decide +kernel
theorem d_Mo_indexOf_44 : decode prog_11_method_58_code 44 = .ok (.iadd, 1) := by decide +kernel
theorem d_Mo_indexOf_45 : decode prog_11_method_58_code 45 = .ok (.iaload, 1) := by decide +kernel
theorem d_Mo_indexOf_46 : decode prog_11_method_58_code 46 = .ok (.if_icmp .ne 7, 3) := by decide +kernel
theorem d_Mo_indexOf_49 : decode prog_11_method_58_code 49 = .ok (.iconst 1, 1) := by decide +kernel
theorem d_Mo_indexOf_50 : decode prog_11_method_58_code 50 = .ok (.goto 4, 3) := by decide +kernel
theorem d_Mo_indexOf_53 : decode prog_11_method_58_code 53 = .ok (.iconst 0, 1) := by decide +kernel
theorem d_Mo_indexOf_54 : decode prog_11_method_58_code 54 = .ok (.istore 4, 2) := by decide +kernel
theorem d_Mo_indexOf_56 : decode prog_11_method_58_code 56 = .ok (.iinc 5 1, 3) := by decide +kernel
theorem d_Mo_indexOf_59 : decode prog_11_method_58_code 59 = .ok (.goto (-43), 3) := by decide +kernel
theorem d_Mo_indexOf_62 : decode prog_11_method_58_code 62 = .ok (.iload 4, 2) := by decide +kernel
theorem d_Mo_indexOf_64 : decode prog_11_method_58_code 64 = .ok (.ifCond .eq 5, 3) := by decide +kernel
theorem d_Mo_indexOf_67 : decode prog_11_method_58_code 67 = .ok (.iload_n 3, 1) := by decide +kernel
theorem d_Mo_indexOf_68 : decode prog_11_method_58_code 68 = .ok (.ireturn, 1) := by decide +kernel
theorem d_Mo_indexOf_69 : decode prog_11_method_58_code 69 = .ok (.iinc 3 1, 3) := by decide +kernel
theorem d_Mo_indexOf_72 : decode prog_11_method_58_code 72 = .ok (.goto (-70), 3) := by decide +kernel
theorem d_Mo_indexOf_75 : decode prog_11_method_58_code 75 = .ok (.bipush (-4), 2) := by decide +kernel
theorem d_Mo_indexOf_77 : decode prog_11_method_58_code 77 = .ok (.ireturn, 1) := by decide +kernel
theorem d_Mo_layRows_0 : decode prog_11_method_59_code 0 = .ok (.aload_n 0, 1) := by decide +kernel
theorem d_Mo_layRows_1 : decode prog_11_method_59_code 1 = .ok (.iconst 0, 1) := by decide +kernel
theorem d_Mo_layRows_2 : decode prog_11_method_59_code 2 = .ok (.putfield 256, 3) := by decide +kernel
theorem d_Mo_layRows_5 : decode prog_11_method_59_code 5 = .ok (.iconst 0, 1) := by decide +kernel
theorem d_Mo_layRows_6 : decode prog_11_method_59_code 6 = .ok (.istore_n 1, 1) := by decide +kernel
theorem d_Mo_layRows_7 : decode prog_11_method_59_code 7 = .ok (.iload_n 1, 1) := by decide +kernel
theorem d_Mo_layRows_8 : decode prog_11_method_59_code 8 = .ok (.bipush 12, 2) := by decide +kernel
theorem d_Mo_layRows_10 : decode prog_11_method_59_code 10 = .ok (.if_icmp .ge 16, 3) := by decide +kernel
theorem d_Mo_layRows_13 : decode prog_11_method_59_code 13 = .ok (.aload_n 0, 1) := by decide +kernel
theorem d_Mo_layRows_14 : decode prog_11_method_59_code 14 = .ok (.getfield 88, 3) := by decide +kernel
theorem d_Mo_layRows_17 : decode prog_11_method_59_code 17 = .ok (.iload_n 1, 1) := by decide +kernel
theorem d_Mo_layRows_18 : decode prog_11_method_59_code 18 = .ok (.iconst 0, 1) := by decide +kernel
theorem d_Mo_layRows_19 : decode prog_11_method_59_code 19 = .ok (.iastore, 1) := by decide +kernel
theorem d_Mo_layRows_20 : decode prog_11_method_59_code 20 = .ok (.iinc 1 1, 3) := by decide +kernel
theorem d_Mo_layRows_23 : decode prog_11_method_59_code 23 = .ok (.goto (-16), 3) := by decide +kernel
theorem d_Mo_layRows_26 : decode prog_11_method_59_code 26 = .ok (.iconst 1, 1) := by decide +kernel
theorem d_Mo_layRows_27 : decode prog_11_method_59_code 27 = .ok (.istore_n 1, 1) := by decide +kernel
theorem d_Mo_layRows_28 : decode prog_11_method_59_code 28 = .ok (.iload_n 1, 1) := by decide +kernel
theorem d_Mo_layRows_29 : decode prog_11_method_59_code 29 = .ok (.ifCond .eq 184, 3) := by decide +kernel
theorem d_Mo_layRows_32 : decode prog_11_method_59_code 32 = .ok (.bipush 11, 2) := by decide +kernel
theorem d_Mo_layRows_34 : decode prog_11_method_59_code 34 = .ok (.istore_n 2, 1) := by decide +kernel
theorem d_Mo_layRows_35 : decode prog_11_method_59_code 35 = .ok (.iconst 0, 1) := by decide +kernel
theorem d_Mo_layRows_36 : decode prog_11_method_59_code 36 = .ok (.istore_n 3, 1) := by decide +kernel
theorem d_Mo_layRows_37 : decode prog_11_method_59_code 37 = .ok (.iload_n 2, 1) := by decide +kernel
theorem d_Mo_layRows_38 : decode prog_11_method_59_code 38 = .ok (.ifCond .le 61, 3) := by decide +kernel
theorem d_Mo_layRows_41 : decode prog_11_method_59_code 41 = .ok (.iload_n 3, 1) := by decide +kernel
theorem d_Mo_layRows_42 : decode prog_11_method_59_code 42 = .ok (.ifCond .ne 57, 3) := by decide +kernel
theorem d_Mo_layRows_45 : decode prog_11_method_59_code 45 = .ok (.iload_n 2, 1) := by decide +kernel
theorem d_Mo_layRows_46 : decode prog_11_method_59_code 46 = .ok (.bipush 6, 2) := by decide +kernel
theorem d_Mo_layRows_48 : decode prog_11_method_59_code 48 = .ok (.if_icmp .ne 6, 3) := by decide +kernel
theorem d_Mo_layRows_51 : decode prog_11_method_59_code 51 = .ok (.iinc 2 (-1), 3) := by decide +kernel
theorem d_Mo_layRows_54 : decode prog_11_method_59_code 54 = .ok (.aload_n 0, 1) := by decide +kernel
theorem d_Mo_layRows_55 : decode prog_11_method_59_code 55 = .ok (.getfield 88, 3) := by decide +kernel
theorem d_Mo_layRows_58 : decode prog_11_method_59_code 58 = .ok (.iload_n 2, 1) := by decide +kernel
theorem d_Mo_layRows_59 : decode prog_11_method_59_code 59 = .ok (.dup2, 1) := by decide +kernel
theorem d_Mo_layRows_60 : decode prog_11_method_59_code 60 = .ok (.iaload, 1) := by decide +kernel
theorem d_Mo_layRows_61 : decode prog_11_method_59_code 61 = .ok (.iconst 1, 1) := by decide +kernel
theorem d_Mo_layRows_62 : decode prog_11_method_59_code 62 = .ok (.iadd, 1) := by decide +kernel
theorem d_Mo_layRows_63 : decode prog_11_method_59_code 63 = .ok (.iastore, 1) := by decide +kernel
theorem d_Mo_layRows_64 : decode prog_11_method_59_code 64 = .ok (.aload_n 0, 1) := by decide +kernel
theorem d_Mo_layRows_65 : decode prog_11_method_59_code 65 = .ok (.getfield 88, 3) := by decide +kernel
theorem d_Mo_layRows_68 : decode prog_11_method_59_code 68 = .ok (.iconst 0, 1) := by decide +kernel
theorem d_Mo_layRows_69 : decode prog_11_method_59_code 69 = .ok (.invokestatic 259, 3) := by decide +kernel
theorem d_Mo_layRows_72 : decode prog_11_method_59_code 72 = .ok (.iconst 5, 1) := by decide +kernel
theorem d_Mo_layRows_73 : decode prog_11_method_59_code 73 = .ok (.if_icmp .gt 7, 3) := by decide +kernel
theorem d_Mo_layRows_76 : decode prog_11_method_59_code 76 = .ok (.iconst 1, 1) := by decide +kernel
theorem d_Mo_layRows_77 : decode prog_11_method_59_code 77 = .ok (.goto 4, 3) := by decide +kernel
theorem d_Mo_layRows_80 : decode prog_11_method_59_code 80 = .ok (.iconst 0, 1) := by decide +kernel
theorem d_Mo_layRows_81 : decode prog_11_method_59_code 81 = .ok (.istore_n 3, 1) := by decide +kernel
theorem d_Mo_layRows_82 : decode prog_11_method_59_code 82 = .ok (.iload_n 3, 1) := by decide +kernel
theorem d_Mo_layRows_83 : decode prog_11_method_59_code 83 = .ok (.ifCond .ne (-46), 3) := by decide +kernel
theorem d_Mo_layRows_86 : decode prog_11_method_59_code 86 = .ok (.aload_n 0, 1) := by decide +kernel
theorem d_Mo_layRows_87 : decode prog_11_method_59_code 87 = .ok (.getfield 88, 3) := by decide +kernel
theorem d_Mo_layRows_90 : decode prog_11_method_59_code 90 = .ok (.iload_n 2, 1) := by decide +kernel
theorem d_Mo_layRows_91 : decode prog_11_method_59_code 91 = .ok (.iconst 0, 1) := by decide +kernel
theorem d_Mo_layRows_92 : decode prog_11_method_59_code 92 = .ok (.iastore, 1) := by decide +kernel
theorem d_Mo_layRows_93 : decode prog_11_method_59_code 93 = .ok (.iinc 2 (-1), 3) := by decide +kernel
theorem d_Mo_layRows_96 : decode prog_11_method_59_code 96 = .ok (.goto (-59), 3) := by decide +kernel
theorem d_Mo_layRows_99 : decode prog_11_method_59_code 99 = .ok (.iload_n 3, 1) := by decide +kernel
theorem d_Mo_layRows_100 : decode prog_11_method_59_code 100 = .ok (.istore_n 1, 1) := by decide +kernel
theorem d_Mo_layRows_101 : decode prog_11_method_59_code 101 = .ok (.iload_n 3, 1) := by decide +kernel
theorem d_Mo_layRows_102 : decode prog_11_method_59_code 102 = .ok (.ifCond .eq 108, 3) := by decide +kernel
theorem d_Mo_layRows_105 : decode prog_11_method_59_code 105 = .ok (.aload_n 0, 1) := by decide +kernel
theorem d_Mo_layRows_106 : decode prog_11_method_59_code 106 = .ok (.getfield 76, 3) := by decide +kernel
theorem d_Mo_layRows_109 : decode prog_11_method_59_code 109 = .ok (.aload_n 0, 1) := by decide +kernel
theorem d_Mo_layRows_110 : decode prog_11_method_59_code 110 = .ok (.getfield 256, 3) := by decide +kernel
theorem d_Mo_layRows_113 : decode prog_11_method_59_code 113 = .ok (.aload_n 0, 1) := by decide +kernel
theorem d_Mo_layRows_114 : decode prog_11_method_59_code 114 = .ok (.getfield 88, 3) := by decide +kernel
theorem d_Mo_layRows_117 : decode prog_11_method_59_code 117 = .ok (.iconst 0, 1) := by decide +kernel
theorem d_Mo_layRows_118 : decode prog_11_method_59_code 118 = .ok (.invokestatic 259, 3) := by decide +kernel
theorem d_Mo_layRows_121 : decode prog_11_method_59_code 121 = .ok (.iastore, 1) := by decide +kernel
theorem d_Mo_layRows_122 : decode prog_11_method_59_code 122 = .ok (.aload_n 0, 1) := by decide +kernel
theorem d_Mo_layRows_123 : decode prog_11_method_59_code 123 = .ok (.getfield 79, 3) := by decide +kernel
theorem d_Mo_layRows_126 : decode prog_11_method_59_code 126 = .ok (.aload_n 0, 1) := by decide +kernel
theorem d_Mo_layRows_127 : decode prog_11_method_59_code 127 = .ok (.getfield 256, 3) := by decide +kernel
theorem d_Mo_layRows_130 : decode prog_11_method_59_code 130 = .ok (.iconst 0, 1) := by decide +kernel
theorem d_Mo_layRows_131 : decode prog_11_method_59_code 131 = .ok (.iastore, 1) := by decide +kernel
theorem d_Mo_layRows_132 : decode prog_11_method_59_code 132 = .ok (.iconst 0, 1) := by decide +kernel
theorem d_Mo_layRows_133 : decode prog_11_method_59_code 133 = .ok (.istore 4, 2) := by decide +kernel
theorem d_Mo_layRows_135 : decode prog_11_method_59_code 135 = .ok (.iload 4, 2) := by decide +kernel
theorem d_Mo_layRows_137 : decode prog_11_method_59_code 137 = .ok (.bipush 12, 2) := by decide +kernel
theorem d_Mo_layRows_139 : decode prog_11_method_59_code 139 = .ok (.if_icmp .ge 61, 3) := by decide +kernel
theorem d_Mo_layRows_142 : decode prog_11_method_59_code 142 = .ok (.aload_n 0, 1) := by decide +kernel
theorem d_Mo_layRows_143 : decode prog_11_method_59_code 143 = .ok (.getfield 82, 3) := by decide +kernel
theorem d_Mo_layRows_146 : decode prog_11_method_59_code 146 = .ok (.bipush 12, 2) := by decide +kernel
theorem d_Mo_layRows_148 : decode prog_11_method_59_code 148 = .ok (.aload_n 0, 1) := by decide +kernel
theorem d_Mo_layRows_149 : decode prog_11_method_59_code 149 = .ok (.getfield 256, 3) := by decide +kernel
theorem d_Mo_layRows_152 : decode prog_11_method_59_code 152 = .ok (.imul, 1) := by decide +kernel
theorem d_Mo_layRows_153 : decode prog_11_method_59_code 153 = .ok (.iload 4, 2) := by decide +kernel
theorem d_Mo_layRows_155 : decode prog_11_method_59_code 155 = .ok (.iadd, 1) := by decide +kernel
theorem d_Mo_layRows_156 : decode prog_11_method_59_code 156 = .ok (.aload_n 0, 1) := by decide +kernel
theorem d_Mo_layRows_157 : decode prog_11_method_59_code 157 = .ok (.getfield 88, 3) := by decide +kernel
theorem d_Mo_layRows_160 : decode prog_11_method_59_code 160 = .ok (.iload 4, 2) := by decide +kernel
theorem d_Mo_layRows_162 : decode prog_11_method_59_code 162 = .ok (.iaload, 1) := by decide +kernel
theorem d_Mo_layRows_163 : decode prog_11_method_59_code 163 = .ok (.iastore, 1) := by decide +kernel
theorem d_Mo_layRows_164 : decode prog_11_method_59_code 164 = .ok (.aload_n 0, 1) := by decide +kernel
theorem d_Mo_layRows_165 : decode prog_11_method_59_code 165 = .ok (.getfield 79, 3) := by decide +kernel
theorem d_Mo_layRows_168 : decode prog_11_method_59_code 168 = .ok (.aload_n 0, 1) := by decide +kernel
theorem d_Mo_layRows_169 : decode prog_11_method_59_code 169 = .ok (.getfield 256, 3) := by decide +kernel
theorem d_Mo_layRows_172 : decode prog_11_method_59_code 172 = .ok (.dup2, 1) := by decide +kernel
theorem d_Mo_layRows_173 : decode prog_11_method_59_code 173 = .ok (.iaload, 1) := by decide +kernel
theorem d_Mo_layRows_174 : decode prog_11_method_59_code 174 = .ok (.iload 4, 2) := by decide +kernel
theorem d_Mo_layRows_176 : decode prog_11_method_59_code 176 = .ok (.bipush 6, 2) := by decide +kernel
theorem d_Mo_layRows_178 : decode prog_11_method_59_code 178 = .ok (.if_icmp .le 13, 3) := by decide +kernel
theorem d_Mo_layRows_181 : decode prog_11_method_59_code 181 = .ok (.aload_n 0, 1) := by decide +kernel
theorem d_Mo_layRows_182 : decode prog_11_method_59_code 182 = .ok (.getfield 88, 3) := by decide +kernel
theorem d_Mo_layRows_185 : decode prog_11_method_59_code 185 = .ok (.iload 4, 2) := by decide +kernel
theorem d_Mo_layRows_187 : decode prog_11_method_59_code 187 = .ok (.iaload, 1) := by decide +kernel
theorem d_Mo_layRows_188 : decode prog_11_method_59_code 188 = .ok (.goto 4, 3) := by decide +kernel
theorem d_Mo_layRows_191 : decode prog_11_method_59_code 191 = .ok (.iconst 0, 1) := by decide +kernel
theorem d_Mo_layRows_192 : decode prog_11_method_59_code 192 = .ok (.iadd, 1) := by decide +kernel
theorem d_Mo_layRows_193 : decode prog_11_method_59_code 193 = .ok (.iastore, 1) := by decide +kernel
theorem d_Mo_layRows_194 : decode prog_11_method_59_code 194 = .ok (.iinc 4 1, 3) := by decide +kernel
theorem d_Mo_layRows_197 : decode prog_11_method_59_code 197 = .ok (.goto (-62), 3) := by decide +kernel
theorem d_Mo_layRows_200 : decode prog_11_method_59_code 200 = .ok (.aload_n 0, 1) := by decide +kernel
theorem d_Mo_layRows_201 : decode prog_11_method_59_code 201 = .ok (.dup, 1) := by decide +kernel
theorem d_Mo_layRows_202 : decode prog_11_method_59_code 202 = .ok (.getfield 256, 3) := by decide +kernel
theorem d_Mo_layRows_205 : decode prog_11_method_59_code 205 = .ok (.iconst 1, 1) := by decide +kernel
theorem d_Mo_layRows_206 : decode prog_11_method_59_code 206 = .ok (.iadd, 1) := by decide +kernel
theorem d_Mo_layRows_207 : decode prog_11_method_59_code 207 = .ok (.putfield 256, 3) := by decide +kernel
theorem d_Mo_layRows_210 : decode prog_11_method_59_code 210 = .ok (.goto (-182), 3) := by decide +kernel
theorem d_Mo_layRows_213 : decode prog_11_method_59_code 213 = .ok (.return_, 1) := by decide +kernel
theorem d_Mo_choose_0 : decode prog_11_method_60_code 0 = .ok (.lconst 1, 1) := by decide +kernel
theorem d_Mo_choose_1 : decode prog_11_method_60_code 1 = .ok (.lstore_n 2, 1) := by decide +kernel
theorem d_Mo_choose_2 : decode prog_11_method_60_code 2 = .ok (.iconst 0, 1) := by decide +kernel
theorem d_Mo_choose_3 : decode prog_11_method_60_code 3 = .ok (.istore 4, 2) := by decide +kernel
theorem d_Mo_choose_5 : decode prog_11_method_60_code 5 = .ok (.iload 4, 2) := by decide +kernel
theorem d_Mo_choose_7 : decode prog_11_method_60_code 7 = .ok (.iload_n 1, 1) := by decide +kernel
theorem d_Mo_choose_8 : decode prog_11_method_60_code 8 = .ok (.if_icmp .ge 23, 3) := by decide +kernel
theorem d_Mo_choose_11 : decode prog_11_method_60_code 11 = .ok (.lload_n 2, 1) := by decide +kernel
theorem d_Mo_choose_12 : decode prog_11_method_60_code 12 = .ok (.iload_n 0, 1) := by decide +kernel
theorem d_Mo_choose_13 : decode prog_11_method_60_code 13 = .ok (.iload 4, 2) := by decide +kernel
theorem d_Mo_choose_15 : decode prog_11_method_60_code 15 = .ok (.isub, 1) := by decide +kernel
theorem d_Mo_choose_16 : decode prog_11_method_60_code 16 = .ok (.i2l, 1) := by decide +kernel
theorem d_Mo_choose_17 : decode prog_11_method_60_code 17 = .ok (.lmul, 1) := by decide +kernel
theorem d_Mo_choose_18 : decode prog_11_method_60_code 18 = .ok (.iload 4, 2) := by decide +kernel
theorem d_Mo_choose_20 : decode prog_11_method_60_code 20 = .ok (.iconst 1, 1) := by decide +kernel
theorem d_Mo_choose_21 : decode prog_11_method_60_code 21 = .ok (.iadd, 1) := by decide +kernel
theorem d_Mo_choose_22 : decode prog_11_method_60_code 22 = .ok (.i2l, 1) := by decide +kernel
theorem d_Mo_choose_23 : decode prog_11_method_60_code 23 = .ok (.ldiv, 1) := by decide +kernel
theorem d_Mo_choose_24 : decode prog_11_method_60_code 24 = .ok (.lstore_n 2, 1) := by decide +kernel
theorem d_Mo_choose_25 : decode prog_11_method_60_code 25 = .ok (.iinc 4 1, 3) := by decide +kernel
theorem d_Mo_choose_28 : decode prog_11_method_60_code 28 = .ok (.goto (-23), 3) := by decide +kernel
theorem d_Mo_choose_31 : decode prog_11_method_60_code 31 = .ok (.iload_n 1, 1) := by decide +kernel
theorem d_Mo_choose_32 : decode prog_11_method_60_code 32 = .ok (.ifCond .lt 8, 3) := by decide +kernel
theorem d_Mo_choose_35 : decode prog_11_method_60_code 35 = .ok (.iload_n 1, 1) := by decide +kernel
theorem d_Mo_choose_36 : decode prog_11_method_60_code 36 = .ok (.iload_n 0, 1) := by decide +kernel
theorem d_Mo_choose_37 : decode prog_11_method_60_code 37 = .ok (.if_icmp .le 7, 3) := by decide +kernel
theorem d_Mo_choose_40 : decode prog_11_method_60_code 40 = .ok (.lconst 0, 1) := by decide +kernel
theorem d_Mo_choose_41 : decode prog_11_method_60_code 41 = .ok (.goto 4, 3) := by decide +kernel
theorem d_Mo_choose_44 : decode prog_11_method_60_code 44 = .ok (.lload_n 2, 1) := by decide +kernel
theorem d_Mo_choose_45 : decode prog_11_method_60_code 45 = .ok (.lreturn, 1) := by decide +kernel
theorem d_Mo_power_0 : decode prog_11_method_61_code 0 = .ok (.lconst 1, 1) := by decide +kernel
theorem d_Mo_power_1 : decode prog_11_method_61_code 1 = .ok (.lstore_n 2, 1) := by decide +kernel
theorem d_Mo_power_2 : decode prog_11_method_61_code 2 = .ok (.iconst 0, 1) := by decide +kernel
theorem d_Mo_power_3 : decode prog_11_method_61_code 3 = .ok (.istore 4, 2) := by decide +kernel
theorem d_Mo_power_5 : decode prog_11_method_61_code 5 = .ok (.iload 4, 2) := by decide +kernel
theorem d_Mo_power_7 : decode prog_11_method_61_code 7 = .ok (.iload_n 1, 1) := by decide +kernel
theorem d_Mo_power_8 : decode prog_11_method_61_code 8 = .ok (.if_icmp .ge 14, 3) := by decide +kernel
theorem d_Mo_power_11 : decode prog_11_method_61_code 11 = .ok (.lload_n 2, 1) := by decide +kernel
theorem d_Mo_power_12 : decode prog_11_method_61_code 12 = .ok (.iload_n 0, 1) := by decide +kernel
theorem d_Mo_power_13 : decode prog_11_method_61_code 13 = .ok (.i2l, 1) := by decide +kernel
theorem d_Mo_power_14 : decode prog_11_method_61_code 14 = .ok (.lmul, 1) := by decide +kernel
theorem d_Mo_power_15 : decode prog_11_method_61_code 15 = .ok (.lstore_n 2, 1) := by decide +kernel
theorem d_Mo_power_16 : decode prog_11_method_61_code 16 = .ok (.iinc 4 1, 3) := by decide +kernel
theorem d_Mo_power_19 : decode prog_11_method_61_code 19 = .ok (.goto (-14), 3) := by decide +kernel
theorem d_Mo_power_22 : decode prog_11_method_61_code 22 = .ok (.lload_n 2, 1) := by decide +kernel
theorem d_Mo_power_23 : decode prog_11_method_61_code 23 = .ok (.lreturn, 1) := by decide +kernel
theorem d_Mo_reckon_0 : decode prog_11_method_62_code 0 = .ok (.aload_n 0, 1) := by decide +kernel
theorem d_Mo_reckon_1 : decode prog_11_method_62_code 1 = .ok (.getfield 76, 3) := by decide +kernel
theorem d_Mo_reckon_4 : decode prog_11_method_62_code 4 = .ok (.iload_n 1, 1) := by decide +kernel
theorem d_Mo_reckon_5 : decode prog_11_method_62_code 5 = .ok (.iaload, 1) := by decide +kernel
theorem d_Mo_reckon_6 : decode prog_11_method_62_code 6 = .ok (.istore_n 2, 1) := by decide +kernel
theorem d_Mo_reckon_7 : decode prog_11_method_62_code 7 = .ok (.iconst 0, 1) := by decide +kernel
theorem d_Mo_reckon_8 : decode prog_11_method_62_code 8 = .ok (.istore_n 3, 1) := by decide +kernel
theorem d_Mo_reckon_9 : decode prog_11_method_62_code 9 = .ok (.iload_n 3, 1) := by decide +kernel
theorem d_Mo_reckon_10 : decode prog_11_method_62_code 10 = .ok (.bipush 11, 2) := by decide +kernel
theorem d_Mo_reckon_12 : decode prog_11_method_62_code 12 = .ok (.if_icmp .ge 218, 3) := by decide +kernel
theorem d_Mo_reckon_15 : decode prog_11_method_62_code 15 = .ok (.lconst 0, 1) := by decide +kernel
theorem d_Mo_reckon_16 : decode prog_11_method_62_code 16 = .ok (.lstore 4, 2) := by decide +kernel
theorem d_Mo_reckon_18 : decode prog_11_method_62_code 18 = .ok (.iload_n 2, 1) := by decide +kernel
theorem d_Mo_reckon_19 : decode prog_11_method_62_code 19 = .ok (.iconst 1, 1) := by decide +kernel
theorem d_Mo_reckon_20 : decode prog_11_method_62_code 20 = .ok (.if_icmp .ne 14, 3) := by decide +kernel
theorem d_Mo_reckon_23 : decode prog_11_method_62_code 23 = .ok (.iload_n 3, 1) := by decide +kernel
theorem d_Mo_reckon_24 : decode prog_11_method_62_code 24 = .ok (.ifCond .ne 7, 3) := by decide +kernel
theorem d_Mo_reckon_27 : decode prog_11_method_62_code 27 = .ok (.lconst 1, 1) := by decide +kernel
theorem d_Mo_reckon_28 : decode prog_11_method_62_code 28 = .ok (.goto 4, 3) := by decide +kernel
theorem d_Mo_reckon_31 : decode prog_11_method_62_code 31 = .ok (.lconst 0, 1) := by decide +kernel
theorem d_Mo_reckon_32 : decode prog_11_method_62_code 32 = .ok (.lstore 4, 2) := by decide +kernel
theorem d_Mo_reckon_34 : decode prog_11_method_62_code 34 = .ok (.iconst 1, 1) := by decide +kernel
theorem d_Mo_reckon_35 : decode prog_11_method_62_code 35 = .ok (.istore 6, 2) := by decide +kernel
theorem d_Mo_reckon_37 : decode prog_11_method_62_code 37 = .ok (.iload 6, 2) := by decide +kernel
theorem d_Mo_reckon_39 : decode prog_11_method_62_code 39 = .ok (.bipush 6, 2) := by decide +kernel
theorem d_Mo_reckon_41 : decode prog_11_method_62_code 41 = .ok (.if_icmp .ge 120, 3) := by decide +kernel
theorem d_Mo_reckon_44 : decode prog_11_method_62_code 44 = .ok (.iload_n 2, 1) := by decide +kernel
theorem d_Mo_reckon_45 : decode prog_11_method_62_code 45 = .ok (.iconst 1, 1) := by decide +kernel
theorem d_Mo_reckon_46 : decode prog_11_method_62_code 46 = .ok (.if_icmp .le 115, 3) := by decide +kernel
theorem d_Mo_reckon_49 : decode prog_11_method_62_code 49 = .ok (.aload_n 0, 1) := by decide +kernel
theorem d_Mo_reckon_50 : decode prog_11_method_62_code 50 = .ok (.getfield 82, 3) := by decide +kernel
theorem d_Mo_reckon_53 : decode prog_11_method_62_code 53 = .ok (.bipush 12, 2) := by decide +kernel
theorem d_Mo_reckon_55 : decode prog_11_method_62_code 55 = .ok (.iload_n 1, 1) := by decide +kernel
theorem d_Mo_reckon_56 : decode prog_11_method_62_code 56 = .ok (.imul, 1) := by decide +kernel
theorem d_Mo_reckon_57 : decode prog_11_method_62_code 57 = .ok (.bipush 6, 2) := by decide +kernel
theorem d_Mo_reckon_59 : decode prog_11_method_62_code 59 = .ok (.iadd, 1) := by decide +kernel
theorem d_Mo_reckon_60 : decode prog_11_method_62_code 60 = .ok (.iload 6, 2) := by decide +kernel
theorem d_Mo_reckon_62 : decode prog_11_method_62_code 62 = .ok (.iadd, 1) := by decide +kernel
theorem d_Mo_reckon_63 : decode prog_11_method_62_code 63 = .ok (.iaload, 1) := by decide +kernel
theorem d_Mo_reckon_64 : decode prog_11_method_62_code 64 = .ok (.ifCond .le 91, 3) := by decide +kernel
theorem d_Mo_reckon_67 : decode prog_11_method_62_code 67 = .ok (.iconst 0, 1) := by decide +kernel
theorem d_Mo_reckon_68 : decode prog_11_method_62_code 68 = .ok (.istore 7, 2) := by decide +kernel
theorem d_Mo_reckon_70 : decode prog_11_method_62_code 70 = .ok (.iload 7, 2) := by decide +kernel
theorem d_Mo_reckon_72 : decode prog_11_method_62_code 72 = .ok (.bipush 12, 2) := by decide +kernel
theorem d_Mo_reckon_74 : decode prog_11_method_62_code 74 = .ok (.if_icmp .ge 28, 3) := by decide +kernel
theorem d_Mo_reckon_77 : decode prog_11_method_62_code 77 = .ok (.aload_n 0, 1) := by decide +kernel
theorem d_Mo_reckon_78 : decode prog_11_method_62_code 78 = .ok (.getfield 88, 3) := by decide +kernel
theorem d_Mo_reckon_81 : decode prog_11_method_62_code 81 = .ok (.iload 7, 2) := by decide +kernel
theorem d_Mo_reckon_83 : decode prog_11_method_62_code 83 = .ok (.aload_n 0, 1) := by decide +kernel
theorem d_Mo_reckon_84 : decode prog_11_method_62_code 84 = .ok (.getfield 82, 3) := by decide +kernel
theorem d_Mo_reckon_87 : decode prog_11_method_62_code 87 = .ok (.bipush 12, 2) := by decide +kernel
theorem d_Mo_reckon_89 : decode prog_11_method_62_code 89 = .ok (.iload_n 1, 1) := by decide +kernel
theorem d_Mo_reckon_90 : decode prog_11_method_62_code 90 = .ok (.imul, 1) := by decide +kernel
theorem d_Mo_reckon_91 : decode prog_11_method_62_code 91 = .ok (.iload 7, 2) := by decide +kernel
theorem d_Mo_reckon_93 : decode prog_11_method_62_code 93 = .ok (.iadd, 1) := by decide +kernel
theorem d_Mo_reckon_94 : decode prog_11_method_62_code 94 = .ok (.iaload, 1) := by decide +kernel
theorem d_Mo_reckon_95 : decode prog_11_method_62_code 95 = .ok (.iastore, 1) := by decide +kernel
theorem d_Mo_reckon_96 : decode prog_11_method_62_code 96 = .ok (.iinc 7 1, 3) := by decide +kernel
theorem d_Mo_reckon_99 : decode prog_11_method_62_code 99 = .ok (.goto (-29), 3) := by decide +kernel
theorem d_Mo_reckon_102 : decode prog_11_method_62_code 102 = .ok (.aload_n 0, 1) := by decide +kernel
theorem d_Mo_reckon_103 : decode prog_11_method_62_code 103 = .ok (.getfield 88, 3) := by decide +kernel
theorem d_Mo_reckon_106 : decode prog_11_method_62_code 106 = .ok (.iload 6, 2) := by decide +kernel
theorem d_Mo_reckon_108 : decode prog_11_method_62_code 108 = .ok (.dup2, 1) := by decide +kernel
theorem d_Mo_reckon_109 : decode prog_11_method_62_code 109 = .ok (.iaload, 1) := by decide +kernel
theorem d_Mo_reckon_110 : decode prog_11_method_62_code 110 = .ok (.iconst 1, 1) := by decide +kernel
theorem d_Mo_reckon_111 : decode prog_11_method_62_code 111 = .ok (.iadd, 1) := by decide +kernel
theorem d_Mo_reckon_112 : decode prog_11_method_62_code 112 = .ok (.iastore, 1) := by decide +kernel
theorem d_Mo_reckon_113 : decode prog_11_method_62_code 113 = .ok (.aload_n 0, 1) := by decide +kernel
theorem d_Mo_reckon_114 : decode prog_11_method_62_code 114 = .ok (.getfield 88, 3) := by decide +kernel
theorem d_Mo_reckon_117 : decode prog_11_method_62_code 117 = .ok (.bipush 6, 2) := by decide +kernel
theorem d_Mo_reckon_119 : decode prog_11_method_62_code 119 = .ok (.iload 6, 2) := by decide +kernel
theorem d_Mo_reckon_121 : decode prog_11_method_62_code 121 = .ok (.iadd, 1) := by decide +kernel
theorem d_Mo_reckon_122 : decode prog_11_method_62_code 122 = .ok (.dup2, 1) := by decide +kernel
theorem d_Mo_reckon_123 : decode prog_11_method_62_code 123 = .ok (.iaload, 1) := by decide +kernel
theorem d_Mo_reckon_124 : decode prog_11_method_62_code 124 = .ok (.iconst 1, 1) := by decide +kernel
theorem d_Mo_reckon_125 : decode prog_11_method_62_code 125 = .ok (.isub, 1) := by decide +kernel
theorem d_Mo_reckon_126 : decode prog_11_method_62_code 126 = .ok (.iastore, 1) := by decide +kernel
theorem d_Mo_reckon_127 : decode prog_11_method_62_code 127 = .ok (.lload 4, 2) := by decide +kernel
theorem d_Mo_reckon_129 : decode prog_11_method_62_code 129 = .ok (.iload 6, 2) := by decide +kernel
theorem d_Mo_reckon_131 : decode prog_11_method_62_code 131 = .ok (.i2l, 1) := by decide +kernel
theorem d_Mo_reckon_132 : decode prog_11_method_62_code 132 = .ok (.aload_n 0, 1) := by decide +kernel
theorem d_Mo_reckon_133 : decode prog_11_method_62_code 133 = .ok (.getfield 85, 3) := by decide +kernel
theorem d_Mo_reckon_136 : decode prog_11_method_62_code 136 = .ok (.bipush 11, 2) := by decide +kernel
theorem d_Mo_reckon_138 : decode prog_11_method_62_code 138 = .ok (.aload_n 0, 1) := by decide +kernel
theorem d_Mo_reckon_139 : decode prog_11_method_62_code 139 = .ok (.aload_n 0, 1) := by decide +kernel
theorem d_Mo_reckon_140 : decode prog_11_method_62_code 140 = .ok (.getfield 88, 3) := by decide +kernel
theorem d_Mo_reckon_143 : decode prog_11_method_62_code 143 = .ok (.iconst 0, 1) := by decide +kernel
theorem d_Mo_reckon_144 : decode prog_11_method_62_code 144 = .ok (.invokevirtual 263, 3) := by decide +kernel
theorem d_Mo_reckon_147 : decode prog_11_method_62_code 147 = .ok (.imul, 1) := by decide +kernel
theorem d_Mo_reckon_148 : decode prog_11_method_62_code 148 = .ok (.iload_n 3, 1) := by decide +kernel
theorem d_Mo_reckon_149 : decode prog_11_method_62_code 149 = .ok (.iadd, 1) := by decide +kernel
theorem d_Mo_reckon_150 : decode prog_11_method_62_code 150 = .ok (.laload, 1) := by decide +kernel
theorem d_Mo_reckon_151 : decode prog_11_method_62_code 151 = .ok (.lmul, 1) := by decide +kernel
theorem d_Mo_reckon_152 : decode prog_11_method_62_code 152 = .ok (.ladd, 1) := by decide +kernel
theorem d_Mo_reckon_153 : decode prog_11_method_62_code 153 = .ok (.lstore 4, 2) := by decide +kernel
theorem d_Mo_reckon_155 : decode prog_11_method_62_code 155 = .ok (.iinc 6 1, 3) := by decide +kernel
theorem d_Mo_reckon_158 : decode prog_11_method_62_code 158 = .ok (.goto (-121), 3) := by decide +kernel
theorem d_Mo_reckon_161 : decode prog_11_method_62_code 161 = .ok (.iconst 0, 1) := by decide +kernel
theorem d_Mo_reckon_162 : decode prog_11_method_62_code 162 = .ok (.istore 6, 2) := by decide +kernel
theorem d_Mo_reckon_164 : decode prog_11_method_62_code 164 = .ok (.iload 6, 2) := by decide +kernel
theorem d_Mo_reckon_166 : decode prog_11_method_62_code 166 = .ok (.aload_n 0, 1) := by decide +kernel
theorem d_Mo_reckon_167 : decode prog_11_method_62_code 167 = .ok (.getfield 256, 3) := by decide +kernel
theorem d_Mo_reckon_170 : decode prog_11_method_62_code 170 = .ok (.if_icmp .ge 41, 3) := by decide +kernel
theorem d_Mo_reckon_173 : decode prog_11_method_62_code 173 = .ok (.iload_n 2, 1) := by decide +kernel
theorem d_Mo_reckon_174 : decode prog_11_method_62_code 174 = .ok (.iconst 1, 1) := by decide +kernel
theorem d_Mo_reckon_175 : decode prog_11_method_62_code 175 = .ok (.if_icmp .le 36, 3) := by decide +kernel
theorem d_Mo_reckon_178 : decode prog_11_method_62_code 178 = .ok (.aload_n 0, 1) := by decide +kernel
theorem d_Mo_reckon_179 : decode prog_11_method_62_code 179 = .ok (.getfield 76, 3) := by decide +kernel
theorem d_Mo_reckon_182 : decode prog_11_method_62_code 182 = .ok (.iload 6, 2) := by decide +kernel
theorem d_Mo_reckon_184 : decode prog_11_method_62_code 184 = .ok (.iaload, 1) := by decide +kernel
theorem d_Mo_reckon_185 : decode prog_11_method_62_code 185 = .ok (.iload_n 2, 1) := by decide +kernel
theorem d_Mo_reckon_186 : decode prog_11_method_62_code 186 = .ok (.iconst 1, 1) := by decide +kernel
theorem d_Mo_reckon_187 : decode prog_11_method_62_code 187 = .ok (.isub, 1) := by decide +kernel
theorem d_Mo_reckon_188 : decode prog_11_method_62_code 188 = .ok (.if_icmp .ne 17, 3) := by decide +kernel
theorem d_Mo_reckon_191 : decode prog_11_method_62_code 191 = .ok (.lload 4, 2) := by decide +kernel
theorem d_Mo_reckon_193 : decode prog_11_method_62_code 193 = .ok (.aload_n 0, 1) := by decide +kernel
theorem d_Mo_reckon_194 : decode prog_11_method_62_code 194 = .ok (.iload_n 1, 1) := by decide +kernel
theorem d_Mo_reckon_195 : decode prog_11_method_62_code 195 = .ok (.iload 6, 2) := by decide +kernel
theorem d_Mo_reckon_197 : decode prog_11_method_62_code 197 = .ok (.iload_n 3, 1) := by decide +kernel
theorem d_Mo_reckon_198 : decode prog_11_method_62_code 198 = .ok (.iload_n 2, 1) := by decide +kernel
theorem d_Mo_reckon_199 : decode prog_11_method_62_code 199 = .ok (.invokevirtual 266, 3) := by decide +kernel
theorem d_Mo_reckon_202 : decode prog_11_method_62_code 202 = .ok (.ladd, 1) := by decide +kernel
theorem d_Mo_reckon_203 : decode prog_11_method_62_code 203 = .ok (.lstore 4, 2) := by decide +kernel
theorem d_Mo_reckon_205 : decode prog_11_method_62_code 205 = .ok (.iinc 6 1, 3) := by decide +kernel
theorem d_Mo_reckon_208 : decode prog_11_method_62_code 208 = .ok (.goto (-44), 3) := by decide +kernel
theorem d_Mo_reckon_211 : decode prog_11_method_62_code 211 = .ok (.aload_n 0, 1) := by decide +kernel
theorem d_Mo_reckon_212 : decode prog_11_method_62_code 212 = .ok (.getfield 85, 3) := by decide +kernel
theorem d_Mo_reckon_215 : decode prog_11_method_62_code 215 = .ok (.bipush 11, 2) := by decide +kernel
theorem d_Mo_reckon_217 : decode prog_11_method_62_code 217 = .ok (.iload_n 1, 1) := by decide +kernel
theorem d_Mo_reckon_218 : decode prog_11_method_62_code 218 = .ok (.imul, 1) := by decide +kernel
theorem d_Mo_reckon_219 : decode prog_11_method_62_code 219 = .ok (.iload_n 3, 1) := by decide +kernel
theorem d_Mo_reckon_220 : decode prog_11_method_62_code 220 = .ok (.iadd, 1) := by decide +kernel
theorem d_Mo_reckon_221 : decode prog_11_method_62_code 221 = .ok (.lload 4, 2) := by decide +kernel
theorem d_Mo_reckon_223 : decode prog_11_method_62_code 223 = .ok (.lastore, 1) := by decide +kernel
theorem d_Mo_reckon_224 : decode prog_11_method_62_code 224 = .ok (.iinc 3 1, 3) := by decide +kernel
theorem d_Mo_reckon_227 : decode prog_11_method_62_code 227 = .ok (.goto (-218), 3) := by decide +kernel
theorem d_Mo_reckon_230 : decode prog_11_method_62_code 230 = .ok (.return_, 1) := by decide +kernel
theorem d_Mo_goes_0 : decode prog_11_method_63_code 0 = .ok (.lconst 1, 1) := by decide +kernel
theorem d_Mo_goes_1 : decode prog_11_method_63_code 1 = .ok (.lstore 5, 2) := by decide +kernel
theorem d_Mo_goes_3 : decode prog_11_method_63_code 3 = .ok (.iconst 0, 1) := by decide +kernel
theorem d_Mo_goes_4 : decode prog_11_method_63_code 4 = .ok (.istore 7, 2) := by decide +kernel
theorem d_Mo_goes_6 : decode prog_11_method_63_code 6 = .ok (.iconst 1, 1) := by decide +kernel
theorem d_Mo_goes_7 : decode prog_11_method_63_code 7 = .ok (.istore 8, 2) := by decide +kernel
theorem d_Mo_goes_9 : decode prog_11_method_63_code 9 = .ok (.iload 8, 2) := by decide +kernel
theorem d_Mo_goes_11 : decode prog_11_method_63_code 11 = .ok (.bipush 6, 2) := by decide +kernel
theorem d_Mo_goes_13 : decode prog_11_method_63_code 13 = .ok (.if_icmp .ge 128, 3) := by decide +kernel
theorem d_Mo_goes_16 : decode prog_11_method_63_code 16 = .ok (.aload_n 0, 1) := by decide +kernel
theorem d_Mo_goes_17 : decode prog_11_method_63_code 17 = .ok (.getfield 82, 3) := by decide +kernel
theorem d_Mo_goes_20 : decode prog_11_method_63_code 20 = .ok (.bipush 12, 2) := by decide +kernel
theorem d_Mo_goes_22 : decode prog_11_method_63_code 22 = .ok (.iload_n 1, 1) := by decide +kernel
theorem d_Mo_goes_23 : decode prog_11_method_63_code 23 = .ok (.imul, 1) := by decide +kernel
theorem d_Mo_goes_24 : decode prog_11_method_63_code 24 = .ok (.iload 8, 2) := by decide +kernel
theorem d_Mo_goes_26 : decode prog_11_method_63_code 26 = .ok (.iadd, 1) := by decide +kernel
theorem d_Mo_goes_27 : decode prog_11_method_63_code 27 = .ok (.iaload, 1) := by decide +kernel
theorem d_Mo_goes_28 : decode prog_11_method_63_code 28 = .ok (.istore 9, 2) := by decide +kernel
theorem d_Mo_goes_30 : decode prog_11_method_63_code 30 = .ok (.aload_n 0, 1) := by decide +kernel
theorem d_Mo_goes_31 : decode prog_11_method_63_code 31 = .ok (.getfield 82, 3) := by decide +kernel
theorem d_Mo_goes_34 : decode prog_11_method_63_code 34 = .ok (.bipush 12, 2) := by decide +kernel
theorem d_Mo_goes_36 : decode prog_11_method_63_code 36 = .ok (.iload_n 2, 1) := by decide +kernel
theorem d_Mo_goes_37 : decode prog_11_method_63_code 37 = .ok (.imul, 1) := by decide +kernel
theorem d_Mo_goes_38 : decode prog_11_method_63_code 38 = .ok (.iload 8, 2) := by decide +kernel
theorem d_Mo_goes_40 : decode prog_11_method_63_code 40 = .ok (.iadd, 1) := by decide +kernel
theorem d_Mo_goes_41 : decode prog_11_method_63_code 41 = .ok (.iaload, 1) := by decide +kernel
theorem d_Mo_goes_42 : decode prog_11_method_63_code 42 = .ok (.istore 10, 2) := by decide +kernel
theorem d_Mo_goes_44 : decode prog_11_method_63_code 44 = .ok (.aload_n 0, 1) := by decide +kernel
theorem d_Mo_goes_45 : decode prog_11_method_63_code 45 = .ok (.getfield 82, 3) := by decide +kernel
theorem d_Mo_goes_48 : decode prog_11_method_63_code 48 = .ok (.bipush 12, 2) := by decide +kernel
theorem d_Mo_goes_50 : decode prog_11_method_63_code 50 = .ok (.iload_n 1, 1) := by decide +kernel
theorem d_Mo_goes_51 : decode prog_11_method_63_code 51 = .ok (.imul, 1) := by decide +kernel
theorem d_Mo_goes_52 : decode prog_11_method_63_code 52 = .ok (.bipush 6, 2) := by decide +kernel
theorem d_Mo_goes_54 : decode prog_11_method_63_code 54 = .ok (.iadd, 1) := by decide +kernel
theorem d_Mo_goes_55 : decode prog_11_method_63_code 55 = .ok (.iload 8, 2) := by decide +kernel
theorem d_Mo_goes_57 : decode prog_11_method_63_code 57 = .ok (.iadd, 1) := by decide +kernel
theorem d_Mo_goes_58 : decode prog_11_method_63_code 58 = .ok (.iaload, 1) := by decide +kernel
theorem d_Mo_goes_59 : decode prog_11_method_63_code 59 = .ok (.istore 11, 2) := by decide +kernel
theorem d_Mo_goes_61 : decode prog_11_method_63_code 61 = .ok (.aload_n 0, 1) := by decide +kernel
theorem d_Mo_goes_62 : decode prog_11_method_63_code 62 = .ok (.getfield 82, 3) := by decide +kernel
theorem d_Mo_goes_65 : decode prog_11_method_63_code 65 = .ok (.bipush 12, 2) := by decide +kernel
theorem d_Mo_goes_67 : decode prog_11_method_63_code 67 = .ok (.iload_n 2, 1) := by decide +kernel
theorem d_Mo_goes_68 : decode prog_11_method_63_code 68 = .ok (.imul, 1) := by decide +kernel
theorem d_Mo_goes_69 : decode prog_11_method_63_code 69 = .ok (.bipush 6, 2) := by decide +kernel
theorem d_Mo_goes_71 : decode prog_11_method_63_code 71 = .ok (.iadd, 1) := by decide +kernel
theorem d_Mo_goes_72 : decode prog_11_method_63_code 72 = .ok (.iload 8, 2) := by decide +kernel
theorem d_Mo_goes_74 : decode prog_11_method_63_code 74 = .ok (.iadd, 1) := by decide +kernel
theorem d_Mo_goes_75 : decode prog_11_method_63_code 75 = .ok (.iaload, 1) := by decide +kernel
theorem d_Mo_goes_76 : decode prog_11_method_63_code 76 = .ok (.istore 12, 2) := by decide +kernel
theorem d_Mo_goes_78 : decode prog_11_method_63_code 78 = .ok (.iload 10, 2) := by decide +kernel
theorem d_Mo_goes_80 : decode prog_11_method_63_code 80 = .ok (.iload 9, 2) := by decide +kernel
theorem d_Mo_goes_82 : decode prog_11_method_63_code 82 = .ok (.if_icmp .gt 10, 3) := by decide +kernel
theorem d_Mo_goes_85 : decode prog_11_method_63_code 85 = .ok (.iload 12, 2) := by decide +kernel
theorem d_Mo_goes_87 : decode prog_11_method_63_code 87 = .ok (.iload 11, 2) := by decide +kernel
theorem d_Mo_goes_89 : decode prog_11_method_63_code 89 = .ok (.if_icmp .ge 5, 3) := by decide +kernel
theorem d_Mo_goes_92 : decode prog_11_method_63_code 92 = .ok (.lconst 0, 1) := by decide +kernel
theorem d_Mo_goes_93 : decode prog_11_method_63_code 93 = .ok (.lreturn, 1) := by decide +kernel
theorem d_Mo_goes_94 : decode prog_11_method_63_code 94 = .ok (.iload 7, 2) := by decide +kernel
theorem d_Mo_goes_96 : decode prog_11_method_63_code 96 = .ok (.iload 12, 2) := by decide +kernel
theorem d_Mo_goes_98 : decode prog_11_method_63_code 98 = .ok (.iload 11, 2) := by decide +kernel
theorem d_Mo_goes_100 : decode prog_11_method_63_code 100 = .ok (.isub, 1) := by decide +kernel
theorem d_Mo_goes_101 : decode prog_11_method_63_code 101 = .ok (.iadd, 1) := by decide +kernel
theorem d_Mo_goes_102 : decode prog_11_method_63_code 102 = .ok (.istore 7, 2) := by decide +kernel
theorem d_Mo_goes_104 : decode prog_11_method_63_code 104 = .ok (.lload 5, 2) := by decide +kernel
theorem d_Mo_goes_106 : decode prog_11_method_63_code 106 = .ok (.iload 8, 2) := by decide +kernel
theorem d_Mo_goes_108 : decode prog_11_method_63_code 108 = .ok (.iload 12, 2) := by decide +kernel
theorem d_Mo_goes_110 : decode prog_11_method_63_code 110 = .ok (.iload 11, 2) := by decide +kernel
theorem d_Mo_goes_112 : decode prog_11_method_63_code 112 = .ok (.isub, 1) := by decide +kernel
theorem d_Mo_goes_113 : decode prog_11_method_63_code 113 = .ok (.invokestatic 270, 3) := by decide +kernel
theorem d_Mo_goes_116 : decode prog_11_method_63_code 116 = .ok (.iload 9, 2) := by decide +kernel
theorem d_Mo_goes_118 : decode prog_11_method_63_code 118 = .ok (.iload 10, 2) := by decide +kernel
theorem d_Mo_goes_120 : decode prog_11_method_63_code 120 = .ok (.invokestatic 274, 3) := by decide +kernel
theorem d_Mo_goes_123 : decode prog_11_method_63_code 123 = .ok (.lmul, 1) := by decide +kernel
theorem d_Mo_goes_124 : decode prog_11_method_63_code 124 = .ok (.iload 12, 2) := by decide +kernel
theorem d_Mo_goes_126 : decode prog_11_method_63_code 126 = .ok (.iload 11, 2) := by decide +kernel
theorem d_Mo_goes_128 : decode prog_11_method_63_code 128 = .ok (.invokestatic 274, 3) := by decide +kernel
theorem d_Mo_goes_131 : decode prog_11_method_63_code 131 = .ok (.lmul, 1) := by decide +kernel
theorem d_Mo_goes_132 : decode prog_11_method_63_code 132 = .ok (.lmul, 1) := by decide +kernel
theorem d_Mo_goes_133 : decode prog_11_method_63_code 133 = .ok (.lstore 5, 2) := by decide +kernel
theorem d_Mo_goes_135 : decode prog_11_method_63_code 135 = .ok (.iinc 8 1, 3) := by decide +kernel
theorem d_Mo_goes_138 : decode prog_11_method_63_code 138 = .ok (.goto (-129), 3) := by decide +kernel
theorem d_Mo_goes_141 : decode prog_11_method_63_code 141 = .ok (.iload_n 3, 1) := by decide +kernel
theorem d_Mo_goes_142 : decode prog_11_method_63_code 142 = .ok (.iload 4, 2) := by decide +kernel
theorem d_Mo_goes_144 : decode prog_11_method_63_code 144 = .ok (.iconst 1, 1) := by decide +kernel
theorem d_Mo_goes_145 : decode prog_11_method_63_code 145 = .ok (.isub, 1) := by decide +kernel
theorem d_Mo_goes_146 : decode prog_11_method_63_code 146 = .ok (.isub, 1) := by decide +kernel
theorem d_Mo_goes_147 : decode prog_11_method_63_code 147 = .ok (.iload 7, 2) := by decide +kernel
theorem d_Mo_goes_149 : decode prog_11_method_63_code 149 = .ok (.iadd, 1) := by decide +kernel
theorem d_Mo_goes_150 : decode prog_11_method_63_code 150 = .ok (.istore 8, 2) := by decide +kernel
theorem d_Mo_goes_152 : decode prog_11_method_63_code 152 = .ok (.iload 8, 2) := by decide +kernel
theorem d_Mo_goes_154 : decode prog_11_method_63_code 154 = .ok (.i2l, 1) := by decide +kernel
theorem d_Mo_goes_155 : decode prog_11_method_63_code 155 = .ok (.lconst 0, 1) := by decide +kernel
theorem d_Mo_goes_156 : decode prog_11_method_63_code 156 = .ok (.ldc2_w 277, 3) := by decide +kernel
theorem d_Mo_goes_159 : decode prog_11_method_63_code 159 = .ok (.invokestatic 107, 3) := by decide +kernel
theorem d_Mo_goes_162 : decode prog_11_method_63_code 162 = .ok (.ifCond .eq 21, 3) := by decide +kernel
theorem d_Mo_goes_165 : decode prog_11_method_63_code 165 = .ok (.lload 5, 2) := by decide +kernel
theorem d_Mo_goes_167 : decode prog_11_method_63_code 167 = .ok (.aload_n 0, 1) := by decide +kernel
theorem d_Mo_goes_168 : decode prog_11_method_63_code 168 = .ok (.getfield 85, 3) := by decide +kernel
theorem d_Mo_goes_171 : decode prog_11_method_63_code 171 = .ok (.bipush 11, 2) := by decide +kernel
theorem d_Mo_goes_173 : decode prog_11_method_63_code 173 = .ok (.iload_n 2, 1) := by decide +kernel
theorem d_Mo_goes_174 : decode prog_11_method_63_code 174 = .ok (.imul, 1) := by decide +kernel
theorem d_Mo_goes_175 : decode prog_11_method_63_code 175 = .ok (.iload 8, 2) := by decide +kernel
theorem d_Mo_goes_177 : decode prog_11_method_63_code 177 = .ok (.iadd, 1) := by decide +kernel
theorem d_Mo_goes_178 : decode prog_11_method_63_code 178 = .ok (.laload, 1) := by decide +kernel
theorem d_Mo_goes_179 : decode prog_11_method_63_code 179 = .ok (.lmul, 1) := by decide +kernel
theorem d_Mo_goes_180 : decode prog_11_method_63_code 180 = .ok (.goto 4, 3) := by decide +kernel
theorem d_Mo_goes_183 : decode prog_11_method_63_code 183 = .ok (.lconst 0, 1) := by decide +kernel
theorem d_Mo_goes_184 : decode prog_11_method_63_code 184 = .ok (.lreturn, 1) := by decide +kernel
theorem d_Mo_layWorths_0 : decode prog_11_method_64_code 0 = .ok (.aload_n 0, 1) := by decide +kernel
theorem d_Mo_layWorths_1 : decode prog_11_method_64_code 1 = .ok (.getfield 279, 3) := by decide +kernel
theorem d_Mo_layWorths_4 : decode prog_11_method_64_code 4 = .ok (.ifCond .eq 4, 3) := by decide +kernel
theorem d_Mo_layWorths_7 : decode prog_11_method_64_code 7 = .ok (.return_, 1) := by decide +kernel
theorem d_Mo_layWorths_8 : decode prog_11_method_64_code 8 = .ok (.aload_n 0, 1) := by decide +kernel
theorem d_Mo_layWorths_9 : decode prog_11_method_64_code 9 = .ok (.iconst 1, 1) := by decide +kernel
theorem d_Mo_layWorths_10 : decode prog_11_method_64_code 10 = .ok (.putfield 279, 3) := by decide +kernel
theorem d_Mo_layWorths_13 : decode prog_11_method_64_code 13 = .ok (.aload_n 0, 1) := by decide +kernel
theorem d_Mo_layWorths_14 : decode prog_11_method_64_code 14 = .ok (.invokevirtual 282, 3) := by decide +kernel
theorem d_Mo_layWorths_17 : decode prog_11_method_64_code 17 = .ok (.iconst 1, 1) := by decide +kernel
theorem d_Mo_layWorths_18 : decode prog_11_method_64_code 18 = .ok (.istore_n 1, 1) := by decide +kernel
theorem d_Mo_layWorths_19 : decode prog_11_method_64_code 19 = .ok (.iload_n 1, 1) := by decide +kernel
theorem d_Mo_layWorths_20 : decode prog_11_method_64_code 20 = .ok (.bipush 6, 2) := by decide +kernel
theorem d_Mo_layWorths_22 : decode prog_11_method_64_code 22 = .ok (.if_icmp .ge 64, 3) := by decide +kernel
theorem d_Mo_layWorths_25 : decode prog_11_method_64_code 25 = .ok (.iconst 0, 1) := by decide +kernel
theorem d_Mo_layWorths_26 : decode prog_11_method_64_code 26 = .ok (.istore_n 2, 1) := by decide +kernel
theorem d_Mo_layWorths_27 : decode prog_11_method_64_code 27 = .ok (.iload_n 2, 1) := by decide +kernel
theorem d_Mo_layWorths_28 : decode prog_11_method_64_code 28 = .ok (.bipush 6, 2) := by decide +kernel
theorem d_Mo_layWorths_30 : decode prog_11_method_64_code 30 = .ok (.if_icmp .ge 50, 3) := by decide +kernel
theorem d_Mo_layWorths_33 : decode prog_11_method_64_code 33 = .ok (.iconst 0, 1) := by decide +kernel
theorem d_Mo_layWorths_34 : decode prog_11_method_64_code 34 = .ok (.istore_n 3, 1) := by decide +kernel
theorem d_Mo_layWorths_35 : decode prog_11_method_64_code 35 = .ok (.iload_n 3, 1) := by decide +kernel
theorem d_Mo_layWorths_36 : decode prog_11_method_64_code 36 = .ok (.aload_n 0, 1) := by decide +kernel
theorem d_Mo_layWorths_37 : decode prog_11_method_64_code 37 = .ok (.getfield 256, 3) := by decide +kernel
theorem d_Mo_layWorths_40 : decode prog_11_method_64_code 40 = .ok (.if_icmp .ge 34, 3) := by decide +kernel
theorem d_Mo_layWorths_43 : decode prog_11_method_64_code 43 = .ok (.aload_n 0, 1) := by decide +kernel
theorem d_Mo_layWorths_44 : decode prog_11_method_64_code 44 = .ok (.getfield 76, 3) := by decide +kernel
theorem d_Mo_layWorths_47 : decode prog_11_method_64_code 47 = .ok (.iload_n 3, 1) := by decide +kernel
theorem d_Mo_layWorths_48 : decode prog_11_method_64_code 48 = .ok (.iaload, 1) := by decide +kernel
theorem d_Mo_layWorths_49 : decode prog_11_method_64_code 49 = .ok (.iload_n 1, 1) := by decide +kernel
theorem d_Mo_layWorths_50 : decode prog_11_method_64_code 50 = .ok (.if_icmp .ne 18, 3) := by decide +kernel
theorem d_Mo_layWorths_53 : decode prog_11_method_64_code 53 = .ok (.aload_n 0, 1) := by decide +kernel
theorem d_Mo_layWorths_54 : decode prog_11_method_64_code 54 = .ok (.getfield 79, 3) := by decide +kernel
theorem d_Mo_layWorths_57 : decode prog_11_method_64_code 57 = .ok (.iload_n 3, 1) := by decide +kernel
theorem d_Mo_layWorths_58 : decode prog_11_method_64_code 58 = .ok (.iaload, 1) := by decide +kernel
theorem d_Mo_layWorths_59 : decode prog_11_method_64_code 59 = .ok (.iload_n 2, 1) := by decide +kernel
theorem d_Mo_layWorths_60 : decode prog_11_method_64_code 60 = .ok (.if_icmp .ne 8, 3) := by decide +kernel
theorem d_Mo_layWorths_63 : decode prog_11_method_64_code 63 = .ok (.aload_n 0, 1) := by decide +kernel
theorem d_Mo_layWorths_64 : decode prog_11_method_64_code 64 = .ok (.iload_n 3, 1) := by decide +kernel
theorem d_Mo_layWorths_65 : decode prog_11_method_64_code 65 = .ok (.invokevirtual 285, 3) := by decide +kernel
theorem d_Mo_layWorths_68 : decode prog_11_method_64_code 68 = .ok (.iinc 3 1, 3) := by decide +kernel
theorem d_Mo_layWorths_71 : decode prog_11_method_64_code 71 = .ok (.goto (-36), 3) := by decide +kernel
theorem d_Mo_layWorths_74 : decode prog_11_method_64_code 74 = .ok (.iinc 2 1, 3) := by decide +kernel
theorem d_Mo_layWorths_77 : decode prog_11_method_64_code 77 = .ok (.goto (-50), 3) := by decide +kernel
theorem d_Mo_layWorths_80 : decode prog_11_method_64_code 80 = .ok (.iinc 1 1, 3) := by decide +kernel
theorem d_Mo_layWorths_83 : decode prog_11_method_64_code 83 = .ok (.goto (-64), 3) := by decide +kernel
theorem d_Mo_layWorths_86 : decode prog_11_method_64_code 86 = .ok (.return_, 1) := by decide +kernel
theorem d_Mo_tangent_0 : decode prog_11_method_65_code 0 = .ok (.iload_n 1, 1) := by decide +kernel
theorem d_Mo_tangent_1 : decode prog_11_method_65_code 1 = .ok (.i2l, 1) := by decide +kernel
theorem d_Mo_tangent_2 : decode prog_11_method_65_code 2 = .ok (.lconst 0, 1) := by decide +kernel
theorem d_Mo_tangent_3 : decode prog_11_method_65_code 3 = .ok (.ldc2_w 277, 3) := by decide +kernel
theorem d_Mo_tangent_6 : decode prog_11_method_65_code 6 = .ok (.invokestatic 107, 3) := by decide +kernel
theorem d_Mo_tangent_9 : decode prog_11_method_65_code 9 = .ok (.ifCond .ne 7, 3) := by decide +kernel
theorem d_Mo_tangent_12 : decode prog_11_method_65_code 12 = .ok (.ldc2_w 154, 3) := by decide +kernel
theorem d_Mo_tangent_15 : decode prog_11_method_65_code 15 = .ok (.lreturn, 1) := by decide +kernel
theorem d_Mo_tangent_16 : decode prog_11_method_65_code 16 = .ok (.aload_n 0, 1) := by decide +kernel
theorem d_Mo_tangent_17 : decode prog_11_method_65_code 17 = .ok (.getfield 252, 3) := by decide +kernel
theorem d_Mo_tangent_20 : decode prog_11_method_65_code 20 = .ok (.ifCond .ne 7, 3) := by decide +kernel
theorem d_Mo_tangent_23 : decode prog_11_method_65_code 23 = .ok (.ldc2_w 188, 3) := by decide +kernel
theorem d_Mo_tangent_26 : decode prog_11_method_65_code 26 = .ok (.lreturn, 1) := by decide +kernel
theorem d_Mo_tangent_27 : decode prog_11_method_65_code 27 = .ok (.aload_n 0, 1) := by decide +kernel
theorem d_Mo_tangent_28 : decode prog_11_method_65_code 28 = .ok (.invokevirtual 288, 3) := by decide +kernel
theorem d_Mo_tangent_31 : decode prog_11_method_65_code 31 = .ok (.aload_n 0, 1) := by decide +kernel
theorem d_Mo_tangent_32 : decode prog_11_method_65_code 32 = .ok (.getfield 85, 3) := by decide +kernel
theorem d_Mo_tangent_35 : decode prog_11_method_65_code 35 = .ok (.bipush 11, 2) := by decide +kernel
theorem d_Mo_tangent_37 : decode prog_11_method_65_code 37 = .ok (.aload_n 0, 1) := by decide +kernel
theorem d_Mo_tangent_38 : decode prog_11_method_65_code 38 = .ok (.aload_n 0, 1) := by decide +kernel
theorem d_Mo_tangent_39 : decode prog_11_method_65_code 39 = .ok (.getfield 70, 3) := by decide +kernel
theorem d_Mo_tangent_42 : decode prog_11_method_65_code 42 = .ok (.iconst 0, 1) := by decide +kernel
theorem d_Mo_tangent_43 : decode prog_11_method_65_code 43 = .ok (.invokevirtual 263, 3) := by decide +kernel
theorem d_Mo_tangent_46 : decode prog_11_method_65_code 46 = .ok (.imul, 1) := by decide +kernel
theorem d_Mo_tangent_47 : decode prog_11_method_65_code 47 = .ok (.iload_n 1, 1) := by decide +kernel
theorem d_Mo_tangent_48 : decode prog_11_method_65_code 48 = .ok (.iadd, 1) := by decide +kernel
theorem d_Mo_tangent_49 : decode prog_11_method_65_code 49 = .ok (.laload, 1) := by decide +kernel
theorem d_Mo_tangent_50 : decode prog_11_method_65_code 50 = .ok (.lreturn, 1) := by decide +kernel
theorem d_Mo_has_0 : decode prog_11_method_66_code 0 = .ok (.iload_n 1, 1) := by decide +kernel
theorem d_Mo_has_1 : decode prog_11_method_66_code 1 = .ok (.i2l, 1) := by decide +kernel
theorem d_Mo_has_2 : decode prog_11_method_66_code 2 = .ok (.lconst 0, 1) := by decide +kernel
theorem d_Mo_has_3 : decode prog_11_method_66_code 3 = .ok (.lconst 1, 1) := by decide +kernel
theorem d_Mo_has_4 : decode prog_11_method_66_code 4 = .ok (.invokestatic 107, 3) := by decide +kernel
theorem d_Mo_has_7 : decode prog_11_method_66_code 7 = .ok (.ifCond .eq 15, 3) := by decide +kernel
theorem d_Mo_has_10 : decode prog_11_method_66_code 10 = .ok (.iload_n 2, 1) := by decide +kernel
theorem d_Mo_has_11 : decode prog_11_method_66_code 11 = .ok (.i2l, 1) := by decide +kernel
theorem d_Mo_has_12 : decode prog_11_method_66_code 12 = .ok (.lconst 1, 1) := by decide +kernel
theorem d_Mo_has_13 : decode prog_11_method_66_code 13 = .ok (.ldc2_w 291, 3) := by decide +kernel
theorem d_Mo_has_16 : decode prog_11_method_66_code 16 = .ok (.invokestatic 107, 3) := by decide +kernel
theorem d_Mo_has_19 : decode prog_11_method_66_code 19 = .ok (.ifCond .ne 5, 3) := by decide +kernel
theorem d_Mo_has_22 : decode prog_11_method_66_code 22 = .ok (.iconst (-1), 1) := by decide +kernel
theorem d_Mo_has_23 : decode prog_11_method_66_code 23 = .ok (.ireturn, 1) := by decide +kernel
theorem d_Mo_has_24 : decode prog_11_method_66_code 24 = .ok (.aload_n 0, 1) := by decide +kernel
theorem d_Mo_has_25 : decode prog_11_method_66_code 25 = .ok (.getfield 252, 3) := by decide +kernel
theorem d_Mo_has_28 : decode prog_11_method_66_code 28 = .ok (.ifCond .eq 17, 3) := by decide +kernel
theorem d_Mo_has_31 : decode prog_11_method_66_code 31 = .ok (.aload_n 0, 1) := by decide +kernel
theorem d_Mo_has_32 : decode prog_11_method_66_code 32 = .ok (.getfield 70, 3) := by decide +kernel
theorem d_Mo_has_35 : decode prog_11_method_66_code 35 = .ok (.bipush 6, 2) := by decide +kernel
theorem d_Mo_has_37 : decode prog_11_method_66_code 37 = .ok (.iload_n 1, 1) := by decide +kernel
theorem d_Mo_has_38 : decode prog_11_method_66_code 38 = .ok (.imul, 1) := by decide +kernel
theorem d_Mo_has_39 : decode prog_11_method_66_code 39 = .ok (.iload_n 2, 1) := by decide +kernel
theorem d_Mo_has_40 : decode prog_11_method_66_code 40 = .ok (.iadd, 1) := by decide +kernel
theorem d_Mo_has_41 : decode prog_11_method_66_code 41 = .ok (.iaload, 1) := by decide +kernel
theorem d_Mo_has_42 : decode prog_11_method_66_code 42 = .ok (.goto 5, 3) := by decide +kernel
theorem d_Mo_has_45 : decode prog_11_method_66_code 45 = .ok (.bipush (-2), 2) := by decide +kernel
theorem d_Mo_has_47 : decode prog_11_method_66_code 47 = .ok (.ireturn, 1) := by decide +kernel
theorem d_Mo_rational_0 : decode prog_11_method_67_code 0 = .ok (.iload_n 1, 1) := by decide +kernel
theorem d_Mo_rational_1 : decode prog_11_method_67_code 1 = .ok (.i2l, 1) := by decide +kernel
theorem d_Mo_rational_2 : decode prog_11_method_67_code 2 = .ok (.lconst 1, 1) := by decide +kernel
theorem d_Mo_rational_3 : decode prog_11_method_67_code 3 = .ok (.ldc2_w 293, 3) := by decide +kernel
theorem d_Mo_rational_6 : decode prog_11_method_67_code 6 = .ok (.invokestatic 107, 3) := by decide +kernel
theorem d_Mo_rational_9 : decode prog_11_method_67_code 9 = .ok (.ifCond .ne 7, 3) := by decide +kernel
theorem d_Mo_rational_12 : decode prog_11_method_67_code 12 = .ok (.ldc2_w 154, 3) := by decide +kernel
theorem d_Mo_rational_15 : decode prog_11_method_67_code 15 = .ok (.lreturn, 1) := by decide +kernel
theorem d_Mo_rational_16 : decode prog_11_method_67_code 16 = .ok (.aload_n 0, 1) := by decide +kernel
theorem d_Mo_rational_17 : decode prog_11_method_67_code 17 = .ok (.getfield 91, 3) := by decide +kernel
theorem d_Mo_rational_20 : decode prog_11_method_67_code 20 = .ok (.astore_n 2, 1) := by decide +kernel
theorem d_Mo_rational_21 : decode prog_11_method_67_code 21 = .ok (.aload_n 2, 1) := by decide +kernel
theorem d_Mo_rational_22 : decode prog_11_method_67_code 22 = .ok (.iconst 1, 1) := by decide +kernel
theorem d_Mo_rational_23 : decode prog_11_method_67_code 23 = .ok (.lconst 1, 1) := by decide +kernel
theorem d_Mo_rational_24 : decode prog_11_method_67_code 24 = .ok (.lastore, 1) := by decide +kernel
theorem d_Mo_rational_25 : decode prog_11_method_67_code 25 = .ok (.iconst 2, 1) := by decide +kernel
theorem d_Mo_rational_26 : decode prog_11_method_67_code 26 = .ok (.istore_n 3, 1) := by decide +kernel
theorem d_Mo_rational_27 : decode prog_11_method_67_code 27 = .ok (.iload_n 3, 1) := by decide +kernel
theorem d_Mo_rational_28 : decode prog_11_method_67_code 28 = .ok (.iload_n 1, 1) := by decide +kernel
theorem d_Mo_rational_29 : decode prog_11_method_67_code 29 = .ok (.if_icmp .gt 99, 3) := by decide +kernel
theorem d_Mo_rational_32 : decode prog_11_method_67_code 32 = .ok (.aload_n 2, 1) := by decide +kernel
theorem d_Mo_rational_33 : decode prog_11_method_67_code 33 = .ok (.iload_n 3, 1) := by decide +kernel
theorem d_Mo_rational_34 : decode prog_11_method_67_code 34 = .ok (.lconst 0, 1) := by decide +kernel
theorem d_Mo_rational_35 : decode prog_11_method_67_code 35 = .ok (.lastore, 1) := by decide +kernel
theorem d_Mo_rational_36 : decode prog_11_method_67_code 36 = .ok (.iconst 1, 1) := by decide +kernel
theorem d_Mo_rational_37 : decode prog_11_method_67_code 37 = .ok (.istore 4, 2) := by decide +kernel
theorem d_Mo_rational_39 : decode prog_11_method_67_code 39 = .ok (.iload 4, 2) := by decide +kernel
theorem d_Mo_rational_41 : decode prog_11_method_67_code 41 = .ok (.iload_n 3, 1) := by decide +kernel
theorem d_Mo_rational_42 : decode prog_11_method_67_code 42 = .ok (.if_icmp .ge 80, 3) := by decide +kernel
theorem d_Mo_rational_45 : decode prog_11_method_67_code 45 = .ok (.iload_n 3, 1) := by decide +kernel
theorem d_Mo_rational_46 : decode prog_11_method_67_code 46 = .ok (.iload 4, 2) := by decide +kernel
theorem d_Mo_rational_48 : decode prog_11_method_67_code 48 = .ok (.isub, 1) := by decide +kernel
theorem d_Mo_rational_49 : decode prog_11_method_67_code 49 = .ok (.istore 5, 2) := by decide +kernel
theorem d_Mo_rational_51 : decode prog_11_method_67_code 51 = .ok (.aload_n 2, 1) := by decide +kernel
theorem d_Mo_rational_52 : decode prog_11_method_67_code 52 = .ok (.iload_n 3, 1) := by decide +kernel
theorem d_Mo_rational_53 : decode prog_11_method_67_code 53 = .ok (.dup2, 1) := by decide +kernel
theorem d_Mo_rational_54 : decode prog_11_method_67_code 54 = .ok (.laload, 1) := by decide +kernel
theorem d_Mo_rational_55 : decode prog_11_method_67_code 55 = .ok (.aload_n 2, 1) := by decide +kernel
theorem d_Mo_rational_56 : decode prog_11_method_67_code 56 = .ok (.iload 4, 2) := by decide +kernel
theorem d_Mo_rational_58 : decode prog_11_method_67_code 58 = .ok (.laload, 1) := by decide +kernel
theorem d_Mo_rational_59 : decode prog_11_method_67_code 59 = .ok (.aload_n 2, 1) := by decide +kernel
theorem d_Mo_rational_60 : decode prog_11_method_67_code 60 = .ok (.iload 5, 2) := by decide +kernel
theorem d_Mo_rational_62 : decode prog_11_method_67_code 62 = .ok (.laload, 1) := by decide +kernel
theorem d_Mo_rational_63 : decode prog_11_method_67_code 63 = .ok (.lmul, 1) := by decide +kernel
theorem d_Mo_rational_64 : decode prog_11_method_67_code 64 = .ok (.iload 4, 2) := by decide +kernel
theorem d_Mo_rational_66 : decode prog_11_method_67_code 66 = .ok (.i2l, 1) := by decide +kernel
theorem d_Mo_rational_67 : decode prog_11_method_67_code 67 = .ok (.lmul, 1) := by decide +kernel
theorem d_Mo_rational_68 : decode prog_11_method_67_code 68 = .ok (.iload 4, 2) := by decide +kernel
theorem d_Mo_rational_70 : decode prog_11_method_67_code 70 = .ok (.i2l, 1) := by decide +kernel
theorem d_Mo_rational_71 : decode prog_11_method_67_code 71 = .ok (.lmul, 1) := by decide +kernel
theorem d_Mo_rational_72 : decode prog_11_method_67_code 72 = .ok (.iload 5, 2) := by decide +kernel
theorem d_Mo_rational_74 : decode prog_11_method_67_code 74 = .ok (.i2l, 1) := by decide +kernel
theorem d_Mo_rational_75 : decode prog_11_method_67_code 75 = .ok (.lmul, 1) := by decide +kernel
theorem d_Mo_rational_76 : decode prog_11_method_67_code 76 = .ok (.iload 5, 2) := by decide +kernel
theorem d_Mo_rational_78 : decode prog_11_method_67_code 78 = .ok (.i2l, 1) := by decide +kernel
theorem d_Mo_rational_79 : decode prog_11_method_67_code 79 = .ok (.iconst 3, 1) := by decide +kernel
theorem d_Mo_rational_80 : decode prog_11_method_67_code 80 = .ok (.iload_n 3, 1) := by decide +kernel
theorem d_Mo_rational_81 : decode prog_11_method_67_code 81 = .ok (.imul, 1) := by decide +kernel
theorem d_Mo_rational_82 : decode prog_11_method_67_code 82 = .ok (.iconst 4, 1) := by decide +kernel
theorem d_Mo_rational_83 : decode prog_11_method_67_code 83 = .ok (.isub, 1) := by decide +kernel
theorem d_Mo_rational_84 : decode prog_11_method_67_code 84 = .ok (.iconst 3, 1) := by decide +kernel
theorem d_Mo_rational_85 : decode prog_11_method_67_code 85 = .ok (.iload 4, 2) := by decide +kernel
theorem d_Mo_rational_87 : decode prog_11_method_67_code 87 = .ok (.imul, 1) := by decide +kernel
theorem d_Mo_rational_88 : decode prog_11_method_67_code 88 = .ok (.iconst 2, 1) := by decide +kernel
theorem d_Mo_rational_89 : decode prog_11_method_67_code 89 = .ok (.isub, 1) := by decide +kernel
theorem d_Mo_rational_90 : decode prog_11_method_67_code 90 = .ok (.invokestatic 274, 3) := by decide +kernel
theorem d_Mo_rational_93 : decode prog_11_method_67_code 93 = .ok (.lmul, 1) := by decide +kernel
theorem d_Mo_rational_94 : decode prog_11_method_67_code 94 = .ok (.iload 4, 2) := by decide +kernel
theorem d_Mo_rational_96 : decode prog_11_method_67_code 96 = .ok (.i2l, 1) := by decide +kernel
theorem d_Mo_rational_97 : decode prog_11_method_67_code 97 = .ok (.iconst 3, 1) := by decide +kernel
theorem d_Mo_rational_98 : decode prog_11_method_67_code 98 = .ok (.iload_n 3, 1) := by decide +kernel
theorem d_Mo_rational_99 : decode prog_11_method_67_code 99 = .ok (.imul, 1) := by decide +kernel
theorem d_Mo_rational_100 : decode prog_11_method_67_code 100 = .ok (.iconst 4, 1) := by decide +kernel
theorem d_Mo_rational_101 : decode prog_11_method_67_code 101 = .ok (.isub, 1) := by decide +kernel
theorem d_Mo_rational_102 : decode prog_11_method_67_code 102 = .ok (.iconst 3, 1) := by decide +kernel
theorem d_Mo_rational_103 : decode prog_11_method_67_code 103 = .ok (.iload 4, 2) := by decide +kernel
theorem d_Mo_rational_105 : decode prog_11_method_67_code 105 = .ok (.imul, 1) := by decide +kernel
theorem d_Mo_rational_106 : decode prog_11_method_67_code 106 = .ok (.iconst 1, 1) := by decide +kernel
theorem d_Mo_rational_107 : decode prog_11_method_67_code 107 = .ok (.isub, 1) := by decide +kernel
theorem d_Mo_rational_108 : decode prog_11_method_67_code 108 = .ok (.invokestatic 274, 3) := by decide +kernel
theorem d_Mo_rational_111 : decode prog_11_method_67_code 111 = .ok (.lmul, 1) := by decide +kernel
theorem d_Mo_rational_112 : decode prog_11_method_67_code 112 = .ok (.lsub, 1) := by decide +kernel
theorem d_Mo_rational_113 : decode prog_11_method_67_code 113 = .ok (.lmul, 1) := by decide +kernel
theorem d_Mo_rational_114 : decode prog_11_method_67_code 114 = .ok (.ladd, 1) := by decide +kernel
theorem d_Mo_rational_115 : decode prog_11_method_67_code 115 = .ok (.lastore, 1) := by decide +kernel
theorem d_Mo_rational_116 : decode prog_11_method_67_code 116 = .ok (.iinc 4 1, 3) := by decide +kernel
theorem d_Mo_rational_119 : decode prog_11_method_67_code 119 = .ok (.goto (-80), 3) := by decide +kernel
theorem d_Mo_rational_122 : decode prog_11_method_67_code 122 = .ok (.iinc 3 1, 3) := by decide +kernel
theorem d_Mo_rational_125 : decode prog_11_method_67_code 125 = .ok (.goto (-98), 3) := by decide +kernel
theorem d_Mo_rational_128 : decode prog_11_method_67_code 128 = .ok (.aload_n 2, 1) := by decide +kernel
theorem d_Mo_rational_129 : decode prog_11_method_67_code 129 = .ok (.iload_n 1, 1) := by decide +kernel
theorem d_Mo_rational_130 : decode prog_11_method_67_code 130 = .ok (.laload, 1) := by decide +kernel
theorem d_Mo_rational_131 : decode prog_11_method_67_code 131 = .ok (.lreturn, 1) := by decide +kernel
theorem d_Mo_sheet_0 : decode prog_11_method_68_code 0 = .ok (.iload_n 1, 1) := by decide +kernel
theorem d_Mo_sheet_1 : decode prog_11_method_68_code 1 = .ok (.i2l, 1) := by decide +kernel
theorem d_Mo_sheet_2 : decode prog_11_method_68_code 2 = .ok (.lconst 0, 1) := by decide +kernel
theorem d_Mo_sheet_3 : decode prog_11_method_68_code 3 = .ok (.ldc2_w 295, 3) := by decide +kernel
theorem d_Mo_sheet_6 : decode prog_11_method_68_code 6 = .ok (.invokestatic 107, 3) := by decide +kernel
theorem d_Mo_sheet_9 : decode prog_11_method_68_code 9 = .ok (.ifCond .eq 21, 3) := by decide +kernel
theorem d_Mo_sheet_12 : decode prog_11_method_68_code 12 = .ok (.iload_n 2, 1) := by decide +kernel
theorem d_Mo_sheet_13 : decode prog_11_method_68_code 13 = .ok (.i2l, 1) := by decide +kernel
theorem d_Mo_sheet_14 : decode prog_11_method_68_code 14 = .ok (.lconst 0, 1) := by decide +kernel
theorem d_Mo_sheet_15 : decode prog_11_method_68_code 15 = .ok (.ldc2_w 150, 3) := by decide +kernel
theorem d_Mo_sheet_18 : decode prog_11_method_68_code 18 = .ok (.invokestatic 107, 3) := by decide +kernel
theorem d_Mo_sheet_21 : decode prog_11_method_68_code 21 = .ok (.ifCond .eq 9, 3) := by decide +kernel
theorem d_Mo_sheet_24 : decode prog_11_method_68_code 24 = .ok (.iload_n 3, 1) := by decide +kernel
theorem d_Mo_sheet_25 : decode prog_11_method_68_code 25 = .ok (.bipush 60, 2) := by decide +kernel
theorem d_Mo_sheet_27 : decode prog_11_method_68_code 27 = .ok (.if_icmp .le 5, 3) := by decide +kernel
theorem d_Mo_sheet_30 : decode prog_11_method_68_code 30 = .ok (.iconst (-1), 1) := by decide +kernel
theorem d_Mo_sheet_31 : decode prog_11_method_68_code 31 = .ok (.ireturn, 1) := by decide +kernel
theorem d_Mo_sheet_32 : decode prog_11_method_68_code 32 = .ok (.iload_n 3, 1) := by decide +kernel
theorem d_Mo_sheet_33 : decode prog_11_method_68_code 33 = .ok (.ifCond .ge 6, 3) := by decide +kernel
theorem d_Mo_sheet_36 : decode prog_11_method_68_code 36 = .ok (.bipush (-14), 2) := by decide +kernel
theorem d_Mo_sheet_38 : decode prog_11_method_68_code 38 = .ok (.ireturn, 1) := by decide +kernel
theorem d_Mo_sheet_39 : decode prog_11_method_68_code 39 = .ok (.aload_n 0, 1) := by decide +kernel
theorem d_Mo_sheet_40 : decode prog_11_method_68_code 40 = .ok (.getfield 94, 3) := by decide +kernel
theorem d_Mo_sheet_43 : decode prog_11_method_68_code 43 = .ok (.iload_n 1, 1) := by decide +kernel
theorem d_Mo_sheet_44 : decode prog_11_method_68_code 44 = .ok (.iload_n 2, 1) := by decide +kernel
theorem d_Mo_sheet_45 : decode prog_11_method_68_code 45 = .ok (.iastore, 1) := by decide +kernel
theorem d_Mo_sheet_46 : decode prog_11_method_68_code 46 = .ok (.aload_n 0, 1) := by decide +kernel
theorem d_Mo_sheet_47 : decode prog_11_method_68_code 47 = .ok (.getfield 97, 3) := by decide +kernel
theorem d_Mo_sheet_50 : decode prog_11_method_68_code 50 = .ok (.iload_n 1, 1) := by decide +kernel
theorem d_Mo_sheet_51 : decode prog_11_method_68_code 51 = .ok (.iload_n 3, 1) := by decide +kernel
theorem d_Mo_sheet_52 : decode prog_11_method_68_code 52 = .ok (.iastore, 1) := by decide +kernel
theorem d_Mo_sheet_53 : decode prog_11_method_68_code 53 = .ok (.iconst 0, 1) := by decide +kernel
theorem d_Mo_sheet_54 : decode prog_11_method_68_code 54 = .ok (.istore 4, 2) := by decide +kernel
theorem d_Mo_sheet_56 : decode prog_11_method_68_code 56 = .ok (.iload 4, 2) := by decide +kernel
theorem d_Mo_sheet_58 : decode prog_11_method_68_code 58 = .ok (.bipush 60, 2) := by decide +kernel
theorem d_Mo_sheet_60 : decode prog_11_method_68_code 60 = .ok (.if_icmp .ge 22, 3) := by decide +kernel
theorem d_Mo_sheet_63 : decode prog_11_method_68_code 63 = .ok (.aload_n 0, 1) := by decide +kernel
theorem d_Mo_sheet_64 : decode prog_11_method_68_code 64 = .ok (.getfield 100, 3) := by decide +kernel
theorem d_Mo_sheet_67 : decode prog_11_method_68_code 67 = .ok (.bipush 60, 2) := by decide +kernel
theorem d_Mo_sheet_69 : decode prog_11_method_68_code 69 = .ok (.iload_n 1, 1) := by decide +kernel
theorem d_Mo_sheet_70 : decode prog_11_method_68_code 70 = .ok (.imul, 1) := by decide +kernel
theorem d_Mo_sheet_71 : decode prog_11_method_68_code 71 = .ok (.iload 4, 2) := by decide +kernel
theorem d_Mo_sheet_73 : decode prog_11_method_68_code 73 = .ok (.iadd, 1) := by decide +kernel
theorem d_Mo_sheet_74 : decode prog_11_method_68_code 74 = .ok (.iconst 0, 1) := by decide +kernel
theorem d_Mo_sheet_75 : decode prog_11_method_68_code 75 = .ok (.iastore, 1) := by decide +kernel
theorem d_Mo_sheet_76 : decode prog_11_method_68_code 76 = .ok (.iinc 4 1, 3) := by decide +kernel
theorem d_Mo_sheet_79 : decode prog_11_method_68_code 79 = .ok (.goto (-23), 3) := by decide +kernel
theorem d_Mo_sheet_82 : decode prog_11_method_68_code 82 = .ok (.iconst 1, 1) := by decide +kernel
theorem d_Mo_sheet_83 : decode prog_11_method_68_code 83 = .ok (.ireturn, 1) := by decide +kernel
theorem d_Mo_lay_0 : decode prog_11_method_69_code 0 = .ok (.iload_n 1, 1) := by decide +kernel
theorem d_Mo_lay_1 : decode prog_11_method_69_code 1 = .ok (.i2l, 1) := by decide +kernel
theorem d_Mo_lay_2 : decode prog_11_method_69_code 2 = .ok (.lconst 0, 1) := by decide +kernel
theorem d_Mo_lay_3 : decode prog_11_method_69_code 3 = .ok (.ldc2_w 295, 3) := by decide +kernel
theorem d_Mo_lay_6 : decode prog_11_method_69_code 6 = .ok (.invokestatic 107, 3) := by decide +kernel
theorem d_Mo_lay_9 : decode prog_11_method_69_code 9 = .ok (.ifCond .ne 5, 3) := by decide +kernel
theorem d_Mo_lay_12 : decode prog_11_method_69_code 12 = .ok (.iconst (-1), 1) := by decide +kernel
theorem d_Mo_lay_13 : decode prog_11_method_69_code 13 = .ok (.ireturn, 1) := by decide +kernel
theorem d_Mo_lay_14 : decode prog_11_method_69_code 14 = .ok (.aload_n 0, 1) := by decide +kernel
theorem d_Mo_lay_15 : decode prog_11_method_69_code 15 = .ok (.getfield 94, 3) := by decide +kernel
theorem d_Mo_lay_18 : decode prog_11_method_69_code 18 = .ok (.iload_n 1, 1) := by decide +kernel
theorem d_Mo_lay_19 : decode prog_11_method_69_code 19 = .ok (.iaload, 1) := by decide +kernel
theorem d_Mo_lay_20 : decode prog_11_method_69_code 20 = .ok (.bipush (-4), 2) := by decide +kernel
theorem d_Mo_lay_22 : decode prog_11_method_69_code 22 = .ok (.if_icmp .ne 6, 3) := by decide +kernel
theorem d_Mo_lay_25 : decode prog_11_method_69_code 25 = .ok (.bipush (-11), 2) := by decide +kernel
theorem d_Mo_lay_27 : decode prog_11_method_69_code 27 = .ok (.ireturn, 1) := by decide +kernel
theorem d_Mo_lay_28 : decode prog_11_method_69_code 28 = .ok (.iload_n 2, 1) := by decide +kernel
theorem d_Mo_lay_29 : decode prog_11_method_69_code 29 = .ok (.i2l, 1) := by decide +kernel
theorem d_Mo_lay_30 : decode prog_11_method_69_code 30 = .ok (.lconst 0, 1) := by decide +kernel
theorem d_Mo_lay_31 : decode prog_11_method_69_code 31 = .ok (.aload_n 0, 1) := by decide +kernel
theorem d_Mo_lay_32 : decode prog_11_method_69_code 32 = .ok (.getfield 97, 3) := by decide +kernel
theorem d_Mo_lay_35 : decode prog_11_method_69_code 35 = .ok (.iload_n 1, 1) := by decide +kernel
theorem d_Mo_lay_36 : decode prog_11_method_69_code 36 = .ok (.iaload, 1) := by decide +kernel
theorem d_Mo_lay_37 : decode prog_11_method_69_code 37 = .ok (.iconst 1, 1) := by decide +kernel
theorem d_Mo_lay_38 : decode prog_11_method_69_code 38 = .ok (.isub, 1) := by decide +kernel
theorem d_Mo_lay_39 : decode prog_11_method_69_code 39 = .ok (.i2l, 1) := by decide +kernel
theorem d_Mo_lay_40 : decode prog_11_method_69_code 40 = .ok (.invokestatic 107, 3) := by decide +kernel
theorem d_Mo_lay_43 : decode prog_11_method_69_code 43 = .ok (.ifCond .ne 6, 3) := by decide +kernel
theorem d_Mo_lay_46 : decode prog_11_method_69_code 46 = .ok (.bipush (-12), 2) := by decide +kernel
theorem d_Mo_lay_48 : decode prog_11_method_69_code 48 = .ok (.ireturn, 1) := by decide +kernel
theorem d_Mo_lay_49 : decode prog_11_method_69_code 49 = .ok (.aload_n 0, 1) := by decide +kernel
theorem d_Mo_lay_50 : decode prog_11_method_69_code 50 = .ok (.getfield 100, 3) := by decide +kernel
theorem d_Mo_lay_53 : decode prog_11_method_69_code 53 = .ok (.bipush 60, 2) := by decide +kernel
theorem d_Mo_lay_55 : decode prog_11_method_69_code 55 = .ok (.iload_n 1, 1) := by decide +kernel
theorem d_Mo_lay_56 : decode prog_11_method_69_code 56 = .ok (.imul, 1) := by decide +kernel
theorem d_Mo_lay_57 : decode prog_11_method_69_code 57 = .ok (.iload_n 2, 1) := by decide +kernel
theorem d_Mo_lay_58 : decode prog_11_method_69_code 58 = .ok (.iadd, 1) := by decide +kernel
theorem d_Mo_lay_59 : decode prog_11_method_69_code 59 = .ok (.aload_n 0, 1) := by decide +kernel
theorem d_Mo_lay_60 : decode prog_11_method_69_code 60 = .ok (.getfield 94, 3) := by decide +kernel
theorem d_Mo_lay_63 : decode prog_11_method_69_code 63 = .ok (.iload_n 1, 1) := by decide +kernel
theorem d_Mo_lay_64 : decode prog_11_method_69_code 64 = .ok (.iaload, 1) := by decide +kernel
theorem d_Mo_lay_65 : decode prog_11_method_69_code 65 = .ok (.ifCond .ne 13, 3) := by decide +kernel
theorem d_Mo_lay_68 : decode prog_11_method_69_code 68 = .ok (.iload_n 3, 1) := by decide +kernel
theorem d_Mo_lay_69 : decode prog_11_method_69_code 69 = .ok (.bipush 24, 2) := by decide +kernel
theorem d_Mo_lay_71 : decode prog_11_method_69_code 71 = .ok (.ishl, 1) := by decide +kernel
theorem d_Mo_lay_72 : decode prog_11_method_69_code 72 = .ok (.bipush 24, 2) := by decide +kernel
theorem d_Mo_lay_74 : decode prog_11_method_69_code 74 = .ok (.ishr, 1) := by decide +kernel
theorem d_Mo_lay_75 : decode prog_11_method_69_code 75 = .ok (.goto 24, 3) := by decide +kernel
theorem d_Mo_lay_78 : decode prog_11_method_69_code 78 = .ok (.aload_n 0, 1) := by decide +kernel
theorem d_Mo_lay_79 : decode prog_11_method_69_code 79 = .ok (.getfield 94, 3) := by decide +kernel
theorem d_Mo_lay_82 : decode prog_11_method_69_code 82 = .ok (.iload_n 1, 1) := by decide +kernel
theorem d_Mo_lay_83 : decode prog_11_method_69_code 83 = .ok (.iaload, 1) := by decide +kernel
theorem d_Mo_lay_84 : decode prog_11_method_69_code 84 = .ok (.iconst 1, 1) := by decide +kernel
theorem d_Mo_lay_85 : decode prog_11_method_69_code 85 = .ok (.if_icmp .ne 13, 3) := by decide +kernel
theorem d_Mo_lay_88 : decode prog_11_method_69_code 88 = .ok (.iload_n 3, 1) := by decide +kernel
theorem d_Mo_lay_89 : decode prog_11_method_69_code 89 = .ok (.bipush 16, 2) := by decide +kernel
theorem d_Mo_lay_91 : decode prog_11_method_69_code 91 = .ok (.ishl, 1) := by decide +kernel
theorem d_Mo_lay_92 : decode prog_11_method_69_code 92 = .ok (.bipush 16, 2) := by decide +kernel
theorem d_Mo_lay_94 : decode prog_11_method_69_code 94 = .ok (.ishr, 1) := by decide +kernel
theorem d_Mo_lay_95 : decode prog_11_method_69_code 95 = .ok (.goto 4, 3) := by decide +kernel
theorem d_Mo_lay_98 : decode prog_11_method_69_code 98 = .ok (.iload_n 3, 1) := by decide +kernel
theorem d_Mo_lay_99 : decode prog_11_method_69_code 99 = .ok (.iastore, 1) := by decide +kernel
theorem d_Mo_lay_100 : decode prog_11_method_69_code 100 = .ok (.iconst 1, 1) := by decide +kernel
theorem d_Mo_lay_101 : decode prog_11_method_69_code 101 = .ok (.ireturn, 1) := by decide +kernel
theorem d_Mo_draw_0 : decode prog_11_method_70_code 0 = .ok (.iload_n 1, 1) := by decide +kernel
theorem d_Mo_draw_1 : decode prog_11_method_70_code 1 = .ok (.i2l, 1) := by decide +kernel
theorem d_Mo_draw_2 : decode prog_11_method_70_code 2 = .ok (.lconst 0, 1) := by decide +kernel
theorem d_Mo_draw_3 : decode prog_11_method_70_code 3 = .ok (.ldc2_w 295, 3) := by decide +kernel
theorem d_Mo_draw_6 : decode prog_11_method_70_code 6 = .ok (.invokestatic 107, 3) := by decide +kernel
theorem d_Mo_draw_9 : decode prog_11_method_70_code 9 = .ok (.ifCond .eq 41, 3) := by decide +kernel
theorem d_Mo_draw_12 : decode prog_11_method_70_code 12 = .ok (.iload_n 2, 1) := by decide +kernel
theorem d_Mo_draw_13 : decode prog_11_method_70_code 13 = .ok (.i2l, 1) := by decide +kernel
theorem d_Mo_draw_14 : decode prog_11_method_70_code 14 = .ok (.lconst 0, 1) := by decide +kernel
theorem d_Mo_draw_15 : decode prog_11_method_70_code 15 = .ok (.ldc2_w 150, 3) := by decide +kernel
theorem d_Mo_draw_18 : decode prog_11_method_70_code 18 = .ok (.invokestatic 107, 3) := by decide +kernel
theorem d_Mo_draw_21 : decode prog_11_method_70_code 21 = .ok (.ifCond .eq 29, 3) := by decide +kernel
theorem d_Mo_draw_24 : decode prog_11_method_70_code 24 = .ok (.iload 5, 2) := by decide +kernel
theorem d_Mo_draw_26 : decode prog_11_method_70_code 26 = .ok (.i2l, 1) := by decide +kernel
theorem d_Mo_draw_27 : decode prog_11_method_70_code 27 = .ok (.lconst 0, 1) := by decide +kernel
theorem d_Mo_draw_28 : decode prog_11_method_70_code 28 = .ok (.ldc2_w 132, 3) := by decide +kernel
theorem d_Mo_draw_31 : decode prog_11_method_70_code 31 = .ok (.invokestatic 107, 3) := by decide +kernel
theorem d_Mo_draw_34 : decode prog_11_method_70_code 34 = .ok (.ifCond .eq 16, 3) := by decide +kernel
theorem d_Mo_draw_37 : decode prog_11_method_70_code 37 = .ok (.iload 4, 2) := by decide +kernel
theorem d_Mo_draw_39 : decode prog_11_method_70_code 39 = .ok (.i2l, 1) := by decide +kernel
theorem d_Mo_draw_40 : decode prog_11_method_70_code 40 = .ok (.lconst 1, 1) := by decide +kernel
theorem d_Mo_draw_41 : decode prog_11_method_70_code 41 = .ok (.ldc2_w 111, 3) := by decide +kernel
theorem d_Mo_draw_44 : decode prog_11_method_70_code 44 = .ok (.invokestatic 107, 3) := by decide +kernel
theorem d_Mo_draw_47 : decode prog_11_method_70_code 47 = .ok (.ifCond .ne 5, 3) := by decide +kernel
theorem d_Mo_draw_50 : decode prog_11_method_70_code 50 = .ok (.iconst (-1), 1) := by decide +kernel
theorem d_Mo_draw_51 : decode prog_11_method_70_code 51 = .ok (.ireturn, 1) := by decide +kernel
theorem d_Mo_draw_52 : decode prog_11_method_70_code 52 = .ok (.aload_n 0, 1) := by decide +kernel
theorem d_Mo_draw_53 : decode prog_11_method_70_code 53 = .ok (.getfield 94, 3) := by decide +kernel
theorem d_Mo_draw_56 : decode prog_11_method_70_code 56 = .ok (.iload_n 1, 1) := by decide +kernel
theorem d_Mo_draw_57 : decode prog_11_method_70_code 57 = .ok (.iaload, 1) := by decide +kernel
theorem d_Mo_draw_58 : decode prog_11_method_70_code 58 = .ok (.iload_n 2, 1) := by decide +kernel
theorem d_Mo_draw_59 : decode prog_11_method_70_code 59 = .ok (.if_icmp .eq 22, 3) := by decide +kernel
theorem d_Mo_draw_62 : decode prog_11_method_70_code 62 = .ok (.aload_n 0, 1) := by decide +kernel
theorem d_Mo_draw_63 : decode prog_11_method_70_code 63 = .ok (.getfield 94, 3) := by decide +kernel
theorem d_Mo_draw_66 : decode prog_11_method_70_code 66 = .ok (.iload_n 1, 1) := by decide +kernel
theorem d_Mo_draw_67 : decode prog_11_method_70_code 67 = .ok (.iaload, 1) := by decide +kernel
theorem d_Mo_draw_68 : decode prog_11_method_70_code 68 = .ok (.bipush (-4), 2) := by decide +kernel
theorem d_Mo_draw_70 : decode prog_11_method_70_code 70 = .ok (.if_icmp .ne 8, 3) := by decide +kernel
theorem d_Mo_draw_73 : decode prog_11_method_70_code 73 = .ok (.bipush (-11), 2) := by decide +kernel
theorem d_Mo_draw_75 : decode prog_11_method_70_code 75 = .ok (.goto 5, 3) := by decide +kernel
theorem d_Mo_draw_78 : decode prog_11_method_70_code 78 = .ok (.bipush (-13), 2) := by decide +kernel
theorem d_Mo_draw_80 : decode prog_11_method_70_code 80 = .ok (.ireturn, 1) := by decide +kernel
theorem d_Mo_draw_81 : decode prog_11_method_70_code 81 = .ok (.iconst 0, 1) := by decide +kernel
theorem d_Mo_draw_82 : decode prog_11_method_70_code 82 = .ok (.istore 6, 2) := by decide +kernel
theorem d_Mo_draw_84 : decode prog_11_method_70_code 84 = .ok (.iload 6, 2) := by decide +kernel
theorem d_Mo_draw_86 : decode prog_11_method_70_code 86 = .ok (.iload 5, 2) := by decide +kernel
theorem d_Mo_draw_88 : decode prog_11_method_70_code 88 = .ok (.if_icmp .ge 89, 3) := by decide +kernel
theorem d_Mo_draw_91 : decode prog_11_method_70_code 91 = .ok (.iload_n 3, 1) := by decide +kernel
theorem d_Mo_draw_92 : decode prog_11_method_70_code 92 = .ok (.i2l, 1) := by decide +kernel
theorem d_Mo_draw_93 : decode prog_11_method_70_code 93 = .ok (.iconst 3, 1) := by decide +kernel
theorem d_Mo_draw_94 : decode prog_11_method_70_code 94 = .ok (.iload 6, 2) := by decide +kernel
theorem d_Mo_draw_96 : decode prog_11_method_70_code 96 = .ok (.imul, 1) := by decide +kernel
theorem d_Mo_draw_97 : decode prog_11_method_70_code 97 = .ok (.i2l, 1) := by decide +kernel
theorem d_Mo_draw_98 : decode prog_11_method_70_code 98 = .ok (.ladd, 1) := by decide +kernel
theorem d_Mo_draw_99 : decode prog_11_method_70_code 99 = .ok (.lstore 7, 2) := by decide +kernel
theorem d_Mo_draw_101 : decode prog_11_method_70_code 101 = .ok (.lload 7, 2) := by decide +kernel
theorem d_Mo_draw_103 : decode prog_11_method_70_code 103 = .ok (.lconst 0, 1) := by decide +kernel
theorem d_Mo_draw_104 : decode prog_11_method_70_code 104 = .ok (.aload_n 0, 1) := by decide +kernel
theorem d_Mo_draw_105 : decode prog_11_method_70_code 105 = .ok (.getfield 97, 3) := by decide +kernel
theorem d_Mo_draw_108 : decode prog_11_method_70_code 108 = .ok (.iload_n 1, 1) := by decide +kernel
theorem d_Mo_draw_109 : decode prog_11_method_70_code 109 = .ok (.iaload, 1) := by decide +kernel
theorem d_Mo_draw_110 : decode prog_11_method_70_code 110 = .ok (.iconst 3, 1) := by decide +kernel
theorem d_Mo_draw_111 : decode prog_11_method_70_code 111 = .ok (.isub, 1) := by decide +kernel
theorem d_Mo_draw_112 : decode prog_11_method_70_code 112 = .ok (.i2l, 1) := by decide +kernel
theorem d_Mo_draw_113 : decode prog_11_method_70_code 113 = .ok (.invokestatic 107, 3) := by decide +kernel
theorem d_Mo_draw_116 : decode prog_11_method_70_code 116 = .ok (.ifCond .ne 6, 3) := by decide +kernel
theorem d_Mo_draw_119 : decode prog_11_method_70_code 119 = .ok (.bipush (-12), 2) := by decide +kernel
theorem d_Mo_draw_121 : decode prog_11_method_70_code 121 = .ok (.ireturn, 1) := by decide +kernel
theorem d_Mo_draw_122 : decode prog_11_method_70_code 122 = .ok (.bipush 60, 2) := by decide +kernel
theorem d_Mo_draw_124 : decode prog_11_method_70_code 124 = .ok (.iload_n 1, 1) := by decide +kernel
theorem d_Mo_draw_125 : decode prog_11_method_70_code 125 = .ok (.imul, 1) := by decide +kernel
theorem d_Mo_draw_126 : decode prog_11_method_70_code 126 = .ok (.lload 7, 2) := by decide +kernel
theorem d_Mo_draw_128 : decode prog_11_method_70_code 128 = .ok (.l2i, 1) := by decide +kernel
theorem d_Mo_draw_129 : decode prog_11_method_70_code 129 = .ok (.iadd, 1) := by decide +kernel
theorem d_Mo_draw_130 : decode prog_11_method_70_code 130 = .ok (.istore 9, 2) := by decide +kernel
theorem d_Mo_draw_132 : decode prog_11_method_70_code 132 = .ok (.iload 4, 2) := by decide +kernel
theorem d_Mo_draw_134 : decode prog_11_method_70_code 134 = .ok (.aload_n 0, 1) := by decide +kernel
theorem d_Mo_draw_135 : decode prog_11_method_70_code 135 = .ok (.getfield 100, 3) := by decide +kernel
theorem d_Mo_draw_138 : decode prog_11_method_70_code 138 = .ok (.iload 9, 2) := by decide +kernel
theorem d_Mo_draw_140 : decode prog_11_method_70_code 140 = .ok (.iaload, 1) := by decide +kernel
theorem d_Mo_draw_141 : decode prog_11_method_70_code 141 = .ok (.aload_n 0, 1) := by decide +kernel
theorem d_Mo_draw_142 : decode prog_11_method_70_code 142 = .ok (.getfield 100, 3) := by decide +kernel
theorem d_Mo_draw_145 : decode prog_11_method_70_code 145 = .ok (.iload 9, 2) := by decide +kernel
theorem d_Mo_draw_147 : decode prog_11_method_70_code 147 = .ok (.iconst 1, 1) := by decide +kernel
theorem d_Mo_draw_148 : decode prog_11_method_70_code 148 = .ok (.iadd, 1) := by decide +kernel
theorem d_Mo_draw_149 : decode prog_11_method_70_code 149 = .ok (.iaload, 1) := by decide +kernel
theorem d_Mo_draw_150 : decode prog_11_method_70_code 150 = .ok (.aload_n 0, 1) := by decide +kernel
theorem d_Mo_draw_151 : decode prog_11_method_70_code 151 = .ok (.getfield 100, 3) := by decide +kernel
theorem d_Mo_draw_154 : decode prog_11_method_70_code 154 = .ok (.iload 9, 2) := by decide +kernel
theorem d_Mo_draw_156 : decode prog_11_method_70_code 156 = .ok (.iconst 2, 1) := by decide +kernel
theorem d_Mo_draw_157 : decode prog_11_method_70_code 157 = .ok (.iadd, 1) := by decide +kernel
theorem d_Mo_draw_158 : decode prog_11_method_70_code 158 = .ok (.iaload, 1) := by decide +kernel
theorem d_Mo_draw_159 : decode prog_11_method_70_code 159 = .ok (.invokestatic 121, 3) := by decide +kernel
theorem d_Mo_draw_162 : decode prog_11_method_70_code 162 = .ok (.ifCond .ne 9, 3) := by decide +kernel
theorem d_Mo_draw_165 : decode prog_11_method_70_code 165 = .ok (.bipush (-20), 2) := by decide +kernel
theorem d_Mo_draw_167 : decode prog_11_method_70_code 167 = .ok (.iload 6, 2) := by decide +kernel
theorem d_Mo_draw_169 : decode prog_11_method_70_code 169 = .ok (.isub, 1) := by decide +kernel
theorem d_Mo_draw_170 : decode prog_11_method_70_code 170 = .ok (.ireturn, 1) := by decide +kernel
theorem d_Mo_draw_171 : decode prog_11_method_70_code 171 = .ok (.iinc 6 1, 3) := by decide +kernel
theorem d_Mo_draw_174 : decode prog_11_method_70_code 174 = .ok (.goto (-90), 3) := by decide +kernel
theorem d_Mo_draw_177 : decode prog_11_method_70_code 177 = .ok (.aload_n 0, 1) := by decide +kernel
theorem d_Mo_draw_178 : decode prog_11_method_70_code 178 = .ok (.getfield 103, 3) := by decide +kernel
theorem d_Mo_draw_181 : decode prog_11_method_70_code 181 = .ok (.bipush 8, 2) := by decide +kernel
theorem d_Mo_draw_183 : decode prog_11_method_70_code 183 = .ok (.if_icmp .ne 6, 3) := by decide +kernel
theorem d_Mo_draw_186 : decode prog_11_method_70_code 186 = .ok (.bipush (-3), 2) := by decide +kernel
theorem d_Mo_draw_188 : decode prog_11_method_70_code 188 = .ok (.ireturn, 1) := by decide +kernel
theorem d_Mo_draw_189 : decode prog_11_method_70_code 189 = .ok (.aload_n 0, 1) := by decide +kernel
theorem d_Mo_draw_190 : decode prog_11_method_70_code 190 = .ok (.getfield 7, 3) := by decide +kernel
theorem d_Mo_draw_193 : decode prog_11_method_70_code 193 = .ok (.aload_n 0, 1) := by decide +kernel
theorem d_Mo_draw_194 : decode prog_11_method_70_code 194 = .ok (.getfield 103, 3) := by decide +kernel
theorem d_Mo_draw_197 : decode prog_11_method_70_code 197 = .ok (.iload 4, 2) := by decide +kernel
theorem d_Mo_draw_199 : decode prog_11_method_70_code 199 = .ok (.iastore, 1) := by decide +kernel
theorem d_Mo_draw_200 : decode prog_11_method_70_code 200 = .ok (.aload_n 0, 1) := by decide +kernel
theorem d_Mo_draw_201 : decode prog_11_method_70_code 201 = .ok (.getfield 13, 3) := by decide +kernel
theorem d_Mo_draw_204 : decode prog_11_method_70_code 204 = .ok (.aload_n 0, 1) := by decide +kernel
theorem d_Mo_draw_205 : decode prog_11_method_70_code 205 = .ok (.getfield 103, 3) := by decide +kernel
theorem d_Mo_draw_208 : decode prog_11_method_70_code 208 = .ok (.iconst 0, 1) := by decide +kernel
theorem d_Mo_draw_209 : decode prog_11_method_70_code 209 = .ok (.iastore, 1) := by decide +kernel
theorem d_Mo_draw_210 : decode prog_11_method_70_code 210 = .ok (.iconst 0, 1) := by decide +kernel
theorem d_Mo_draw_211 : decode prog_11_method_70_code 211 = .ok (.istore 6, 2) := by decide +kernel
theorem d_Mo_draw_213 : decode prog_11_method_70_code 213 = .ok (.iload 6, 2) := by decide +kernel
theorem d_Mo_draw_215 : decode prog_11_method_70_code 215 = .ok (.iload 5, 2) := by decide +kernel
theorem d_Mo_draw_217 : decode prog_11_method_70_code 217 = .ok (.if_icmp .ge 55, 3) := by decide +kernel
theorem d_Mo_draw_220 : decode prog_11_method_70_code 220 = .ok (.bipush 60, 2) := by decide +kernel
theorem d_Mo_draw_222 : decode prog_11_method_70_code 222 = .ok (.iload_n 1, 1) := by decide +kernel
theorem d_Mo_draw_223 : decode prog_11_method_70_code 223 = .ok (.imul, 1) := by decide +kernel
theorem d_Mo_draw_224 : decode prog_11_method_70_code 224 = .ok (.iload_n 3, 1) := by decide +kernel
theorem d_Mo_draw_225 : decode prog_11_method_70_code 225 = .ok (.iadd, 1) := by decide +kernel
theorem d_Mo_draw_226 : decode prog_11_method_70_code 226 = .ok (.iconst 3, 1) := by decide +kernel
theorem d_Mo_draw_227 : decode prog_11_method_70_code 227 = .ok (.iload 6, 2) := by decide +kernel
theorem d_Mo_draw_229 : decode prog_11_method_70_code 229 = .ok (.imul, 1) := by decide +kernel
theorem d_Mo_draw_230 : decode prog_11_method_70_code 230 = .ok (.iadd, 1) := by decide +kernel
theorem d_Mo_draw_231 : decode prog_11_method_70_code 231 = .ok (.istore 7, 2) := by decide +kernel
theorem d_Mo_draw_233 : decode prog_11_method_70_code 233 = .ok (.aload_n 0, 1) := by decide +kernel
theorem d_Mo_draw_234 : decode prog_11_method_70_code 234 = .ok (.aload_n 0, 1) := by decide +kernel
theorem d_Mo_draw_235 : decode prog_11_method_70_code 235 = .ok (.getfield 103, 3) := by decide +kernel
theorem d_Mo_draw_238 : decode prog_11_method_70_code 238 = .ok (.aload_n 0, 1) := by decide +kernel
theorem d_Mo_draw_239 : decode prog_11_method_70_code 239 = .ok (.getfield 100, 3) := by decide +kernel
theorem d_Mo_draw_242 : decode prog_11_method_70_code 242 = .ok (.iload 7, 2) := by decide +kernel
theorem d_Mo_draw_244 : decode prog_11_method_70_code 244 = .ok (.iaload, 1) := by decide +kernel
theorem d_Mo_draw_245 : decode prog_11_method_70_code 245 = .ok (.aload_n 0, 1) := by decide +kernel
theorem d_Mo_draw_246 : decode prog_11_method_70_code 246 = .ok (.getfield 100, 3) := by decide +kernel
theorem d_Mo_draw_249 : decode prog_11_method_70_code 249 = .ok (.iload 7, 2) := by decide +kernel
theorem d_Mo_draw_251 : decode prog_11_method_70_code 251 = .ok (.iconst 1, 1) := by decide +kernel
theorem d_Mo_draw_252 : decode prog_11_method_70_code 252 = .ok (.iadd, 1) := by decide +kernel
theorem d_Mo_draw_253 : decode prog_11_method_70_code 253 = .ok (.iaload, 1) := by decide +kernel
theorem d_Mo_draw_254 : decode prog_11_method_70_code 254 = .ok (.aload_n 0, 1) := by decide +kernel
theorem d_Mo_draw_255 : decode prog_11_method_70_code 255 = .ok (.getfield 100, 3) := by decide +kernel
theorem d_Mo_draw_258 : decode prog_11_method_70_code 258 = .ok (.iload 7, 2) := by decide +kernel
theorem d_Mo_draw_260 : decode prog_11_method_70_code 260 = .ok (.iconst 2, 1) := by decide +kernel
theorem d_Mo_draw_261 : decode prog_11_method_70_code 261 = .ok (.iadd, 1) := by decide +kernel
theorem d_Mo_draw_262 : decode prog_11_method_70_code 262 = .ok (.iaload, 1) := by decide +kernel
theorem d_Mo_draw_263 : decode prog_11_method_70_code 263 = .ok (.invokevirtual 124, 3) := by decide +kernel
theorem d_Mo_draw_266 : decode prog_11_method_70_code 266 = .ok (.iinc 6 1, 3) := by decide +kernel
theorem d_Mo_draw_269 : decode prog_11_method_70_code 269 = .ok (.goto (-56), 3) := by decide +kernel
theorem d_Mo_draw_272 : decode prog_11_method_70_code 272 = .ok (.aload_n 0, 1) := by decide +kernel
theorem d_Mo_draw_273 : decode prog_11_method_70_code 273 = .ok (.dup, 1) := by decide +kernel
theorem d_Mo_draw_274 : decode prog_11_method_70_code 274 = .ok (.getfield 103, 3) := by decide +kernel
theorem d_Mo_draw_277 : decode prog_11_method_70_code 277 = .ok (.iconst 1, 1) := by decide +kernel
theorem d_Mo_draw_278 : decode prog_11_method_70_code 278 = .ok (.iadd, 1) := by decide +kernel
theorem d_Mo_draw_279 : decode prog_11_method_70_code 279 = .ok (.putfield 103, 3) := by decide +kernel
theorem d_Mo_draw_282 : decode prog_11_method_70_code 282 = .ok (.aload_n 0, 1) := by decide +kernel
theorem d_Mo_draw_283 : decode prog_11_method_70_code 283 = .ok (.getfield 103, 3) := by decide +kernel
theorem d_Mo_draw_286 : decode prog_11_method_70_code 286 = .ok (.iconst 1, 1) := by decide +kernel
theorem d_Mo_draw_287 : decode prog_11_method_70_code 287 = .ok (.isub, 1) := by decide +kernel
theorem d_Mo_draw_288 : decode prog_11_method_70_code 288 = .ok (.ireturn, 1) := by decide +kernel
theorem d_Mo_many_0 : decode prog_11_method_71_code 0 = .ok (.iconst 0, 1) := by decide +kernel
theorem d_Mo_many_1 : decode prog_11_method_71_code 1 = .ok (.istore_n 2, 1) := by decide +kernel
theorem d_Mo_many_2 : decode prog_11_method_71_code 2 = .ok (.iload_n 1, 1) := by decide +kernel
theorem d_Mo_many_3 : decode prog_11_method_71_code 3 = .ok (.tableswitch 89 0 3 #[29, 34, 57, 62], 29) := by decide +kernel
theorem d_Mo_many_32 : decode prog_11_method_71_code 32 = .ok (.aload_n 0, 1) := by decide +kernel
theorem d_Mo_many_33 : decode prog_11_method_71_code 33 = .ok (.getfield 103, 3) := by decide +kernel
theorem d_Mo_many_36 : decode prog_11_method_71_code 36 = .ok (.ireturn, 1) := by decide +kernel
theorem d_Mo_many_37 : decode prog_11_method_71_code 37 = .ok (.aload_n 0, 1) := by decide +kernel
theorem d_Mo_many_38 : decode prog_11_method_71_code 38 = .ok (.getfield 94, 3) := by decide +kernel
theorem d_Mo_many_41 : decode prog_11_method_71_code 41 = .ok (.iconst 0, 1) := by decide +kernel
theorem d_Mo_many_42 : decode prog_11_method_71_code 42 = .ok (.iaload, 1) := by decide +kernel
theorem d_Mo_many_43 : decode prog_11_method_71_code 43 = .ok (.bipush (-4), 2) := by decide +kernel
theorem d_Mo_many_45 : decode prog_11_method_71_code 45 = .ok (.if_icmp .ne 8, 3) := by decide +kernel
theorem d_Mo_many_48 : decode prog_11_method_71_code 48 = .ok (.bipush (-4), 2) := by decide +kernel
theorem d_Mo_many_50 : decode prog_11_method_71_code 50 = .ok (.goto 9, 3) := by decide +kernel
theorem d_Mo_many_53 : decode prog_11_method_71_code 53 = .ok (.aload_n 0, 1) := by decide +kernel
theorem d_Mo_many_54 : decode prog_11_method_71_code 54 = .ok (.getfield 97, 3) := by decide +kernel
theorem d_Mo_many_57 : decode prog_11_method_71_code 57 = .ok (.iconst 0, 1) := by decide +kernel
theorem d_Mo_many_58 : decode prog_11_method_71_code 58 = .ok (.iaload, 1) := by decide +kernel
theorem d_Mo_many_59 : decode prog_11_method_71_code 59 = .ok (.ireturn, 1) := by decide +kernel
theorem d_Mo_many_60 : decode prog_11_method_71_code 60 = .ok (.aload_n 0, 1) := by decide +kernel
theorem d_Mo_many_61 : decode prog_11_method_71_code 61 = .ok (.getfield 230, 3) := by decide +kernel
theorem d_Mo_many_64 : decode prog_11_method_71_code 64 = .ok (.ireturn, 1) := by decide +kernel
theorem d_Mo_many_65 : decode prog_11_method_71_code 65 = .ok (.iconst 0, 1) := by decide +kernel
theorem d_Mo_many_66 : decode prog_11_method_71_code 66 = .ok (.istore_n 3, 1) := by decide +kernel
theorem d_Mo_many_67 : decode prog_11_method_71_code 67 = .ok (.iload_n 3, 1) := by decide +kernel
theorem d_Mo_many_68 : decode prog_11_method_71_code 68 = .ok (.aload_n 0, 1) := by decide +kernel
theorem d_Mo_many_69 : decode prog_11_method_71_code 69 = .ok (.getfield 103, 3) := by decide +kernel
theorem d_Mo_many_72 : decode prog_11_method_71_code 72 = .ok (.if_icmp .ge 18, 3) := by decide +kernel
theorem d_Mo_many_75 : decode prog_11_method_71_code 75 = .ok (.iload_n 2, 1) := by decide +kernel
theorem d_Mo_many_76 : decode prog_11_method_71_code 76 = .ok (.aload_n 0, 1) := by decide +kernel
theorem d_Mo_many_77 : decode prog_11_method_71_code 77 = .ok (.getfield 13, 3) := by decide +kernel
theorem d_Mo_many_80 : decode prog_11_method_71_code 80 = .ok (.iload_n 3, 1) := by decide +kernel
theorem d_Mo_many_81 : decode prog_11_method_71_code 81 = .ok (.iaload, 1) := by decide +kernel
theorem d_Mo_many_82 : decode prog_11_method_71_code 82 = .ok (.iadd, 1) := by decide +kernel
theorem d_Mo_many_83 : decode prog_11_method_71_code 83 = .ok (.istore_n 2, 1) := by decide +kernel
theorem d_Mo_many_84 : decode prog_11_method_71_code 84 = .ok (.iinc 3 1, 3) := by decide +kernel
theorem d_Mo_many_87 : decode prog_11_method_71_code 87 = .ok (.goto (-20), 3) := by decide +kernel
theorem d_Mo_many_90 : decode prog_11_method_71_code 90 = .ok (.iload_n 2, 1) := by decide +kernel
theorem d_Mo_many_91 : decode prog_11_method_71_code 91 = .ok (.ireturn, 1) := by decide +kernel
theorem d_Mo_many_92 : decode prog_11_method_71_code 92 = .ok (.iconst (-1), 1) := by decide +kernel
theorem d_Mo_many_93 : decode prog_11_method_71_code 93 = .ok (.ireturn, 1) := by decide +kernel
