theorem d_Cat_init_0 : decode prog_2_method_1_code 0 = .ok (.aload_n 0, 1) := by decide +kernel
theorem d_Cat_init_1 : decode prog_2_method_1_code 1 = .ok (.invokespecial 3, 3) := by decide +kernel
theorem d_Cat_init_4 : decode prog_2_method_1_code 4 = .ok (.aload_n 0, 1) := by decide +kernel
theorem d_Cat_init_5 : decode prog_2_method_1_code 5 = .ok (.new 9, 3) := by decide +kernel
theorem d_Cat_init_8 : decode prog_2_method_1_code 8 = .ok (.dup, 1) := by decide +kernel
theorem d_Cat_init_9 : decode prog_2_method_1_code 9 = .ok (.invokespecial 11, 3) := by decide +kernel
theorem d_Cat_init_12 : decode prog_2_method_1_code 12 = .ok (.putfield 12, 3) := by decide +kernel
theorem d_Cat_init_15 : decode prog_2_method_1_code 15 = .ok (.aload_n 0, 1) := by decide +kernel
theorem d_Cat_init_16 : decode prog_2_method_1_code 16 = .ok (.new 18, 3) := by decide +kernel
theorem d_Cat_init_19 : decode prog_2_method_1_code 19 = .ok (.dup, 1) := by decide +kernel
theorem d_Cat_init_20 : decode prog_2_method_1_code 20 = .ok (.invokespecial 20, 3) := by decide +kernel
theorem d_Cat_init_23 : decode prog_2_method_1_code 23 = .ok (.putfield 21, 3) := by decide +kernel
theorem d_Cat_init_26 : decode prog_2_method_1_code 26 = .ok (.aload_n 0, 1) := by decide +kernel
theorem d_Cat_init_27 : decode prog_2_method_1_code 27 = .ok (.new 25, 3) := by decide +kernel
theorem d_Cat_init_30 : decode prog_2_method_1_code 30 = .ok (.dup, 1) := by decide +kernel
theorem d_Cat_init_31 : decode prog_2_method_1_code 31 = .ok (.invokespecial 27, 3) := by decide +kernel
theorem d_Cat_init_34 : decode prog_2_method_1_code 34 = .ok (.putfield 28, 3) := by decide +kernel
theorem d_Cat_init_37 : decode prog_2_method_1_code 37 = .ok (.aload_n 0, 1) := by decide +kernel
theorem d_Cat_init_38 : decode prog_2_method_1_code 38 = .ok (.bipush 61, 2) := by decide +kernel
theorem d_Cat_init_40 : decode prog_2_method_1_code 40 = .ok (.newarray .long, 2) := by decide +kernel
theorem d_Cat_init_42 : decode prog_2_method_1_code 42 = .ok (.putfield 32, 3) := by decide +kernel
theorem d_Cat_init_45 : decode prog_2_method_1_code 45 = .ok (.aload_n 0, 1) := by decide +kernel
theorem d_Cat_init_46 : decode prog_2_method_1_code 46 = .ok (.bipush 61, 2) := by decide +kernel
theorem d_Cat_init_48 : decode prog_2_method_1_code 48 = .ok (.newarray .int, 2) := by decide +kernel
theorem d_Cat_init_50 : decode prog_2_method_1_code 50 = .ok (.putfield 36, 3) := by decide +kernel
theorem d_Cat_init_53 : decode prog_2_method_1_code 53 = .ok (.aload_n 0, 1) := by decide +kernel
theorem d_Cat_init_54 : decode prog_2_method_1_code 54 = .ok (.bipush 7, 2) := by decide +kernel
theorem d_Cat_init_56 : decode prog_2_method_1_code 56 = .ok (.newarray .int, 2) := by decide +kernel
theorem d_Cat_init_58 : decode prog_2_method_1_code 58 = .ok (.putfield 40, 3) := by decide +kernel
theorem d_Cat_init_61 : decode prog_2_method_1_code 61 = .ok (.aload_n 0, 1) := by decide +kernel
theorem d_Cat_init_62 : decode prog_2_method_1_code 62 = .ok (.bipush 7, 2) := by decide +kernel
theorem d_Cat_init_64 : decode prog_2_method_1_code 64 = .ok (.newarray .long, 2) := by decide +kernel
theorem d_Cat_init_66 : decode prog_2_method_1_code 66 = .ok (.putfield 43, 3) := by decide +kernel
theorem d_Cat_init_69 : decode prog_2_method_1_code 69 = .ok (.aload_n 0, 1) := by decide +kernel
theorem d_Cat_init_70 : decode prog_2_method_1_code 70 = .ok (.bipush 7, 2) := by decide +kernel
theorem d_Cat_init_72 : decode prog_2_method_1_code 72 = .ok (.newarray .long, 2) := by decide +kernel
theorem d_Cat_init_74 : decode prog_2_method_1_code 74 = .ok (.putfield 46, 3) := by decide +kernel
theorem d_Cat_init_77 : decode prog_2_method_1_code 77 = .ok (.aload_n 0, 1) := by decide +kernel
theorem d_Cat_init_78 : decode prog_2_method_1_code 78 = .ok (.sipush 259, 3) := by decide +kernel
theorem d_Cat_init_81 : decode prog_2_method_1_code 81 = .ok (.newarray .long, 2) := by decide +kernel
theorem d_Cat_init_83 : decode prog_2_method_1_code 83 = .ok (.putfield 49, 3) := by decide +kernel
theorem d_Cat_init_86 : decode prog_2_method_1_code 86 = .ok (.aload_n 0, 1) := by decide +kernel
theorem d_Cat_init_87 : decode prog_2_method_1_code 87 = .ok (.iload_n 1, 1) := by decide +kernel
theorem d_Cat_init_88 : decode prog_2_method_1_code 88 = .ok (.putfield 52, 3) := by decide +kernel
theorem d_Cat_init_91 : decode prog_2_method_1_code 91 = .ok (.aload_n 0, 1) := by decide +kernel
theorem d_Cat_init_92 : decode prog_2_method_1_code 92 = .ok (.getfield 12, 3) := by decide +kernel
theorem d_Cat_init_95 : decode prog_2_method_1_code 95 = .ok (.iload_n 1, 1) := by decide +kernel
theorem d_Cat_init_96 : decode prog_2_method_1_code 96 = .ok (.invokevirtual 56, 3) := by decide +kernel
theorem d_Cat_init_99 : decode prog_2_method_1_code 99 = .ok (.aload_n 0, 1) := by decide +kernel
theorem d_Cat_init_100 : decode prog_2_method_1_code 100 = .ok (.iconst 0, 1) := by decide +kernel
theorem d_Cat_init_101 : decode prog_2_method_1_code 101 = .ok (.invokevirtual 60, 3) := by decide +kernel
theorem d_Cat_init_104 : decode prog_2_method_1_code 104 = .ok (.return_, 1) := by decide +kernel
theorem d_Cat_fillFrom_0 : decode prog_2_method_2_code 0 = .ok (.iload_n 1, 1) := by decide +kernel
theorem d_Cat_fillFrom_1 : decode prog_2_method_2_code 1 = .ok (.bipush 24, 2) := by decide +kernel
theorem d_Cat_fillFrom_3 : decode prog_2_method_2_code 3 = .ok (.if_icmp .lt 8, 3) := by decide +kernel
theorem d_Cat_fillFrom_6 : decode prog_2_method_2_code 6 = .ok (.aload_n 0, 1) := by decide +kernel
theorem d_Cat_fillFrom_7 : decode prog_2_method_2_code 7 = .ok (.invokevirtual 63, 3) := by decide +kernel
theorem d_Cat_fillFrom_10 : decode prog_2_method_2_code 10 = .ok (.return_, 1) := by decide +kernel
theorem d_Cat_fillFrom_11 : decode prog_2_method_2_code 11 = .ok (.aload_n 0, 1) := by decide +kernel
theorem d_Cat_fillFrom_12 : decode prog_2_method_2_code 12 = .ok (.iload_n 1, 1) := by decide +kernel
theorem d_Cat_fillFrom_13 : decode prog_2_method_2_code 13 = .ok (.iconst 1, 1) := by decide +kernel
theorem d_Cat_fillFrom_14 : decode prog_2_method_2_code 14 = .ok (.iadd, 1) := by decide +kernel
theorem d_Cat_fillFrom_15 : decode prog_2_method_2_code 15 = .ok (.invokevirtual 60, 3) := by decide +kernel
theorem d_Cat_fillFrom_18 : decode prog_2_method_2_code 18 = .ok (.iload_n 1, 1) := by decide +kernel
theorem d_Cat_fillFrom_19 : decode prog_2_method_2_code 19 = .ok (.invokestatic 66, 3) := by decide +kernel
theorem d_Cat_fillFrom_22 : decode prog_2_method_2_code 22 = .ok (.aload_n 0, 1) := by decide +kernel
theorem d_Cat_fillFrom_23 : decode prog_2_method_2_code 23 = .ok (.getfield 52, 3) := by decide +kernel
theorem d_Cat_fillFrom_26 : decode prog_2_method_2_code 26 = .ok (.if_icmp .lt 4, 3) := by decide +kernel
theorem d_Cat_fillFrom_29 : decode prog_2_method_2_code 29 = .ok (.return_, 1) := by decide +kernel
theorem d_Cat_fillFrom_30 : decode prog_2_method_2_code 30 = .ok (.iconst 1, 1) := by decide +kernel
theorem d_Cat_fillFrom_31 : decode prog_2_method_2_code 31 = .ok (.aload_n 0, 1) := by decide +kernel
theorem d_Cat_fillFrom_32 : decode prog_2_method_2_code 32 = .ok (.getfield 12, 3) := by decide +kernel
theorem d_Cat_fillFrom_35 : decode prog_2_method_2_code 35 = .ok (.iload_n 1, 1) := by decide +kernel
theorem d_Cat_fillFrom_36 : decode prog_2_method_2_code 36 = .ok (.invokestatic 70, 3) := by decide +kernel
theorem d_Cat_fillFrom_39 : decode prog_2_method_2_code 39 = .ok (.invokevirtual 73, 3) := by decide +kernel
theorem d_Cat_fillFrom_42 : decode prog_2_method_2_code 42 = .ok (.isub, 1) := by decide +kernel
theorem d_Cat_fillFrom_43 : decode prog_2_method_2_code 43 = .ok (.iload_n 1, 1) := by decide +kernel
theorem d_Cat_fillFrom_44 : decode prog_2_method_2_code 44 = .ok (.invokestatic 76, 3) := by decide +kernel
theorem d_Cat_fillFrom_47 : decode prog_2_method_2_code 47 = .ok (.idiv, 1) := by decide +kernel
theorem d_Cat_fillFrom_48 : decode prog_2_method_2_code 48 = .ok (.istore_n 2, 1) := by decide +kernel
theorem d_Cat_fillFrom_49 : decode prog_2_method_2_code 49 = .ok (.iconst 0, 1) := by decide +kernel
theorem d_Cat_fillFrom_50 : decode prog_2_method_2_code 50 = .ok (.istore_n 3, 1) := by decide +kernel
theorem d_Cat_fillFrom_51 : decode prog_2_method_2_code 51 = .ok (.iload_n 3, 1) := by decide +kernel
theorem d_Cat_fillFrom_52 : decode prog_2_method_2_code 52 = .ok (.iload_n 2, 1) := by decide +kernel
theorem d_Cat_fillFrom_53 : decode prog_2_method_2_code 53 = .ok (.if_icmp .ge 24, 3) := by decide +kernel
theorem d_Cat_fillFrom_56 : decode prog_2_method_2_code 56 = .ok (.aload_n 0, 1) := by decide +kernel
theorem d_Cat_fillFrom_57 : decode prog_2_method_2_code 57 = .ok (.getfield 12, 3) := by decide +kernel
theorem d_Cat_fillFrom_60 : decode prog_2_method_2_code 60 = .ok (.iload_n 1, 1) := by decide +kernel
theorem d_Cat_fillFrom_61 : decode prog_2_method_2_code 61 = .ok (.invokevirtual 79, 3) := by decide +kernel
theorem d_Cat_fillFrom_64 : decode prog_2_method_2_code 64 = .ok (.aload_n 0, 1) := by decide +kernel
theorem d_Cat_fillFrom_65 : decode prog_2_method_2_code 65 = .ok (.iload_n 1, 1) := by decide +kernel
theorem d_Cat_fillFrom_66 : decode prog_2_method_2_code 66 = .ok (.iconst 1, 1) := by decide +kernel
theorem d_Cat_fillFrom_67 : decode prog_2_method_2_code 67 = .ok (.iadd, 1) := by decide +kernel
theorem d_Cat_fillFrom_68 : decode prog_2_method_2_code 68 = .ok (.invokevirtual 60, 3) := by decide +kernel
theorem d_Cat_fillFrom_71 : decode prog_2_method_2_code 71 = .ok (.iinc 3 1, 3) := by decide +kernel
theorem d_Cat_fillFrom_74 : decode prog_2_method_2_code 74 = .ok (.goto (-23), 3) := by decide +kernel
theorem d_Cat_fillFrom_77 : decode prog_2_method_2_code 77 = .ok (.iconst 0, 1) := by decide +kernel
theorem d_Cat_fillFrom_78 : decode prog_2_method_2_code 78 = .ok (.istore_n 3, 1) := by decide +kernel
theorem d_Cat_fillFrom_79 : decode prog_2_method_2_code 79 = .ok (.iload_n 3, 1) := by decide +kernel
theorem d_Cat_fillFrom_80 : decode prog_2_method_2_code 80 = .ok (.iload_n 2, 1) := by decide +kernel
theorem d_Cat_fillFrom_81 : decode prog_2_method_2_code 81 = .ok (.if_icmp .ge 17, 3) := by decide +kernel
theorem d_Cat_fillFrom_84 : decode prog_2_method_2_code 84 = .ok (.aload_n 0, 1) := by decide +kernel
theorem d_Cat_fillFrom_85 : decode prog_2_method_2_code 85 = .ok (.getfield 12, 3) := by decide +kernel
theorem d_Cat_fillFrom_88 : decode prog_2_method_2_code 88 = .ok (.iload_n 1, 1) := by decide +kernel
theorem d_Cat_fillFrom_89 : decode prog_2_method_2_code 89 = .ok (.invokevirtual 82, 3) := by decide +kernel
theorem d_Cat_fillFrom_92 : decode prog_2_method_2_code 92 = .ok (.iinc 3 1, 3) := by decide +kernel
theorem d_Cat_fillFrom_95 : decode prog_2_method_2_code 95 = .ok (.goto (-16), 3) := by decide +kernel
theorem d_Cat_fillFrom_98 : decode prog_2_method_2_code 98 = .ok (.return_, 1) := by decide +kernel
theorem d_Cat_enter_0 : decode prog_2_method_3_code 0 = .ok (.aload_n 0, 1) := by decide +kernel
theorem d_Cat_enter_1 : decode prog_2_method_3_code 1 = .ok (.getfield 12, 3) := by decide +kernel
theorem d_Cat_enter_4 : decode prog_2_method_3_code 4 = .ok (.invokevirtual 85, 3) := by decide +kernel
theorem d_Cat_enter_7 : decode prog_2_method_3_code 7 = .ok (.istore_n 1, 1) := by decide +kernel
theorem d_Cat_enter_8 : decode prog_2_method_3_code 8 = .ok (.iload_n 1, 1) := by decide +kernel
theorem d_Cat_enter_9 : decode prog_2_method_3_code 9 = .ok (.invokestatic 89, 3) := by decide +kernel
theorem d_Cat_enter_12 : decode prog_2_method_3_code 12 = .ok (.ifCond .eq 12, 3) := by decide +kernel
theorem d_Cat_enter_15 : decode prog_2_method_3_code 15 = .ok (.aload_n 0, 1) := by decide +kernel
theorem d_Cat_enter_16 : decode prog_2_method_3_code 16 = .ok (.getfield 93, 3) := by decide +kernel
theorem d_Cat_enter_19 : decode prog_2_method_3_code 19 = .ok (.bipush 61, 2) := by decide +kernel
theorem d_Cat_enter_21 : decode prog_2_method_3_code 21 = .ok (.if_icmp .lt 4, 3) := by decide +kernel
theorem d_Cat_enter_24 : decode prog_2_method_3_code 24 = .ok (.return_, 1) := by decide +kernel
theorem d_Cat_enter_25 : decode prog_2_method_3_code 25 = .ok (.aload_n 0, 1) := by decide +kernel
theorem d_Cat_enter_26 : decode prog_2_method_3_code 26 = .ok (.getfield 32, 3) := by decide +kernel
theorem d_Cat_enter_29 : decode prog_2_method_3_code 29 = .ok (.aload_n 0, 1) := by decide +kernel
theorem d_Cat_enter_30 : decode prog_2_method_3_code 30 = .ok (.getfield 93, 3) := by decide +kernel
theorem d_Cat_enter_33 : decode prog_2_method_3_code 33 = .ok (.aload_n 0, 1) := by decide +kernel
theorem d_Cat_enter_34 : decode prog_2_method_3_code 34 = .ok (.getfield 12, 3) := by decide +kernel
theorem d_Cat_enter_37 : decode prog_2_method_3_code 37 = .ok (.invokevirtual 96, 3) := by decide +kernel
theorem d_Cat_enter_40 : decode prog_2_method_3_code 40 = .ok (.lastore, 1) := by decide +kernel
theorem d_Cat_enter_41 : decode prog_2_method_3_code 41 = .ok (.aload_n 0, 1) := by decide +kernel
theorem d_Cat_enter_42 : decode prog_2_method_3_code 42 = .ok (.getfield 36, 3) := by decide +kernel
theorem d_Cat_enter_45 : decode prog_2_method_3_code 45 = .ok (.aload_n 0, 1) := by decide +kernel
theorem d_Cat_enter_46 : decode prog_2_method_3_code 46 = .ok (.getfield 93, 3) := by decide +kernel
theorem d_Cat_enter_49 : decode prog_2_method_3_code 49 = .ok (.iload_n 1, 1) := by decide +kernel
theorem d_Cat_enter_50 : decode prog_2_method_3_code 50 = .ok (.iastore, 1) := by decide +kernel
theorem d_Cat_enter_51 : decode prog_2_method_3_code 51 = .ok (.aload_n 0, 1) := by decide +kernel
theorem d_Cat_enter_52 : decode prog_2_method_3_code 52 = .ok (.dup, 1) := by decide +kernel
theorem d_Cat_enter_53 : decode prog_2_method_3_code 53 = .ok (.getfield 93, 3) := by decide +kernel
theorem d_Cat_enter_56 : decode prog_2_method_3_code 56 = .ok (.iconst 1, 1) := by decide +kernel
theorem d_Cat_enter_57 : decode prog_2_method_3_code 57 = .ok (.iadd, 1) := by decide +kernel
theorem d_Cat_enter_58 : decode prog_2_method_3_code 58 = .ok (.putfield 93, 3) := by decide +kernel
theorem d_Cat_enter_61 : decode prog_2_method_3_code 61 = .ok (.aload_n 0, 1) := by decide +kernel
theorem d_Cat_enter_62 : decode prog_2_method_3_code 62 = .ok (.getfield 40, 3) := by decide +kernel
theorem d_Cat_enter_65 : decode prog_2_method_3_code 65 = .ok (.iload_n 1, 1) := by decide +kernel
theorem d_Cat_enter_66 : decode prog_2_method_3_code 66 = .ok (.dup2, 1) := by decide +kernel
theorem d_Cat_enter_67 : decode prog_2_method_3_code 67 = .ok (.iaload, 1) := by decide +kernel
theorem d_Cat_enter_68 : decode prog_2_method_3_code 68 = .ok (.iconst 1, 1) := by decide +kernel
theorem d_Cat_enter_69 : decode prog_2_method_3_code 69 = .ok (.iadd, 1) := by decide +kernel
theorem d_Cat_enter_70 : decode prog_2_method_3_code 70 = .ok (.iastore, 1) := by decide +kernel
theorem d_Cat_enter_71 : decode prog_2_method_3_code 71 = .ok (.aload_n 0, 1) := by decide +kernel
theorem d_Cat_enter_72 : decode prog_2_method_3_code 72 = .ok (.getfield 21, 3) := by decide +kernel
theorem d_Cat_enter_75 : decode prog_2_method_3_code 75 = .ok (.aload_n 0, 1) := by decide +kernel
theorem d_Cat_enter_76 : decode prog_2_method_3_code 76 = .ok (.getfield 12, 3) := by decide +kernel
theorem d_Cat_enter_79 : decode prog_2_method_3_code 79 = .ok (.iconst (-1), 1) := by decide +kernel
theorem d_Cat_enter_80 : decode prog_2_method_3_code 80 = .ok (.iconst 0, 1) := by decide +kernel
theorem d_Cat_enter_81 : decode prog_2_method_3_code 81 = .ok (.invokevirtual 100, 3) := by decide +kernel
theorem d_Cat_enter_84 : decode prog_2_method_3_code 84 = .ok (.lstore_n 2, 1) := by decide +kernel
theorem d_Cat_enter_85 : decode prog_2_method_3_code 85 = .ok (.aload_n 0, 1) := by decide +kernel
theorem d_Cat_enter_86 : decode prog_2_method_3_code 86 = .ok (.getfield 43, 3) := by decide +kernel
theorem d_Cat_enter_89 : decode prog_2_method_3_code 89 = .ok (.iload_n 1, 1) := by decide +kernel
theorem d_Cat_enter_90 : decode prog_2_method_3_code 90 = .ok (.dup2, 1) := by decide +kernel
theorem d_Cat_enter_91 : decode prog_2_method_3_code 91 = .ok (.laload, 1) := by decide +kernel
theorem d_Cat_enter_92 : decode prog_2_method_3_code 92 = .ok (.aload_n 0, 1) := by decide +kernel
theorem d_Cat_enter_93 : decode prog_2_method_3_code 93 = .ok (.getfield 12, 3) := by decide +kernel
theorem d_Cat_enter_96 : decode prog_2_method_3_code 96 = .ok (.invokevirtual 104, 3) := by decide +kernel
theorem d_Cat_enter_99 : decode prog_2_method_3_code 99 = .ok (.i2l, 1) := by decide +kernel
theorem d_Cat_enter_100 : decode prog_2_method_3_code 100 = .ok (.lload_n 2, 1) := by decide +kernel
theorem d_Cat_enter_101 : decode prog_2_method_3_code 101 = .ok (.lmul, 1) := by decide +kernel
theorem d_Cat_enter_102 : decode prog_2_method_3_code 102 = .ok (.ladd, 1) := by decide +kernel
theorem d_Cat_enter_103 : decode prog_2_method_3_code 103 = .ok (.lastore, 1) := by decide +kernel
theorem d_Cat_enter_104 : decode prog_2_method_3_code 104 = .ok (.aload_n 0, 1) := by decide +kernel
theorem d_Cat_enter_105 : decode prog_2_method_3_code 105 = .ok (.getfield 46, 3) := by decide +kernel
theorem d_Cat_enter_108 : decode prog_2_method_3_code 108 = .ok (.iload_n 1, 1) := by decide +kernel
theorem d_Cat_enter_109 : decode prog_2_method_3_code 109 = .ok (.dup2, 1) := by decide +kernel
theorem d_Cat_enter_110 : decode prog_2_method_3_code 110 = .ok (.laload, 1) := by decide +kernel
theorem d_Cat_enter_111 : decode prog_2_method_3_code 111 = .ok (.aload_n 0, 1) := by decide +kernel
theorem d_Cat_enter_112 : decode prog_2_method_3_code 112 = .ok (.getfield 12, 3) := by decide +kernel
theorem d_Cat_enter_115 : decode prog_2_method_3_code 115 = .ok (.invokevirtual 107, 3) := by decide +kernel
theorem d_Cat_enter_118 : decode prog_2_method_3_code 118 = .ok (.i2l, 1) := by decide +kernel
theorem d_Cat_enter_119 : decode prog_2_method_3_code 119 = .ok (.lload_n 2, 1) := by decide +kernel
theorem d_Cat_enter_120 : decode prog_2_method_3_code 120 = .ok (.lmul, 1) := by decide +kernel
theorem d_Cat_enter_121 : decode prog_2_method_3_code 121 = .ok (.ladd, 1) := by decide +kernel
theorem d_Cat_enter_122 : decode prog_2_method_3_code 122 = .ok (.lastore, 1) := by decide +kernel
theorem d_Cat_enter_123 : decode prog_2_method_3_code 123 = .ok (.aload_n 0, 1) := by decide +kernel
theorem d_Cat_enter_124 : decode prog_2_method_3_code 124 = .ok (.getfield 28, 3) := by decide +kernel
theorem d_Cat_enter_127 : decode prog_2_method_3_code 127 = .ok (.aload_n 0, 1) := by decide +kernel
theorem d_Cat_enter_128 : decode prog_2_method_3_code 128 = .ok (.getfield 12, 3) := by decide +kernel
theorem d_Cat_enter_131 : decode prog_2_method_3_code 131 = .ok (.invokevirtual 110, 3) := by decide +kernel
theorem d_Cat_enter_134 : decode prog_2_method_3_code 134 = .ok (.bipush (-18), 2) := by decide +kernel
theorem d_Cat_enter_136 : decode prog_2_method_3_code 136 = .ok (.istore 4, 2) := by decide +kernel
theorem d_Cat_enter_138 : decode prog_2_method_3_code 138 = .ok (.iload 4, 2) := by decide +kernel
theorem d_Cat_enter_140 : decode prog_2_method_3_code 140 = .ok (.bipush 18, 2) := by decide +kernel
theorem d_Cat_enter_142 : decode prog_2_method_3_code 142 = .ok (.if_icmp .gt 38, 3) := by decide +kernel
theorem d_Cat_enter_145 : decode prog_2_method_3_code 145 = .ok (.aload_n 0, 1) := by decide +kernel
theorem d_Cat_enter_146 : decode prog_2_method_3_code 146 = .ok (.getfield 49, 3) := by decide +kernel
theorem d_Cat_enter_149 : decode prog_2_method_3_code 149 = .ok (.iload_n 1, 1) := by decide +kernel
theorem d_Cat_enter_150 : decode prog_2_method_3_code 150 = .ok (.bipush 37, 2) := by decide +kernel
theorem d_Cat_enter_152 : decode prog_2_method_3_code 152 = .ok (.imul, 1) := by decide +kernel
theorem d_Cat_enter_153 : decode prog_2_method_3_code 153 = .ok (.bipush 18, 2) := by decide +kernel
theorem d_Cat_enter_155 : decode prog_2_method_3_code 155 = .ok (.iadd, 1) := by decide +kernel
theorem d_Cat_enter_156 : decode prog_2_method_3_code 156 = .ok (.iload 4, 2) := by decide +kernel
theorem d_Cat_enter_158 : decode prog_2_method_3_code 158 = .ok (.iadd, 1) := by decide +kernel
theorem d_Cat_enter_159 : decode prog_2_method_3_code 159 = .ok (.dup2, 1) := by decide +kernel
theorem d_Cat_enter_160 : decode prog_2_method_3_code 160 = .ok (.laload, 1) := by decide +kernel
theorem d_Cat_enter_161 : decode prog_2_method_3_code 161 = .ok (.aload_n 0, 1) := by decide +kernel
theorem d_Cat_enter_162 : decode prog_2_method_3_code 162 = .ok (.getfield 28, 3) := by decide +kernel
theorem d_Cat_enter_165 : decode prog_2_method_3_code 165 = .ok (.iload 4, 2) := by decide +kernel
theorem d_Cat_enter_167 : decode prog_2_method_3_code 167 = .ok (.invokevirtual 114, 3) := by decide +kernel
theorem d_Cat_enter_170 : decode prog_2_method_3_code 170 = .ok (.lload_n 2, 1) := by decide +kernel
theorem d_Cat_enter_171 : decode prog_2_method_3_code 171 = .ok (.lmul, 1) := by decide +kernel
theorem d_Cat_enter_172 : decode prog_2_method_3_code 172 = .ok (.ladd, 1) := by decide +kernel
theorem d_Cat_enter_173 : decode prog_2_method_3_code 173 = .ok (.lastore, 1) := by decide +kernel
theorem d_Cat_enter_174 : decode prog_2_method_3_code 174 = .ok (.iinc 4 1, 3) := by decide +kernel
theorem d_Cat_enter_177 : decode prog_2_method_3_code 177 = .ok (.goto (-39), 3) := by decide +kernel
theorem d_Cat_enter_180 : decode prog_2_method_3_code 180 = .ok (.return_, 1) := by decide +kernel
theorem d_Cat_isKnots_0 : decode prog_2_method_4_code 0 = .ok (.iload_n 0, 1) := by decide +kernel
theorem d_Cat_isKnots_1 : decode prog_2_method_4_code 1 = .ok (.ifCond .lt 13, 3) := by decide +kernel
theorem d_Cat_isKnots_4 : decode prog_2_method_4_code 4 = .ok (.iload_n 0, 1) := by decide +kernel
theorem d_Cat_isKnots_5 : decode prog_2_method_4_code 5 = .ok (.bipush 6, 2) := by decide +kernel
theorem d_Cat_isKnots_7 : decode prog_2_method_4_code 7 = .ok (.if_icmp .gt 7, 3) := by decide +kernel
theorem d_Cat_isKnots_10 : decode prog_2_method_4_code 10 = .ok (.iconst 1, 1) := by decide +kernel
theorem d_Cat_isKnots_11 : decode prog_2_method_4_code 11 = .ok (.goto 4, 3) := by decide +kernel
theorem d_Cat_isKnots_14 : decode prog_2_method_4_code 14 = .ok (.iconst 0, 1) := by decide +kernel
theorem d_Cat_isKnots_15 : decode prog_2_method_4_code 15 = .ok (.ireturn, 1) := by decide +kernel
theorem d_Cat_howMany_0 : decode prog_2_method_5_code 0 = .ok (.iload_n 1, 1) := by decide +kernel
theorem d_Cat_howMany_1 : decode prog_2_method_5_code 1 = .ok (.invokestatic 89, 3) := by decide +kernel
theorem d_Cat_howMany_4 : decode prog_2_method_5_code 4 = .ok (.ifCond .eq 12, 3) := by decide +kernel
theorem d_Cat_howMany_7 : decode prog_2_method_5_code 7 = .ok (.aload_n 0, 1) := by decide +kernel
theorem d_Cat_howMany_8 : decode prog_2_method_5_code 8 = .ok (.getfield 40, 3) := by decide +kernel
theorem d_Cat_howMany_11 : decode prog_2_method_5_code 11 = .ok (.iload_n 1, 1) := by decide +kernel
theorem d_Cat_howMany_12 : decode prog_2_method_5_code 12 = .ok (.iaload, 1) := by decide +kernel
theorem d_Cat_howMany_13 : decode prog_2_method_5_code 13 = .ok (.goto 4, 3) := by decide +kernel
theorem d_Cat_howMany_16 : decode prog_2_method_5_code 16 = .ok (.iconst 0, 1) := by decide +kernel
theorem d_Cat_howMany_17 : decode prog_2_method_5_code 17 = .ok (.ireturn, 1) := by decide +kernel
theorem d_Cat_counted_0 : decode prog_2_method_6_code 0 = .ok (.iload_n 1, 1) := by decide +kernel
theorem d_Cat_counted_1 : decode prog_2_method_6_code 1 = .ok (.invokestatic 89, 3) := by decide +kernel
theorem d_Cat_counted_4 : decode prog_2_method_6_code 4 = .ok (.ifCond .eq 12, 3) := by decide +kernel
theorem d_Cat_counted_7 : decode prog_2_method_6_code 7 = .ok (.aload_n 0, 1) := by decide +kernel
theorem d_Cat_counted_8 : decode prog_2_method_6_code 8 = .ok (.getfield 43, 3) := by decide +kernel
theorem d_Cat_counted_11 : decode prog_2_method_6_code 11 = .ok (.iload_n 1, 1) := by decide +kernel
theorem d_Cat_counted_12 : decode prog_2_method_6_code 12 = .ok (.laload, 1) := by decide +kernel
theorem d_Cat_counted_13 : decode prog_2_method_6_code 13 = .ok (.goto 4, 3) := by decide +kernel
theorem d_Cat_counted_16 : decode prog_2_method_6_code 16 = .ok (.lconst 0, 1) := by decide +kernel
theorem d_Cat_counted_17 : decode prog_2_method_6_code 17 = .ok (.lreturn, 1) := by decide +kernel
theorem d_Cat_countedBySign_0 : decode prog_2_method_7_code 0 = .ok (.iload_n 1, 1) := by decide +kernel
theorem d_Cat_countedBySign_1 : decode prog_2_method_7_code 1 = .ok (.invokestatic 89, 3) := by decide +kernel
theorem d_Cat_countedBySign_4 : decode prog_2_method_7_code 4 = .ok (.ifCond .eq 12, 3) := by decide +kernel
theorem d_Cat_countedBySign_7 : decode prog_2_method_7_code 7 = .ok (.aload_n 0, 1) := by decide +kernel
theorem d_Cat_countedBySign_8 : decode prog_2_method_7_code 8 = .ok (.getfield 46, 3) := by decide +kernel
theorem d_Cat_countedBySign_11 : decode prog_2_method_7_code 11 = .ok (.iload_n 1, 1) := by decide +kernel
theorem d_Cat_countedBySign_12 : decode prog_2_method_7_code 12 = .ok (.laload, 1) := by decide +kernel
theorem d_Cat_countedBySign_13 : decode prog_2_method_7_code 13 = .ok (.goto 4, 3) := by decide +kernel
theorem d_Cat_countedBySign_16 : decode prog_2_method_7_code 16 = .ok (.lconst 0, 1) := by decide +kernel
theorem d_Cat_countedBySign_17 : decode prog_2_method_7_code 17 = .ok (.lreturn, 1) := by decide +kernel
theorem d_Cat_countedByPower_0 : decode prog_2_method_8_code 0 = .ok (.iload_n 1, 1) := by decide +kernel
theorem d_Cat_countedByPower_1 : decode prog_2_method_8_code 1 = .ok (.invokestatic 89, 3) := by decide +kernel
theorem d_Cat_countedByPower_4 : decode prog_2_method_8_code 4 = .ok (.ifCond .eq 15, 3) := by decide +kernel
theorem d_Cat_countedByPower_7 : decode prog_2_method_8_code 7 = .ok (.iload_n 2, 1) := by decide +kernel
theorem d_Cat_countedByPower_8 : decode prog_2_method_8_code 8 = .ok (.bipush (-18), 2) := by decide +kernel
theorem d_Cat_countedByPower_10 : decode prog_2_method_8_code 10 = .ok (.if_icmp .lt 9, 3) := by decide +kernel
theorem d_Cat_countedByPower_13 : decode prog_2_method_8_code 13 = .ok (.iload_n 2, 1) := by decide +kernel
theorem d_Cat_countedByPower_14 : decode prog_2_method_8_code 14 = .ok (.bipush 18, 2) := by decide +kernel
theorem d_Cat_countedByPower_16 : decode prog_2_method_8_code 16 = .ok (.if_icmp .le 5, 3) := by decide +kernel
theorem d_Cat_countedByPower_19 : decode prog_2_method_8_code 19 = .ok (.lconst 0, 1) := by decide +kernel
theorem d_Cat_countedByPower_20 : decode prog_2_method_8_code 20 = .ok (.lreturn, 1) := by decide +kernel
theorem d_Cat_countedByPower_21 : decode prog_2_method_8_code 21 = .ok (.aload_n 0, 1) := by decide +kernel
theorem d_Cat_countedByPower_22 : decode prog_2_method_8_code 22 = .ok (.getfield 49, 3) := by decide +kernel
theorem d_Cat_countedByPower_25 : decode prog_2_method_8_code 25 = .ok (.iload_n 1, 1) := by decide +kernel
theorem d_Cat_countedByPower_26 : decode prog_2_method_8_code 26 = .ok (.bipush 37, 2) := by decide +kernel
theorem d_Cat_countedByPower_28 : decode prog_2_method_8_code 28 = .ok (.imul, 1) := by decide +kernel
theorem d_Cat_countedByPower_29 : decode prog_2_method_8_code 29 = .ok (.bipush 18, 2) := by decide +kernel
theorem d_Cat_countedByPower_31 : decode prog_2_method_8_code 31 = .ok (.iadd, 1) := by decide +kernel
theorem d_Cat_countedByPower_32 : decode prog_2_method_8_code 32 = .ok (.iload_n 2, 1) := by decide +kernel
theorem d_Cat_countedByPower_33 : decode prog_2_method_8_code 33 = .ok (.iadd, 1) := by decide +kernel
theorem d_Cat_countedByPower_34 : decode prog_2_method_8_code 34 = .ok (.laload, 1) := by decide +kernel
theorem d_Cat_countedByPower_35 : decode prog_2_method_8_code 35 = .ok (.lreturn, 1) := by decide +kernel
theorem d_Cat_rowAt_0 : decode prog_2_method_9_code 0 = .ok (.iconst 0, 1) := by decide +kernel
theorem d_Cat_rowAt_1 : decode prog_2_method_9_code 1 = .ok (.istore_n 3, 1) := by decide +kernel
theorem d_Cat_rowAt_2 : decode prog_2_method_9_code 2 = .ok (.iconst 0, 1) := by decide +kernel
theorem d_Cat_rowAt_3 : decode prog_2_method_9_code 3 = .ok (.istore 4, 2) := by decide +kernel
theorem d_Cat_rowAt_5 : decode prog_2_method_9_code 5 = .ok (.iload 4, 2) := by decide +kernel
theorem d_Cat_rowAt_7 : decode prog_2_method_9_code 7 = .ok (.aload_n 0, 1) := by decide +kernel
theorem d_Cat_rowAt_8 : decode prog_2_method_9_code 8 = .ok (.getfield 93, 3) := by decide +kernel
theorem d_Cat_rowAt_11 : decode prog_2_method_9_code 11 = .ok (.if_icmp .ge 43, 3) := by decide +kernel
theorem d_Cat_rowAt_14 : decode prog_2_method_9_code 14 = .ok (.iload 4, 2) := by decide +kernel
theorem d_Cat_rowAt_16 : decode prog_2_method_9_code 16 = .ok (.bipush 61, 2) := by decide +kernel
theorem d_Cat_rowAt_18 : decode prog_2_method_9_code 18 = .ok (.if_icmp .ge 36, 3) := by decide +kernel
theorem d_Cat_rowAt_21 : decode prog_2_method_9_code 21 = .ok (.aload_n 0, 1) := by decide +kernel
theorem d_Cat_rowAt_22 : decode prog_2_method_9_code 22 = .ok (.getfield 36, 3) := by decide +kernel
theorem d_Cat_rowAt_25 : decode prog_2_method_9_code 25 = .ok (.iload 4, 2) := by decide +kernel
theorem d_Cat_rowAt_27 : decode prog_2_method_9_code 27 = .ok (.iaload, 1) := by decide +kernel
theorem d_Cat_rowAt_28 : decode prog_2_method_9_code 28 = .ok (.iload_n 1, 1) := by decide +kernel
theorem d_Cat_rowAt_29 : decode prog_2_method_9_code 29 = .ok (.if_icmp .ne 19, 3) := by decide +kernel
theorem d_Cat_rowAt_32 : decode prog_2_method_9_code 32 = .ok (.iload_n 3, 1) := by decide +kernel
theorem d_Cat_rowAt_33 : decode prog_2_method_9_code 33 = .ok (.iload_n 2, 1) := by decide +kernel
theorem d_Cat_rowAt_34 : decode prog_2_method_9_code 34 = .ok (.if_icmp .ne 11, 3) := by decide +kernel
theorem d_Cat_rowAt_37 : decode prog_2_method_9_code 37 = .ok (.aload_n 0, 1) := by decide +kernel
theorem d_Cat_rowAt_38 : decode prog_2_method_9_code 38 = .ok (.getfield 32, 3) := by decide +kernel
theorem d_Cat_rowAt_41 : decode prog_2_method_9_code 41 = .ok (.iload 4, 2) := by decide +kernel
theorem d_Cat_rowAt_43 : decode prog_2_method_9_code 43 = .ok (.laload, 1) := by decide +kernel
theorem d_Cat_rowAt_44 : decode prog_2_method_9_code 44 = .ok (.lreturn, 1) := by decide +kernel
theorem d_Cat_rowAt_45 : decode prog_2_method_9_code 45 = .ok (.iinc 3 1, 3) := by decide +kernel
theorem d_Cat_rowAt_48 : decode prog_2_method_9_code 48 = .ok (.iinc 4 1, 3) := by decide +kernel
theorem d_Cat_rowAt_51 : decode prog_2_method_9_code 51 = .ok (.goto (-46), 3) := by decide +kernel
theorem d_Cat_rowAt_54 : decode prog_2_method_9_code 54 = .ok (.lconst 0, 1) := by decide +kernel
theorem d_Cat_rowAt_55 : decode prog_2_method_9_code 55 = .ok (.lreturn, 1) := by decide +kernel
theorem d_Cat_howManyBefore_0 : decode prog_2_method_10_code 0 = .ok (.iconst 0, 1) := by decide +kernel
theorem d_Cat_howManyBefore_1 : decode prog_2_method_10_code 1 = .ok (.istore 4, 2) := by decide +kernel
theorem d_Cat_howManyBefore_3 : decode prog_2_method_10_code 3 = .ok (.iconst 0, 1) := by decide +kernel
theorem d_Cat_howManyBefore_4 : decode prog_2_method_10_code 4 = .ok (.istore 5, 2) := by decide +kernel
theorem d_Cat_howManyBefore_6 : decode prog_2_method_10_code 6 = .ok (.iload 5, 2) := by decide +kernel
theorem d_Cat_howManyBefore_8 : decode prog_2_method_10_code 8 = .ok (.aload_n 0, 1) := by decide +kernel
theorem d_Cat_howManyBefore_9 : decode prog_2_method_10_code 9 = .ok (.getfield 93, 3) := by decide +kernel
theorem d_Cat_howManyBefore_12 : decode prog_2_method_10_code 12 = .ok (.if_icmp .ge 42, 3) := by decide +kernel
theorem d_Cat_howManyBefore_15 : decode prog_2_method_10_code 15 = .ok (.iload 5, 2) := by decide +kernel
theorem d_Cat_howManyBefore_17 : decode prog_2_method_10_code 17 = .ok (.bipush 61, 2) := by decide +kernel
theorem d_Cat_howManyBefore_19 : decode prog_2_method_10_code 19 = .ok (.if_icmp .ge 35, 3) := by decide +kernel
theorem d_Cat_howManyBefore_22 : decode prog_2_method_10_code 22 = .ok (.aload_n 0, 1) := by decide +kernel
theorem d_Cat_howManyBefore_23 : decode prog_2_method_10_code 23 = .ok (.getfield 36, 3) := by decide +kernel
theorem d_Cat_howManyBefore_26 : decode prog_2_method_10_code 26 = .ok (.iload 5, 2) := by decide +kernel
theorem d_Cat_howManyBefore_28 : decode prog_2_method_10_code 28 = .ok (.iaload, 1) := by decide +kernel
theorem d_Cat_howManyBefore_29 : decode prog_2_method_10_code 29 = .ok (.iload_n 1, 1) := by decide +kernel
theorem d_Cat_howManyBefore_30 : decode prog_2_method_10_code 30 = .ok (.if_icmp .ne 18, 3) := by decide +kernel
theorem d_Cat_howManyBefore_33 : decode prog_2_method_10_code 33 = .ok (.aload_n 0, 1) := by decide +kernel
theorem d_Cat_howManyBefore_34 : decode prog_2_method_10_code 34 = .ok (.getfield 32, 3) := by decide +kernel
theorem d_Cat_howManyBefore_37 : decode prog_2_method_10_code 37 = .ok (.iload 5, 2) := by decide +kernel
theorem d_Cat_howManyBefore_39 : decode prog_2_method_10_code 39 = .ok (.laload, 1) := by decide +kernel
theorem d_Cat_howManyBefore_40 : decode prog_2_method_10_code 40 = .ok (.lload_n 2, 1) := by decide +kernel
theorem d_Cat_howManyBefore_41 : decode prog_2_method_10_code 41 = .ok (.lcmp, 1) := by decide +kernel
theorem d_Cat_howManyBefore_42 : decode prog_2_method_10_code 42 = .ok (.ifCond .ge 6, 3) := by decide +kernel
theorem d_Cat_howManyBefore_45 : decode prog_2_method_10_code 45 = .ok (.iinc 4 1, 3) := by decide +kernel
theorem d_Cat_howManyBefore_48 : decode prog_2_method_10_code 48 = .ok (.iinc 5 1, 3) := by decide +kernel
theorem d_Cat_howManyBefore_51 : decode prog_2_method_10_code 51 = .ok (.goto (-45), 3) := by decide +kernel
theorem d_Cat_howManyBefore_54 : decode prog_2_method_10_code 54 = .ok (.iload 4, 2) := by decide +kernel
theorem d_Cat_howManyBefore_56 : decode prog_2_method_10_code 56 = .ok (.ireturn, 1) := by decide +kernel
theorem d_Mk_init_0 : decode prog_3_method_1_code 0 = .ok (.aload_n 0, 1) := by decide +kernel
theorem d_Mk_init_1 : decode prog_3_method_1_code 1 = .ok (.invokespecial 3, 3) := by decide +kernel
theorem d_Mk_init_4 : decode prog_3_method_1_code 4 = .ok (.aload_n 0, 1) := by decide +kernel
theorem d_Mk_init_5 : decode prog_3_method_1_code 5 = .ok (.bipush 10, 2) := by decide +kernel
theorem d_Mk_init_7 : decode prog_3_method_1_code 7 = .ok (.newarray .int, 2) := by decide +kernel
theorem d_Mk_init_9 : decode prog_3_method_1_code 9 = .ok (.putfield 11, 3) := by decide +kernel
theorem d_Mk_init_12 : decode prog_3_method_1_code 12 = .ok (.aload_n 0, 1) := by decide +kernel
theorem d_Mk_init_13 : decode prog_3_method_1_code 13 = .ok (.bipush 10, 2) := by decide +kernel
theorem d_Mk_init_15 : decode prog_3_method_1_code 15 = .ok (.newarray .int, 2) := by decide +kernel
theorem d_Mk_init_17 : decode prog_3_method_1_code 17 = .ok (.putfield 15, 3) := by decide +kernel
theorem d_Mk_init_20 : decode prog_3_method_1_code 20 = .ok (.aload_n 0, 1) := by decide +kernel
theorem d_Mk_init_21 : decode prog_3_method_1_code 21 = .ok (.bipush 10, 2) := by decide +kernel
theorem d_Mk_init_23 : decode prog_3_method_1_code 23 = .ok (.newarray .int, 2) := by decide +kernel
theorem d_Mk_init_25 : decode prog_3_method_1_code 25 = .ok (.putfield 18, 3) := by decide +kernel
theorem d_Mk_init_28 : decode prog_3_method_1_code 28 = .ok (.aload_n 0, 1) := by decide +kernel
theorem d_Mk_init_29 : decode prog_3_method_1_code 29 = .ok (.iconst 4, 1) := by decide +kernel
theorem d_Mk_init_30 : decode prog_3_method_1_code 30 = .ok (.newarray .int, 2) := by decide +kernel
theorem d_Mk_init_32 : decode prog_3_method_1_code 32 = .ok (.putfield 21, 3) := by decide +kernel
theorem d_Mk_init_35 : decode prog_3_method_1_code 35 = .ok (.return_, 1) := by decide +kernel
theorem d_Mk_ways_0 : decode prog_3_method_2_code 0 = .ok (.aload_n 1, 1) := by decide +kernel
theorem d_Mk_ways_1 : decode prog_3_method_2_code 1 = .ok (.ifnonnull 5, 3) := by decide +kernel
theorem d_Mk_ways_4 : decode prog_3_method_2_code 4 = .ok (.lconst 0, 1) := by decide +kernel
theorem d_Mk_ways_5 : decode prog_3_method_2_code 5 = .ok (.lreturn, 1) := by decide +kernel
theorem d_Mk_ways_6 : decode prog_3_method_2_code 6 = .ok (.aload_n 0, 1) := by decide +kernel
theorem d_Mk_ways_7 : decode prog_3_method_2_code 7 = .ok (.getfield 21, 3) := by decide +kernel
theorem d_Mk_ways_10 : decode prog_3_method_2_code 10 = .ok (.iconst 0, 1) := by decide +kernel
theorem d_Mk_ways_11 : decode prog_3_method_2_code 11 = .ok (.invokestatic 24, 3) := by decide +kernel
theorem d_Mk_ways_14 : decode prog_3_method_2_code 14 = .ok (.aload_n 0, 1) := by decide +kernel
theorem d_Mk_ways_15 : decode prog_3_method_2_code 15 = .ok (.iconst 0, 1) := by decide +kernel
theorem d_Mk_ways_16 : decode prog_3_method_2_code 16 = .ok (.putfield 30, 3) := by decide +kernel
theorem d_Mk_ways_19 : decode prog_3_method_2_code 19 = .ok (.aload_n 0, 1) := by decide +kernel
theorem d_Mk_ways_20 : decode prog_3_method_2_code 20 = .ok (.iload_n 2, 1) := by decide +kernel
theorem d_Mk_ways_21 : decode prog_3_method_2_code 21 = .ok (.putfield 34, 3) := by decide +kernel
theorem d_Mk_ways_24 : decode prog_3_method_2_code 24 = .ok (.aload_n 0, 1) := by decide +kernel
theorem d_Mk_ways_25 : decode prog_3_method_2_code 25 = .ok (.iload_n 3, 1) := by decide +kernel
theorem d_Mk_ways_26 : decode prog_3_method_2_code 26 = .ok (.putfield 37, 3) := by decide +kernel
theorem d_Mk_ways_29 : decode prog_3_method_2_code 29 = .ok (.iconst 0, 1) := by decide +kernel
theorem d_Mk_ways_30 : decode prog_3_method_2_code 30 = .ok (.istore 4, 2) := by decide +kernel
theorem d_Mk_ways_32 : decode prog_3_method_2_code 32 = .ok (.iload 4, 2) := by decide +kernel
theorem d_Mk_ways_34 : decode prog_3_method_2_code 34 = .ok (.bipush 24, 2) := by decide +kernel
theorem d_Mk_ways_36 : decode prog_3_method_2_code 36 = .ok (.if_icmp .ge 31, 3) := by decide +kernel
theorem d_Mk_ways_39 : decode prog_3_method_2_code 39 = .ok (.aload_n 0, 1) := by decide +kernel
theorem d_Mk_ways_40 : decode prog_3_method_2_code 40 = .ok (.iload 4, 2) := by decide +kernel
theorem d_Mk_ways_42 : decode prog_3_method_2_code 42 = .ok (.invokestatic 40, 3) := by decide +kernel
theorem d_Mk_ways_45 : decode prog_3_method_2_code 45 = .ok (.iload 4, 2) := by decide +kernel
theorem d_Mk_ways_47 : decode prog_3_method_2_code 47 = .ok (.invokestatic 44, 3) := by decide +kernel
theorem d_Mk_ways_50 : decode prog_3_method_2_code 50 = .ok (.iconst 1, 1) := by decide +kernel
theorem d_Mk_ways_51 : decode prog_3_method_2_code 51 = .ok (.isub, 1) := by decide +kernel
theorem d_Mk_ways_52 : decode prog_3_method_2_code 52 = .ok (.aload_n 1, 1) := by decide +kernel
theorem d_Mk_ways_53 : decode prog_3_method_2_code 53 = .ok (.iload 4, 2) := by decide +kernel
theorem d_Mk_ways_55 : decode prog_3_method_2_code 55 = .ok (.invokevirtual 47, 3) := by decide +kernel
theorem d_Mk_ways_58 : decode prog_3_method_2_code 58 = .ok (.invokevirtual 52, 3) := by decide +kernel
theorem d_Mk_ways_61 : decode prog_3_method_2_code 61 = .ok (.iinc 4 1, 3) := by decide +kernel
theorem d_Mk_ways_64 : decode prog_3_method_2_code 64 = .ok (.goto (-32), 3) := by decide +kernel
theorem d_Mk_ways_67 : decode prog_3_method_2_code 67 = .ok (.iconst 0, 1) := by decide +kernel
theorem d_Mk_ways_68 : decode prog_3_method_2_code 68 = .ok (.istore 4, 2) := by decide +kernel
theorem d_Mk_ways_70 : decode prog_3_method_2_code 70 = .ok (.iload 4, 2) := by decide +kernel
theorem d_Mk_ways_72 : decode prog_3_method_2_code 72 = .ok (.aload_n 1, 1) := by decide +kernel
theorem d_Mk_ways_73 : decode prog_3_method_2_code 73 = .ok (.invokevirtual 56, 3) := by decide +kernel
theorem d_Mk_ways_76 : decode prog_3_method_2_code 76 = .ok (.if_icmp .ge 29, 3) := by decide +kernel
theorem d_Mk_ways_79 : decode prog_3_method_2_code 79 = .ok (.aload_n 0, 1) := by decide +kernel
theorem d_Mk_ways_80 : decode prog_3_method_2_code 80 = .ok (.iload 4, 2) := by decide +kernel
theorem d_Mk_ways_82 : decode prog_3_method_2_code 82 = .ok (.aload_n 1, 1) := by decide +kernel
theorem d_Mk_ways_83 : decode prog_3_method_2_code 83 = .ok (.invokevirtual 56, 3) := by decide +kernel
theorem d_Mk_ways_86 : decode prog_3_method_2_code 86 = .ok (.iconst 1, 1) := by decide +kernel
theorem d_Mk_ways_87 : decode prog_3_method_2_code 87 = .ok (.isub, 1) := by decide +kernel
theorem d_Mk_ways_88 : decode prog_3_method_2_code 88 = .ok (.iconst 1, 1) := by decide +kernel
theorem d_Mk_ways_89 : decode prog_3_method_2_code 89 = .ok (.aload_n 1, 1) := by decide +kernel
theorem d_Mk_ways_90 : decode prog_3_method_2_code 90 = .ok (.iload 4, 2) := by decide +kernel
theorem d_Mk_ways_92 : decode prog_3_method_2_code 92 = .ok (.invokevirtual 60, 3) := by decide +kernel
theorem d_Mk_ways_95 : decode prog_3_method_2_code 95 = .ok (.isub, 1) := by decide +kernel
theorem d_Mk_ways_96 : decode prog_3_method_2_code 96 = .ok (.invokevirtual 52, 3) := by decide +kernel
theorem d_Mk_ways_99 : decode prog_3_method_2_code 99 = .ok (.iinc 4 1, 3) := by decide +kernel
theorem d_Mk_ways_102 : decode prog_3_method_2_code 102 = .ok (.goto (-32), 3) := by decide +kernel
theorem d_Mk_ways_105 : decode prog_3_method_2_code 105 = .ok (.aload_n 0, 1) := by decide +kernel
theorem d_Mk_ways_106 : decode prog_3_method_2_code 106 = .ok (.iconst 0, 1) := by decide +kernel
theorem d_Mk_ways_107 : decode prog_3_method_2_code 107 = .ok (.invokevirtual 63, 3) := by decide +kernel
theorem d_Mk_ways_110 : decode prog_3_method_2_code 110 = .ok (.lreturn, 1) := by decide +kernel
theorem d_Mk_addKind_0 : decode prog_3_method_3_code 0 = .ok (.iload_n 3, 1) := by decide +kernel
theorem d_Mk_addKind_1 : decode prog_3_method_3_code 1 = .ok (.ifCond .le 52, 3) := by decide +kernel
theorem d_Mk_addKind_4 : decode prog_3_method_3_code 4 = .ok (.aload_n 0, 1) := by decide +kernel
theorem d_Mk_addKind_5 : decode prog_3_method_3_code 5 = .ok (.getfield 30, 3) := by decide +kernel
theorem d_Mk_addKind_8 : decode prog_3_method_3_code 8 = .ok (.bipush 10, 2) := by decide +kernel
theorem d_Mk_addKind_10 : decode prog_3_method_3_code 10 = .ok (.if_icmp .ge 43, 3) := by decide +kernel
theorem d_Mk_addKind_13 : decode prog_3_method_3_code 13 = .ok (.aload_n 0, 1) := by decide +kernel
theorem d_Mk_addKind_14 : decode prog_3_method_3_code 14 = .ok (.getfield 11, 3) := by decide +kernel
theorem d_Mk_addKind_17 : decode prog_3_method_3_code 17 = .ok (.aload_n 0, 1) := by decide +kernel
theorem d_Mk_addKind_18 : decode prog_3_method_3_code 18 = .ok (.getfield 30, 3) := by decide +kernel
theorem d_Mk_addKind_21 : decode prog_3_method_3_code 21 = .ok (.iload_n 1, 1) := by decide +kernel
theorem d_Mk_addKind_22 : decode prog_3_method_3_code 22 = .ok (.iastore, 1) := by decide +kernel
theorem d_Mk_addKind_23 : decode prog_3_method_3_code 23 = .ok (.aload_n 0, 1) := by decide +kernel
theorem d_Mk_addKind_24 : decode prog_3_method_3_code 24 = .ok (.getfield 15, 3) := by decide +kernel
theorem d_Mk_addKind_27 : decode prog_3_method_3_code 27 = .ok (.aload_n 0, 1) := by decide +kernel
theorem d_Mk_addKind_28 : decode prog_3_method_3_code 28 = .ok (.getfield 30, 3) := by decide +kernel
theorem d_Mk_addKind_31 : decode prog_3_method_3_code 31 = .ok (.iload_n 2, 1) := by decide +kernel
theorem d_Mk_addKind_32 : decode prog_3_method_3_code 32 = .ok (.iastore, 1) := by decide +kernel
theorem d_Mk_addKind_33 : decode prog_3_method_3_code 33 = .ok (.aload_n 0, 1) := by decide +kernel
theorem d_Mk_addKind_34 : decode prog_3_method_3_code 34 = .ok (.getfield 18, 3) := by decide +kernel
theorem d_Mk_addKind_37 : decode prog_3_method_3_code 37 = .ok (.aload_n 0, 1) := by decide +kernel
theorem d_Mk_addKind_38 : decode prog_3_method_3_code 38 = .ok (.getfield 30, 3) := by decide +kernel
theorem d_Mk_addKind_41 : decode prog_3_method_3_code 41 = .ok (.iload_n 3, 1) := by decide +kernel
theorem d_Mk_addKind_42 : decode prog_3_method_3_code 42 = .ok (.iastore, 1) := by decide +kernel
theorem d_Mk_addKind_43 : decode prog_3_method_3_code 43 = .ok (.aload_n 0, 1) := by decide +kernel
theorem d_Mk_addKind_44 : decode prog_3_method_3_code 44 = .ok (.dup, 1) := by decide +kernel
theorem d_Mk_addKind_45 : decode prog_3_method_3_code 45 = .ok (.getfield 30, 3) := by decide +kernel
theorem d_Mk_addKind_48 : decode prog_3_method_3_code 48 = .ok (.iconst 1, 1) := by decide +kernel
theorem d_Mk_addKind_49 : decode prog_3_method_3_code 49 = .ok (.iadd, 1) := by decide +kernel
theorem d_Mk_addKind_50 : decode prog_3_method_3_code 50 = .ok (.putfield 30, 3) := by decide +kernel
theorem d_Mk_addKind_53 : decode prog_3_method_3_code 53 = .ok (.return_, 1) := by decide +kernel
theorem d_Mk_deal_0 : decode prog_3_method_4_code 0 = .ok (.iload_n 1, 1) := by decide +kernel
theorem d_Mk_deal_1 : decode prog_3_method_4_code 1 = .ok (.ifCond .lt 26, 3) := by decide +kernel
theorem d_Mk_deal_4 : decode prog_3_method_4_code 4 = .ok (.iload_n 1, 1) := by decide +kernel
theorem d_Mk_deal_5 : decode prog_3_method_4_code 5 = .ok (.aload_n 0, 1) := by decide +kernel
theorem d_Mk_deal_6 : decode prog_3_method_4_code 6 = .ok (.getfield 30, 3) := by decide +kernel
theorem d_Mk_deal_9 : decode prog_3_method_4_code 9 = .ok (.if_icmp .ge 18, 3) := by decide +kernel
theorem d_Mk_deal_12 : decode prog_3_method_4_code 12 = .ok (.iload_n 1, 1) := by decide +kernel
theorem d_Mk_deal_13 : decode prog_3_method_4_code 13 = .ok (.bipush 10, 2) := by decide +kernel
theorem d_Mk_deal_15 : decode prog_3_method_4_code 15 = .ok (.if_icmp .ge 12, 3) := by decide +kernel
theorem d_Mk_deal_18 : decode prog_3_method_4_code 18 = .ok (.iload_n 2, 1) := by decide +kernel
theorem d_Mk_deal_19 : decode prog_3_method_4_code 19 = .ok (.ifCond .lt 8, 3) := by decide +kernel
theorem d_Mk_deal_22 : decode prog_3_method_4_code 22 = .ok (.iload_n 2, 1) := by decide +kernel
theorem d_Mk_deal_23 : decode prog_3_method_4_code 23 = .ok (.iconst 4, 1) := by decide +kernel
theorem d_Mk_deal_24 : decode prog_3_method_4_code 24 = .ok (.if_icmp .lt 5, 3) := by decide +kernel
theorem d_Mk_deal_27 : decode prog_3_method_4_code 27 = .ok (.lconst 0, 1) := by decide +kernel
theorem d_Mk_deal_28 : decode prog_3_method_4_code 28 = .ok (.lreturn, 1) := by decide +kernel
theorem d_Mk_deal_29 : decode prog_3_method_4_code 29 = .ok (.lconst 0, 1) := by decide +kernel
theorem d_Mk_deal_30 : decode prog_3_method_4_code 30 = .ok (.lstore 4, 2) := by decide +kernel
theorem d_Mk_deal_32 : decode prog_3_method_4_code 32 = .ok (.lconst 1, 1) := by decide +kernel
theorem d_Mk_deal_33 : decode prog_3_method_4_code 33 = .ok (.lstore 6, 2) := by decide +kernel
theorem d_Mk_deal_35 : decode prog_3_method_4_code 35 = .ok (.aload_n 0, 1) := by decide +kernel
theorem d_Mk_deal_36 : decode prog_3_method_4_code 36 = .ok (.getfield 21, 3) := by decide +kernel
theorem d_Mk_deal_39 : decode prog_3_method_4_code 39 = .ok (.iload_n 2, 1) := by decide +kernel
theorem d_Mk_deal_40 : decode prog_3_method_4_code 40 = .ok (.iaload, 1) := by decide +kernel
theorem d_Mk_deal_41 : decode prog_3_method_4_code 41 = .ok (.istore 8, 2) := by decide +kernel
theorem d_Mk_deal_43 : decode prog_3_method_4_code 43 = .ok (.iconst 0, 1) := by decide +kernel
theorem d_Mk_deal_44 : decode prog_3_method_4_code 44 = .ok (.istore 9, 2) := by decide +kernel
theorem d_Mk_deal_46 : decode prog_3_method_4_code 46 = .ok (.iload 9, 2) := by decide +kernel
theorem d_Mk_deal_48 : decode prog_3_method_4_code 48 = .ok (.iload_n 3, 1) := by decide +kernel
theorem d_Mk_deal_49 : decode prog_3_method_4_code 49 = .ok (.if_icmp .gt 94, 3) := by decide +kernel
theorem d_Mk_deal_52 : decode prog_3_method_4_code 52 = .ok (.iload 9, 2) := by decide +kernel
theorem d_Mk_deal_54 : decode prog_3_method_4_code 54 = .ok (.ifCond .le 18, 3) := by decide +kernel
theorem d_Mk_deal_57 : decode prog_3_method_4_code 57 = .ok (.lload 6, 2) := by decide +kernel
theorem d_Mk_deal_59 : decode prog_3_method_4_code 59 = .ok (.iload 8, 2) := by decide +kernel
theorem d_Mk_deal_61 : decode prog_3_method_4_code 61 = .ok (.iload 9, 2) := by decide +kernel
theorem d_Mk_deal_63 : decode prog_3_method_4_code 63 = .ok (.iadd, 1) := by decide +kernel
theorem d_Mk_deal_64 : decode prog_3_method_4_code 64 = .ok (.i2l, 1) := by decide +kernel
theorem d_Mk_deal_65 : decode prog_3_method_4_code 65 = .ok (.lmul, 1) := by decide +kernel
theorem d_Mk_deal_66 : decode prog_3_method_4_code 66 = .ok (.iload 9, 2) := by decide +kernel
theorem d_Mk_deal_68 : decode prog_3_method_4_code 68 = .ok (.i2l, 1) := by decide +kernel
theorem d_Mk_deal_69 : decode prog_3_method_4_code 69 = .ok (.ldiv, 1) := by decide +kernel
theorem d_Mk_deal_70 : decode prog_3_method_4_code 70 = .ok (.lstore 6, 2) := by decide +kernel
theorem d_Mk_deal_72 : decode prog_3_method_4_code 72 = .ok (.aload_n 0, 1) := by decide +kernel
theorem d_Mk_deal_73 : decode prog_3_method_4_code 73 = .ok (.getfield 21, 3) := by decide +kernel
theorem d_Mk_deal_76 : decode prog_3_method_4_code 76 = .ok (.iload_n 2, 1) := by decide +kernel
theorem d_Mk_deal_77 : decode prog_3_method_4_code 77 = .ok (.iload 8, 2) := by decide +kernel
theorem d_Mk_deal_79 : decode prog_3_method_4_code 79 = .ok (.iload 9, 2) := by decide +kernel
theorem d_Mk_deal_81 : decode prog_3_method_4_code 81 = .ok (.iadd, 1) := by decide +kernel
theorem d_Mk_deal_82 : decode prog_3_method_4_code 82 = .ok (.iastore, 1) := by decide +kernel
theorem d_Mk_deal_83 : decode prog_3_method_4_code 83 = .ok (.iload 9, 2) := by decide +kernel
theorem d_Mk_deal_85 : decode prog_3_method_4_code 85 = .ok (.iload_n 3, 1) := by decide +kernel
theorem d_Mk_deal_86 : decode prog_3_method_4_code 86 = .ok (.if_icmp .ne 21, 3) := by decide +kernel
theorem d_Mk_deal_89 : decode prog_3_method_4_code 89 = .ok (.lload 4, 2) := by decide +kernel
theorem d_Mk_deal_91 : decode prog_3_method_4_code 91 = .ok (.lload 6, 2) := by decide +kernel
theorem d_Mk_deal_93 : decode prog_3_method_4_code 93 = .ok (.aload_n 0, 1) := by decide +kernel
theorem d_Mk_deal_94 : decode prog_3_method_4_code 94 = .ok (.iload_n 1, 1) := by decide +kernel
theorem d_Mk_deal_95 : decode prog_3_method_4_code 95 = .ok (.iconst 1, 1) := by decide +kernel
theorem d_Mk_deal_96 : decode prog_3_method_4_code 96 = .ok (.iadd, 1) := by decide +kernel
theorem d_Mk_deal_97 : decode prog_3_method_4_code 97 = .ok (.invokevirtual 63, 3) := by decide +kernel
theorem d_Mk_deal_100 : decode prog_3_method_4_code 100 = .ok (.lmul, 1) := by decide +kernel
theorem d_Mk_deal_101 : decode prog_3_method_4_code 101 = .ok (.ladd, 1) := by decide +kernel
theorem d_Mk_deal_102 : decode prog_3_method_4_code 102 = .ok (.lstore 4, 2) := by decide +kernel
theorem d_Mk_deal_104 : decode prog_3_method_4_code 104 = .ok (.goto 33, 3) := by decide +kernel
theorem d_Mk_deal_107 : decode prog_3_method_4_code 107 = .ok (.iload_n 2, 1) := by decide +kernel
theorem d_Mk_deal_108 : decode prog_3_method_4_code 108 = .ok (.aload_n 0, 1) := by decide +kernel
theorem d_Mk_deal_109 : decode prog_3_method_4_code 109 = .ok (.getfield 15, 3) := by decide +kernel
theorem d_Mk_deal_112 : decode prog_3_method_4_code 112 = .ok (.iload_n 1, 1) := by decide +kernel
theorem d_Mk_deal_113 : decode prog_3_method_4_code 113 = .ok (.iaload, 1) := by decide +kernel
theorem d_Mk_deal_114 : decode prog_3_method_4_code 114 = .ok (.if_icmp .ge 23, 3) := by decide +kernel
theorem d_Mk_deal_117 : decode prog_3_method_4_code 117 = .ok (.lload 4, 2) := by decide +kernel
theorem d_Mk_deal_119 : decode prog_3_method_4_code 119 = .ok (.lload 6, 2) := by decide +kernel
theorem d_Mk_deal_121 : decode prog_3_method_4_code 121 = .ok (.aload_n 0, 1) := by decide +kernel
theorem d_Mk_deal_122 : decode prog_3_method_4_code 122 = .ok (.iload_n 1, 1) := by decide +kernel
theorem d_Mk_deal_123 : decode prog_3_method_4_code 123 = .ok (.iload_n 2, 1) := by decide +kernel
theorem d_Mk_deal_124 : decode prog_3_method_4_code 124 = .ok (.iconst 1, 1) := by decide +kernel
theorem d_Mk_deal_125 : decode prog_3_method_4_code 125 = .ok (.iadd, 1) := by decide +kernel
theorem d_Mk_deal_126 : decode prog_3_method_4_code 126 = .ok (.iload_n 3, 1) := by decide +kernel
theorem d_Mk_deal_127 : decode prog_3_method_4_code 127 = .ok (.iload 9, 2) := by decide +kernel
theorem d_Mk_deal_129 : decode prog_3_method_4_code 129 = .ok (.isub, 1) := by decide +kernel
theorem d_Mk_deal_130 : decode prog_3_method_4_code 130 = .ok (.invokevirtual 67, 3) := by decide +kernel
theorem d_Mk_deal_133 : decode prog_3_method_4_code 133 = .ok (.lmul, 1) := by decide +kernel
theorem d_Mk_deal_134 : decode prog_3_method_4_code 134 = .ok (.ladd, 1) := by decide +kernel
theorem d_Mk_deal_135 : decode prog_3_method_4_code 135 = .ok (.lstore 4, 2) := by decide +kernel
theorem d_Mk_deal_137 : decode prog_3_method_4_code 137 = .ok (.iinc 9 1, 3) := by decide +kernel
theorem d_Mk_deal_140 : decode prog_3_method_4_code 140 = .ok (.goto (-94), 3) := by decide +kernel
theorem d_Mk_deal_143 : decode prog_3_method_4_code 143 = .ok (.aload_n 0, 1) := by decide +kernel
theorem d_Mk_deal_144 : decode prog_3_method_4_code 144 = .ok (.getfield 21, 3) := by decide +kernel
theorem d_Mk_deal_147 : decode prog_3_method_4_code 147 = .ok (.iload_n 2, 1) := by decide +kernel
theorem d_Mk_deal_148 : decode prog_3_method_4_code 148 = .ok (.iload 8, 2) := by decide +kernel
theorem d_Mk_deal_150 : decode prog_3_method_4_code 150 = .ok (.iastore, 1) := by decide +kernel
theorem d_Mk_deal_151 : decode prog_3_method_4_code 151 = .ok (.lload 4, 2) := by decide +kernel
theorem d_Mk_deal_153 : decode prog_3_method_4_code 153 = .ok (.lreturn, 1) := by decide +kernel
theorem d_Mk_dealNext_0 : decode prog_3_method_5_code 0 = .ok (.iload_n 1, 1) := by decide +kernel
theorem d_Mk_dealNext_1 : decode prog_3_method_5_code 1 = .ok (.ifCond .lt 35, 3) := by decide +kernel
theorem d_Mk_dealNext_4 : decode prog_3_method_5_code 4 = .ok (.iload_n 1, 1) := by decide +kernel
theorem d_Mk_dealNext_5 : decode prog_3_method_5_code 5 = .ok (.aload_n 0, 1) := by decide +kernel
theorem d_Mk_dealNext_6 : decode prog_3_method_5_code 6 = .ok (.getfield 30, 3) := by decide +kernel
theorem d_Mk_dealNext_9 : decode prog_3_method_5_code 9 = .ok (.if_icmp .ge 27, 3) := by decide +kernel
theorem d_Mk_dealNext_12 : decode prog_3_method_5_code 12 = .ok (.iload_n 1, 1) := by decide +kernel
theorem d_Mk_dealNext_13 : decode prog_3_method_5_code 13 = .ok (.bipush 10, 2) := by decide +kernel
theorem d_Mk_dealNext_15 : decode prog_3_method_5_code 15 = .ok (.if_icmp .ge 21, 3) := by decide +kernel
theorem d_Mk_dealNext_18 : decode prog_3_method_5_code 18 = .ok (.aload_n 0, 1) := by decide +kernel
theorem d_Mk_dealNext_19 : decode prog_3_method_5_code 19 = .ok (.iload_n 1, 1) := by decide +kernel
theorem d_Mk_dealNext_20 : decode prog_3_method_5_code 20 = .ok (.aload_n 0, 1) := by decide +kernel
theorem d_Mk_dealNext_21 : decode prog_3_method_5_code 21 = .ok (.getfield 11, 3) := by decide +kernel
theorem d_Mk_dealNext_24 : decode prog_3_method_5_code 24 = .ok (.iload_n 1, 1) := by decide +kernel
theorem d_Mk_dealNext_25 : decode prog_3_method_5_code 25 = .ok (.iaload, 1) := by decide +kernel
theorem d_Mk_dealNext_26 : decode prog_3_method_5_code 26 = .ok (.aload_n 0, 1) := by decide +kernel
theorem d_Mk_dealNext_27 : decode prog_3_method_5_code 27 = .ok (.getfield 18, 3) := by decide +kernel
theorem d_Mk_dealNext_30 : decode prog_3_method_5_code 30 = .ok (.iload_n 1, 1) := by decide +kernel
theorem d_Mk_dealNext_31 : decode prog_3_method_5_code 31 = .ok (.iaload, 1) := by decide +kernel
theorem d_Mk_dealNext_32 : decode prog_3_method_5_code 32 = .ok (.invokevirtual 67, 3) := by decide +kernel
theorem d_Mk_dealNext_35 : decode prog_3_method_5_code 35 = .ok (.lreturn, 1) := by decide +kernel
theorem d_Mk_dealNext_36 : decode prog_3_method_5_code 36 = .ok (.aload_n 0, 1) := by decide +kernel
theorem d_Mk_dealNext_37 : decode prog_3_method_5_code 37 = .ok (.getfield 34, 3) := by decide +kernel
theorem d_Mk_dealNext_40 : decode prog_3_method_5_code 40 = .ok (.ifCond .lt 27, 3) := by decide +kernel
theorem d_Mk_dealNext_43 : decode prog_3_method_5_code 43 = .ok (.aload_n 0, 1) := by decide +kernel
theorem d_Mk_dealNext_44 : decode prog_3_method_5_code 44 = .ok (.getfield 34, 3) := by decide +kernel
theorem d_Mk_dealNext_47 : decode prog_3_method_5_code 47 = .ok (.iconst 4, 1) := by decide +kernel
theorem d_Mk_dealNext_48 : decode prog_3_method_5_code 48 = .ok (.if_icmp .ge 19, 3) := by decide +kernel
theorem d_Mk_dealNext_51 : decode prog_3_method_5_code 51 = .ok (.aload_n 0, 1) := by decide +kernel
theorem d_Mk_dealNext_52 : decode prog_3_method_5_code 52 = .ok (.getfield 21, 3) := by decide +kernel
theorem d_Mk_dealNext_55 : decode prog_3_method_5_code 55 = .ok (.aload_n 0, 1) := by decide +kernel
theorem d_Mk_dealNext_56 : decode prog_3_method_5_code 56 = .ok (.getfield 34, 3) := by decide +kernel
theorem d_Mk_dealNext_59 : decode prog_3_method_5_code 59 = .ok (.iaload, 1) := by decide +kernel
theorem d_Mk_dealNext_60 : decode prog_3_method_5_code 60 = .ok (.aload_n 0, 1) := by decide +kernel
theorem d_Mk_dealNext_61 : decode prog_3_method_5_code 61 = .ok (.getfield 37, 3) := by decide +kernel
theorem d_Mk_dealNext_64 : decode prog_3_method_5_code 64 = .ok (.if_icmp .ne 7, 3) := by decide +kernel
theorem d_Mk_dealNext_67 : decode prog_3_method_5_code 67 = .ok (.lconst 1, 1) := by decide +kernel
theorem d_Mk_dealNext_68 : decode prog_3_method_5_code 68 = .ok (.goto 4, 3) := by decide +kernel
theorem d_Mk_dealNext_71 : decode prog_3_method_5_code 71 = .ok (.lconst 0, 1) := by decide +kernel
theorem d_Mk_dealNext_72 : decode prog_3_method_5_code 72 = .ok (.lreturn, 1) := by decide +kernel
theorem d_Pic_init_0 : decode prog_4_method_1_code 0 = .ok (.aload_n 0, 1) := by decide +kernel
theorem d_Pic_init_1 : decode prog_4_method_1_code 1 = .ok (.invokespecial 3, 3) := by decide +kernel
theorem d_Pic_init_4 : decode prog_4_method_1_code 4 = .ok (.aload_n 0, 1) := by decide +kernel
theorem d_Pic_init_5 : decode prog_4_method_1_code 5 = .ok (.iconst 1, 1) := by decide +kernel
theorem d_Pic_init_6 : decode prog_4_method_1_code 6 = .ok (.putfield 9, 3) := by decide +kernel
theorem d_Pic_init_9 : decode prog_4_method_1_code 9 = .ok (.aload_n 0, 1) := by decide +kernel
theorem d_Pic_init_10 : decode prog_4_method_1_code 10 = .ok (.bipush 24, 2) := by decide +kernel
theorem d_Pic_init_12 : decode prog_4_method_1_code 12 = .ok (.newarray .int, 2) := by decide +kernel
theorem d_Pic_init_14 : decode prog_4_method_1_code 14 = .ok (.putfield 15, 3) := by decide +kernel
theorem d_Pic_init_17 : decode prog_4_method_1_code 17 = .ok (.aload_n 0, 1) := by decide +kernel
theorem d_Pic_init_18 : decode prog_4_method_1_code 18 = .ok (.iconst 4, 1) := by decide +kernel
theorem d_Pic_init_19 : decode prog_4_method_1_code 19 = .ok (.newarray .int, 2) := by decide +kernel
theorem d_Pic_init_21 : decode prog_4_method_1_code 21 = .ok (.putfield 19, 3) := by decide +kernel
theorem d_Pic_init_24 : decode prog_4_method_1_code 24 = .ok (.return_, 1) := by decide +kernel
theorem d_Pic_clear_0 : decode prog_4_method_2_code 0 = .ok (.aload_n 0, 1) := by decide +kernel
theorem d_Pic_clear_1 : decode prog_4_method_2_code 1 = .ok (.iload_n 1, 1) := by decide +kernel
theorem d_Pic_clear_2 : decode prog_4_method_2_code 2 = .ok (.invokestatic 22, 3) := by decide +kernel
theorem d_Pic_clear_5 : decode prog_4_method_2_code 5 = .ok (.ifCond .eq 7, 3) := by decide +kernel
theorem d_Pic_clear_8 : decode prog_4_method_2_code 8 = .ok (.iload_n 1, 1) := by decide +kernel
theorem d_Pic_clear_9 : decode prog_4_method_2_code 9 = .ok (.goto 4, 3) := by decide +kernel
theorem d_Pic_clear_12 : decode prog_4_method_2_code 12 = .ok (.iconst 1, 1) := by decide +kernel
theorem d_Pic_clear_13 : decode prog_4_method_2_code 13 = .ok (.putfield 9, 3) := by decide +kernel
theorem d_Pic_clear_16 : decode prog_4_method_2_code 16 = .ok (.aload_n 0, 1) := by decide +kernel
theorem d_Pic_clear_17 : decode prog_4_method_2_code 17 = .ok (.iconst 0, 1) := by decide +kernel
theorem d_Pic_clear_18 : decode prog_4_method_2_code 18 = .ok (.putfield 26, 3) := by decide +kernel
theorem d_Pic_clear_21 : decode prog_4_method_2_code 21 = .ok (.aload_n 0, 1) := by decide +kernel
theorem d_Pic_clear_22 : decode prog_4_method_2_code 22 = .ok (.getfield 15, 3) := by decide +kernel
theorem d_Pic_clear_25 : decode prog_4_method_2_code 25 = .ok (.iconst 0, 1) := by decide +kernel
theorem d_Pic_clear_26 : decode prog_4_method_2_code 26 = .ok (.invokestatic 29, 3) := by decide +kernel
theorem d_Pic_clear_29 : decode prog_4_method_2_code 29 = .ok (.aload_n 0, 1) := by decide +kernel
theorem d_Pic_clear_30 : decode prog_4_method_2_code 30 = .ok (.getfield 19, 3) := by decide +kernel
theorem d_Pic_clear_33 : decode prog_4_method_2_code 33 = .ok (.iconst 0, 1) := by decide +kernel
theorem d_Pic_clear_34 : decode prog_4_method_2_code 34 = .ok (.invokestatic 29, 3) := by decide +kernel
theorem d_Pic_clear_37 : decode prog_4_method_2_code 37 = .ok (.return_, 1) := by decide +kernel
theorem d_Pic_copyOf_0 : decode prog_4_method_3_code 0 = .ok (.aload_n 1, 1) := by decide +kernel
theorem d_Pic_copyOf_1 : decode prog_4_method_3_code 1 = .ok (.ifnonnull 4, 3) := by decide +kernel
theorem d_Pic_copyOf_4 : decode prog_4_method_3_code 4 = .ok (.return_, 1) := by decide +kernel
theorem d_Pic_copyOf_5 : decode prog_4_method_3_code 5 = .ok (.aload_n 0, 1) := by decide +kernel
theorem d_Pic_copyOf_6 : decode prog_4_method_3_code 6 = .ok (.aload_n 1, 1) := by decide +kernel
theorem d_Pic_copyOf_7 : decode prog_4_method_3_code 7 = .ok (.getfield 9, 3) := by decide +kernel
theorem d_Pic_copyOf_10 : decode prog_4_method_3_code 10 = .ok (.putfield 9, 3) := by decide +kernel
theorem d_Pic_copyOf_13 : decode prog_4_method_3_code 13 = .ok (.aload_n 0, 1) := by decide +kernel
theorem d_Pic_copyOf_14 : decode prog_4_method_3_code 14 = .ok (.aload_n 1, 1) := by decide +kernel
theorem d_Pic_copyOf_15 : decode prog_4_method_3_code 15 = .ok (.getfield 26, 3) := by decide +kernel
theorem d_Pic_copyOf_18 : decode prog_4_method_3_code 18 = .ok (.putfield 26, 3) := by decide +kernel
theorem d_Pic_copyOf_21 : decode prog_4_method_3_code 21 = .ok (.aload_n 1, 1) := by decide +kernel
theorem d_Pic_copyOf_22 : decode prog_4_method_3_code 22 = .ok (.getfield 15, 3) := by decide +kernel
theorem d_Pic_copyOf_25 : decode prog_4_method_3_code 25 = .ok (.iconst 0, 1) := by decide +kernel
theorem d_Pic_copyOf_26 : decode prog_4_method_3_code 26 = .ok (.aload_n 0, 1) := by decide +kernel
theorem d_Pic_copyOf_27 : decode prog_4_method_3_code 27 = .ok (.getfield 15, 3) := by decide +kernel
theorem d_Pic_copyOf_30 : decode prog_4_method_3_code 30 = .ok (.iconst 0, 1) := by decide +kernel
theorem d_Pic_copyOf_31 : decode prog_4_method_3_code 31 = .ok (.bipush 24, 2) := by decide +kernel
theorem d_Pic_copyOf_33 : decode prog_4_method_3_code 33 = .ok (.invokestatic 35, 3) := by decide +kernel
theorem d_Pic_copyOf_36 : decode prog_4_method_3_code 36 = .ok (.aload_n 1, 1) := by decide +kernel
theorem d_Pic_copyOf_37 : decode prog_4_method_3_code 37 = .ok (.getfield 19, 3) := by decide +kernel
theorem d_Pic_copyOf_40 : decode prog_4_method_3_code 40 = .ok (.iconst 0, 1) := by decide +kernel
theorem d_Pic_copyOf_41 : decode prog_4_method_3_code 41 = .ok (.aload_n 0, 1) := by decide +kernel
theorem d_Pic_copyOf_42 : decode prog_4_method_3_code 42 = .ok (.getfield 19, 3) := by decide +kernel
theorem d_Pic_copyOf_45 : decode prog_4_method_3_code 45 = .ok (.iconst 0, 1) := by decide +kernel
theorem d_Pic_copyOf_46 : decode prog_4_method_3_code 46 = .ok (.iconst 4, 1) := by decide +kernel
theorem d_Pic_copyOf_47 : decode prog_4_method_3_code 47 = .ok (.invokestatic 35, 3) := by decide +kernel
theorem d_Pic_copyOf_50 : decode prog_4_method_3_code 50 = .ok (.return_, 1) := by decide +kernel
theorem d_Pic_degree_0 : decode prog_4_method_4_code 0 = .ok (.aload_n 0, 1) := by decide +kernel
theorem d_Pic_degree_1 : decode prog_4_method_4_code 1 = .ok (.getfield 9, 3) := by decide +kernel
theorem d_Pic_degree_4 : decode prog_4_method_4_code 4 = .ok (.ireturn, 1) := by decide +kernel
theorem d_Pic_stairCount_0 : decode prog_4_method_5_code 0 = .ok (.aload_n 0, 1) := by decide +kernel
theorem d_Pic_stairCount_1 : decode prog_4_method_5_code 1 = .ok (.getfield 26, 3) := by decide +kernel
theorem d_Pic_stairCount_4 : decode prog_4_method_5_code 4 = .ok (.ireturn, 1) := by decide +kernel
theorem d_Pic_hasFloor_0 : decode prog_4_method_6_code 0 = .ok (.iload_n 1, 1) := by decide +kernel
theorem d_Pic_hasFloor_1 : decode prog_4_method_6_code 1 = .ok (.ifCond .lt 15, 3) := by decide +kernel
theorem d_Pic_hasFloor_4 : decode prog_4_method_6_code 4 = .ok (.iload_n 1, 1) := by decide +kernel
theorem d_Pic_hasFloor_5 : decode prog_4_method_6_code 5 = .ok (.aload_n 0, 1) := by decide +kernel
theorem d_Pic_hasFloor_6 : decode prog_4_method_6_code 6 = .ok (.getfield 9, 3) := by decide +kernel
theorem d_Pic_hasFloor_9 : decode prog_4_method_6_code 9 = .ok (.if_icmp .ge 7, 3) := by decide +kernel
theorem d_Pic_hasFloor_12 : decode prog_4_method_6_code 12 = .ok (.iconst 1, 1) := by decide +kernel
theorem d_Pic_hasFloor_13 : decode prog_4_method_6_code 13 = .ok (.goto 4, 3) := by decide +kernel
theorem d_Pic_hasFloor_16 : decode prog_4_method_6_code 16 = .ok (.iconst 0, 1) := by decide +kernel
theorem d_Pic_hasFloor_17 : decode prog_4_method_6_code 17 = .ok (.ireturn, 1) := by decide +kernel
theorem d_Pic_spotOf_0 : decode prog_4_method_7_code 0 = .ok (.iload_n 3, 1) := by decide +kernel
theorem d_Pic_spotOf_1 : decode prog_4_method_7_code 1 = .ok (.iconst 1, 1) := by decide +kernel
theorem d_Pic_spotOf_2 : decode prog_4_method_7_code 2 = .ok (.if_icmp .lt 16, 3) := by decide +kernel
theorem d_Pic_spotOf_5 : decode prog_4_method_7_code 5 = .ok (.iload_n 3, 1) := by decide +kernel
theorem d_Pic_spotOf_6 : decode prog_4_method_7_code 6 = .ok (.iconst 4, 1) := by decide +kernel
theorem d_Pic_spotOf_7 : decode prog_4_method_7_code 7 = .ok (.if_icmp .gt 11, 3) := by decide +kernel
theorem d_Pic_spotOf_10 : decode prog_4_method_7_code 10 = .ok (.aload_n 0, 1) := by decide +kernel
theorem d_Pic_spotOf_11 : decode prog_4_method_7_code 11 = .ok (.iload_n 2, 1) := by decide +kernel
theorem d_Pic_spotOf_12 : decode prog_4_method_7_code 12 = .ok (.invokevirtual 41, 3) := by decide +kernel
theorem d_Pic_spotOf_15 : decode prog_4_method_7_code 15 = .ok (.ifCond .ne 5, 3) := by decide +kernel
theorem d_Pic_spotOf_18 : decode prog_4_method_7_code 18 = .ok (.iconst (-1), 1) := by decide +kernel
theorem d_Pic_spotOf_19 : decode prog_4_method_7_code 19 = .ok (.ireturn, 1) := by decide +kernel
theorem d_Pic_spotOf_20 : decode prog_4_method_7_code 20 = .ok (.iconst 0, 1) := by decide +kernel
theorem d_Pic_spotOf_21 : decode prog_4_method_7_code 21 = .ok (.istore 4, 2) := by decide +kernel
theorem d_Pic_spotOf_23 : decode prog_4_method_7_code 23 = .ok (.iload 4, 2) := by decide +kernel
theorem d_Pic_spotOf_25 : decode prog_4_method_7_code 25 = .ok (.bipush 6, 2) := by decide +kernel
theorem d_Pic_spotOf_27 : decode prog_4_method_7_code 27 = .ok (.if_icmp .ge 38, 3) := by decide +kernel
theorem d_Pic_spotOf_30 : decode prog_4_method_7_code 30 = .ok (.getstatic 44, 3) := by decide +kernel
theorem d_Pic_spotOf_33 : decode prog_4_method_7_code 33 = .ok (.iload 4, 2) := by decide +kernel
theorem d_Pic_spotOf_35 : decode prog_4_method_7_code 35 = .ok (.iaload, 1) := by decide +kernel
theorem d_Pic_spotOf_36 : decode prog_4_method_7_code 36 = .ok (.iload_n 1, 1) := by decide +kernel
theorem d_Pic_spotOf_37 : decode prog_4_method_7_code 37 = .ok (.if_icmp .ne 22, 3) := by decide +kernel
theorem d_Pic_spotOf_40 : decode prog_4_method_7_code 40 = .ok (.getstatic 47, 3) := by decide +kernel
theorem d_Pic_spotOf_43 : decode prog_4_method_7_code 43 = .ok (.iload 4, 2) := by decide +kernel
theorem d_Pic_spotOf_45 : decode prog_4_method_7_code 45 = .ok (.iaload, 1) := by decide +kernel
theorem d_Pic_spotOf_46 : decode prog_4_method_7_code 46 = .ok (.iload_n 2, 1) := by decide +kernel
theorem d_Pic_spotOf_47 : decode prog_4_method_7_code 47 = .ok (.if_icmp .ne 12, 3) := by decide +kernel
theorem d_Pic_spotOf_50 : decode prog_4_method_7_code 50 = .ok (.iload 4, 2) := by decide +kernel
theorem d_Pic_spotOf_52 : decode prog_4_method_7_code 52 = .ok (.iconst 4, 1) := by decide +kernel
theorem d_Pic_spotOf_53 : decode prog_4_method_7_code 53 = .ok (.imul, 1) := by decide +kernel
theorem d_Pic_spotOf_54 : decode prog_4_method_7_code 54 = .ok (.iload_n 3, 1) := by decide +kernel
theorem d_Pic_spotOf_55 : decode prog_4_method_7_code 55 = .ok (.iadd, 1) := by decide +kernel
theorem d_Pic_spotOf_56 : decode prog_4_method_7_code 56 = .ok (.iconst 1, 1) := by decide +kernel
theorem d_Pic_spotOf_57 : decode prog_4_method_7_code 57 = .ok (.isub, 1) := by decide +kernel
theorem d_Pic_spotOf_58 : decode prog_4_method_7_code 58 = .ok (.ireturn, 1) := by decide +kernel
theorem d_Pic_spotOf_59 : decode prog_4_method_7_code 59 = .ok (.iinc 4 1, 3) := by decide +kernel
theorem d_Pic_spotOf_62 : decode prog_4_method_7_code 62 = .ok (.goto (-39), 3) := by decide +kernel
theorem d_Pic_spotOf_65 : decode prog_4_method_7_code 65 = .ok (.iconst (-1), 1) := by decide +kernel
theorem d_Pic_spotOf_66 : decode prog_4_method_7_code 66 = .ok (.ireturn, 1) := by decide +kernel
theorem d_Pic_spotOfStair_0 : decode prog_4_method_8_code 0 = .ok (.iload_n 1, 1) := by decide +kernel
theorem d_Pic_spotOfStair_1 : decode prog_4_method_8_code 1 = .ok (.ifCond .lt 11, 3) := by decide +kernel
theorem d_Pic_spotOfStair_4 : decode prog_4_method_8_code 4 = .ok (.iload_n 1, 1) := by decide +kernel
theorem d_Pic_spotOfStair_5 : decode prog_4_method_8_code 5 = .ok (.aload_n 0, 1) := by decide +kernel
theorem d_Pic_spotOfStair_6 : decode prog_4_method_8_code 6 = .ok (.getfield 26, 3) := by decide +kernel
theorem d_Pic_spotOfStair_9 : decode prog_4_method_8_code 9 = .ok (.if_icmp .lt 5, 3) := by decide +kernel
theorem d_Pic_spotOfStair_12 : decode prog_4_method_8_code 12 = .ok (.iconst (-1), 1) := by decide +kernel
theorem d_Pic_spotOfStair_13 : decode prog_4_method_8_code 13 = .ok (.ireturn, 1) := by decide +kernel
theorem d_Pic_spotOfStair_14 : decode prog_4_method_8_code 14 = .ok (.iconst 0, 1) := by decide +kernel
theorem d_Pic_spotOfStair_15 : decode prog_4_method_8_code 15 = .ok (.istore_n 2, 1) := by decide +kernel
theorem d_Pic_spotOfStair_16 : decode prog_4_method_8_code 16 = .ok (.iconst 0, 1) := by decide +kernel
theorem d_Pic_spotOfStair_17 : decode prog_4_method_8_code 17 = .ok (.istore_n 3, 1) := by decide +kernel
theorem d_Pic_spotOfStair_18 : decode prog_4_method_8_code 18 = .ok (.iload_n 3, 1) := by decide +kernel
theorem d_Pic_spotOfStair_19 : decode prog_4_method_8_code 19 = .ok (.bipush 24, 2) := by decide +kernel
theorem d_Pic_spotOfStair_21 : decode prog_4_method_8_code 21 = .ok (.if_icmp .ge 25, 3) := by decide +kernel
theorem d_Pic_spotOfStair_24 : decode prog_4_method_8_code 24 = .ok (.iload_n 2, 1) := by decide +kernel
theorem d_Pic_spotOfStair_25 : decode prog_4_method_8_code 25 = .ok (.aload_n 0, 1) := by decide +kernel
theorem d_Pic_spotOfStair_26 : decode prog_4_method_8_code 26 = .ok (.getfield 15, 3) := by decide +kernel
theorem d_Pic_spotOfStair_29 : decode prog_4_method_8_code 29 = .ok (.iload_n 3, 1) := by decide +kernel
theorem d_Pic_spotOfStair_30 : decode prog_4_method_8_code 30 = .ok (.iaload, 1) := by decide +kernel
theorem d_Pic_spotOfStair_31 : decode prog_4_method_8_code 31 = .ok (.iadd, 1) := by decide +kernel
theorem d_Pic_spotOfStair_32 : decode prog_4_method_8_code 32 = .ok (.istore_n 2, 1) := by decide +kernel
theorem d_Pic_spotOfStair_33 : decode prog_4_method_8_code 33 = .ok (.iload_n 2, 1) := by decide +kernel
theorem d_Pic_spotOfStair_34 : decode prog_4_method_8_code 34 = .ok (.iload_n 1, 1) := by decide +kernel
theorem d_Pic_spotOfStair_35 : decode prog_4_method_8_code 35 = .ok (.if_icmp .le 5, 3) := by decide +kernel
theorem d_Pic_spotOfStair_38 : decode prog_4_method_8_code 38 = .ok (.iload_n 3, 1) := by decide +kernel
theorem d_Pic_spotOfStair_39 : decode prog_4_method_8_code 39 = .ok (.ireturn, 1) := by decide +kernel
theorem d_Pic_spotOfStair_40 : decode prog_4_method_8_code 40 = .ok (.iinc 3 1, 3) := by decide +kernel
theorem d_Pic_spotOfStair_43 : decode prog_4_method_8_code 43 = .ok (.goto (-25), 3) := by decide +kernel
theorem d_Pic_spotOfStair_46 : decode prog_4_method_8_code 46 = .ok (.iconst (-1), 1) := by decide +kernel
theorem d_Pic_spotOfStair_47 : decode prog_4_method_8_code 47 = .ok (.ireturn, 1) := by decide +kernel
theorem d_Pic_amountAt_0 : decode prog_4_method_9_code 0 = .ok (.iload_n 1, 1) := by decide +kernel
theorem d_Pic_amountAt_1 : decode prog_4_method_9_code 1 = .ok (.ifCond .lt 18, 3) := by decide +kernel
theorem d_Pic_amountAt_4 : decode prog_4_method_9_code 4 = .ok (.iload_n 1, 1) := by decide +kernel
theorem d_Pic_amountAt_5 : decode prog_4_method_9_code 5 = .ok (.bipush 24, 2) := by decide +kernel
theorem d_Pic_amountAt_7 : decode prog_4_method_9_code 7 = .ok (.if_icmp .ge 12, 3) := by decide +kernel
theorem d_Pic_amountAt_10 : decode prog_4_method_9_code 10 = .ok (.aload_n 0, 1) := by decide +kernel
theorem d_Pic_amountAt_11 : decode prog_4_method_9_code 11 = .ok (.getfield 15, 3) := by decide +kernel
theorem d_Pic_amountAt_14 : decode prog_4_method_9_code 14 = .ok (.iload_n 1, 1) := by decide +kernel
theorem d_Pic_amountAt_15 : decode prog_4_method_9_code 15 = .ok (.iaload, 1) := by decide +kernel
theorem d_Pic_amountAt_16 : decode prog_4_method_9_code 16 = .ok (.goto 4, 3) := by decide +kernel
theorem d_Pic_amountAt_19 : decode prog_4_method_9_code 19 = .ok (.iconst 0, 1) := by decide +kernel
theorem d_Pic_amountAt_20 : decode prog_4_method_9_code 20 = .ok (.ireturn, 1) := by decide +kernel
theorem d_Pic_add_0 : decode prog_4_method_10_code 0 = .ok (.aload_n 0, 1) := by decide +kernel
theorem d_Pic_add_1 : decode prog_4_method_10_code 1 = .ok (.iload_n 1, 1) := by decide +kernel
theorem d_Pic_add_2 : decode prog_4_method_10_code 2 = .ok (.iconst 1, 1) := by decide +kernel
theorem d_Pic_add_3 : decode prog_4_method_10_code 3 = .ok (.invokevirtual 50, 3) := by decide +kernel
theorem d_Pic_add_6 : decode prog_4_method_10_code 6 = .ok (.return_, 1) := by decide +kernel
theorem d_Pic_remove_0 : decode prog_4_method_11_code 0 = .ok (.aload_n 0, 1) := by decide +kernel
theorem d_Pic_remove_1 : decode prog_4_method_11_code 1 = .ok (.iload_n 1, 1) := by decide +kernel
theorem d_Pic_remove_2 : decode prog_4_method_11_code 2 = .ok (.iconst (-1), 1) := by decide +kernel
theorem d_Pic_remove_3 : decode prog_4_method_11_code 3 = .ok (.invokevirtual 50, 3) := by decide +kernel
theorem d_Pic_remove_6 : decode prog_4_method_11_code 6 = .ok (.return_, 1) := by decide +kernel
theorem d_Pic_change_0 : decode prog_4_method_12_code 0 = .ok (.iload_n 1, 1) := by decide +kernel
theorem d_Pic_change_1 : decode prog_4_method_12_code 1 = .ok (.ifCond .lt 9, 3) := by decide +kernel
theorem d_Pic_change_4 : decode prog_4_method_12_code 4 = .ok (.iload_n 1, 1) := by decide +kernel
theorem d_Pic_change_5 : decode prog_4_method_12_code 5 = .ok (.bipush 24, 2) := by decide +kernel
theorem d_Pic_change_7 : decode prog_4_method_12_code 7 = .ok (.if_icmp .lt 4, 3) := by decide +kernel
theorem d_Pic_change_10 : decode prog_4_method_12_code 10 = .ok (.return_, 1) := by decide +kernel
theorem d_Pic_change_11 : decode prog_4_method_12_code 11 = .ok (.aload_n 0, 1) := by decide +kernel
theorem d_Pic_change_12 : decode prog_4_method_12_code 12 = .ok (.getfield 15, 3) := by decide +kernel
theorem d_Pic_change_15 : decode prog_4_method_12_code 15 = .ok (.iload_n 1, 1) := by decide +kernel
theorem d_Pic_change_16 : decode prog_4_method_12_code 16 = .ok (.dup2, 1) := by decide +kernel
theorem d_Pic_change_17 : decode prog_4_method_12_code 17 = .ok (.iaload, 1) := by decide +kernel
theorem d_Pic_change_18 : decode prog_4_method_12_code 18 = .ok (.iload_n 2, 1) := by decide +kernel
theorem d_Pic_change_19 : decode prog_4_method_12_code 19 = .ok (.iadd, 1) := by decide +kernel
theorem d_Pic_change_20 : decode prog_4_method_12_code 20 = .ok (.iastore, 1) := by decide +kernel
theorem d_Pic_change_21 : decode prog_4_method_12_code 21 = .ok (.aload_n 0, 1) := by decide +kernel
theorem d_Pic_change_22 : decode prog_4_method_12_code 22 = .ok (.dup, 1) := by decide +kernel
theorem d_Pic_change_23 : decode prog_4_method_12_code 23 = .ok (.getfield 26, 3) := by decide +kernel
theorem d_Pic_change_26 : decode prog_4_method_12_code 26 = .ok (.iload_n 2, 1) := by decide +kernel
theorem d_Pic_change_27 : decode prog_4_method_12_code 27 = .ok (.iadd, 1) := by decide +kernel
theorem d_Pic_change_28 : decode prog_4_method_12_code 28 = .ok (.putfield 26, 3) := by decide +kernel
theorem d_Pic_change_31 : decode prog_4_method_12_code 31 = .ok (.aload_n 0, 1) := by decide +kernel
theorem d_Pic_change_32 : decode prog_4_method_12_code 32 = .ok (.getfield 19, 3) := by decide +kernel
theorem d_Pic_change_35 : decode prog_4_method_12_code 35 = .ok (.iload_n 1, 1) := by decide +kernel
theorem d_Pic_change_36 : decode prog_4_method_12_code 36 = .ok (.invokestatic 54, 3) := by decide +kernel
theorem d_Pic_change_39 : decode prog_4_method_12_code 39 = .ok (.dup2, 1) := by decide +kernel
theorem d_Pic_change_40 : decode prog_4_method_12_code 40 = .ok (.iaload, 1) := by decide +kernel
theorem d_Pic_change_41 : decode prog_4_method_12_code 41 = .ok (.iload_n 2, 1) := by decide +kernel
theorem d_Pic_change_42 : decode prog_4_method_12_code 42 = .ok (.iload_n 1, 1) := by decide +kernel
theorem d_Pic_change_43 : decode prog_4_method_12_code 43 = .ok (.invokestatic 58, 3) := by decide +kernel
theorem d_Pic_change_46 : decode prog_4_method_12_code 46 = .ok (.imul, 1) := by decide +kernel
theorem d_Pic_change_47 : decode prog_4_method_12_code 47 = .ok (.iadd, 1) := by decide +kernel
theorem d_Pic_change_48 : decode prog_4_method_12_code 48 = .ok (.iastore, 1) := by decide +kernel
theorem d_Pic_change_49 : decode prog_4_method_12_code 49 = .ok (.aload_n 0, 1) := by decide +kernel
theorem d_Pic_change_50 : decode prog_4_method_12_code 50 = .ok (.getfield 19, 3) := by decide +kernel
theorem d_Pic_change_53 : decode prog_4_method_12_code 53 = .ok (.iload_n 1, 1) := by decide +kernel
theorem d_Pic_change_54 : decode prog_4_method_12_code 54 = .ok (.invokestatic 61, 3) := by decide +kernel
theorem d_Pic_change_57 : decode prog_4_method_12_code 57 = .ok (.dup2, 1) := by decide +kernel
theorem d_Pic_change_58 : decode prog_4_method_12_code 58 = .ok (.iaload, 1) := by decide +kernel
theorem d_Pic_change_59 : decode prog_4_method_12_code 59 = .ok (.iload_n 2, 1) := by decide +kernel
theorem d_Pic_change_60 : decode prog_4_method_12_code 60 = .ok (.iload_n 1, 1) := by decide +kernel
theorem d_Pic_change_61 : decode prog_4_method_12_code 61 = .ok (.invokestatic 58, 3) := by decide +kernel
theorem d_Pic_change_64 : decode prog_4_method_12_code 64 = .ok (.imul, 1) := by decide +kernel
theorem d_Pic_change_65 : decode prog_4_method_12_code 65 = .ok (.isub, 1) := by decide +kernel
theorem d_Pic_change_66 : decode prog_4_method_12_code 66 = .ok (.iastore, 1) := by decide +kernel
theorem d_Pic_change_67 : decode prog_4_method_12_code 67 = .ok (.return_, 1) := by decide +kernel
theorem d_Pic_outOf_0 : decode prog_4_method_13_code 0 = .ok (.aload_n 0, 1) := by decide +kernel
theorem d_Pic_outOf_1 : decode prog_4_method_13_code 1 = .ok (.iload_n 1, 1) := by decide +kernel
theorem d_Pic_outOf_2 : decode prog_4_method_13_code 2 = .ok (.invokevirtual 41, 3) := by decide +kernel
theorem d_Pic_outOf_5 : decode prog_4_method_13_code 5 = .ok (.ifCond .eq 17, 3) := by decide +kernel
theorem d_Pic_outOf_8 : decode prog_4_method_13_code 8 = .ok (.iload_n 1, 1) := by decide +kernel
theorem d_Pic_outOf_9 : decode prog_4_method_13_code 9 = .ok (.iconst 4, 1) := by decide +kernel
theorem d_Pic_outOf_10 : decode prog_4_method_13_code 10 = .ok (.if_icmp .ge 12, 3) := by decide +kernel
theorem d_Pic_outOf_13 : decode prog_4_method_13_code 13 = .ok (.aload_n 0, 1) := by decide +kernel
theorem d_Pic_outOf_14 : decode prog_4_method_13_code 14 = .ok (.getfield 19, 3) := by decide +kernel
theorem d_Pic_outOf_17 : decode prog_4_method_13_code 17 = .ok (.iload_n 1, 1) := by decide +kernel
theorem d_Pic_outOf_18 : decode prog_4_method_13_code 18 = .ok (.iaload, 1) := by decide +kernel
theorem d_Pic_outOf_19 : decode prog_4_method_13_code 19 = .ok (.goto 4, 3) := by decide +kernel
theorem d_Pic_outOf_22 : decode prog_4_method_13_code 22 = .ok (.iconst 0, 1) := by decide +kernel
theorem d_Pic_outOf_23 : decode prog_4_method_13_code 23 = .ok (.ireturn, 1) := by decide +kernel
theorem d_Pic_isRight_0 : decode prog_4_method_14_code 0 = .ok (.iconst 0, 1) := by decide +kernel
theorem d_Pic_isRight_1 : decode prog_4_method_14_code 1 = .ok (.istore_n 1, 1) := by decide +kernel
theorem d_Pic_isRight_2 : decode prog_4_method_14_code 2 = .ok (.iload_n 1, 1) := by decide +kernel
theorem d_Pic_isRight_3 : decode prog_4_method_14_code 3 = .ok (.aload_n 0, 1) := by decide +kernel
theorem d_Pic_isRight_4 : decode prog_4_method_14_code 4 = .ok (.getfield 9, 3) := by decide +kernel
theorem d_Pic_isRight_7 : decode prog_4_method_14_code 7 = .ok (.if_icmp .ge 20, 3) := by decide +kernel
theorem d_Pic_isRight_10 : decode prog_4_method_14_code 10 = .ok (.aload_n 0, 1) := by decide +kernel
theorem d_Pic_isRight_11 : decode prog_4_method_14_code 11 = .ok (.iload_n 1, 1) := by decide +kernel
theorem d_Pic_isRight_12 : decode prog_4_method_14_code 12 = .ok (.invokevirtual 64, 3) := by decide +kernel
theorem d_Pic_isRight_15 : decode prog_4_method_14_code 15 = .ok (.iconst 1, 1) := by decide +kernel
theorem d_Pic_isRight_16 : decode prog_4_method_14_code 16 = .ok (.if_icmp .le 5, 3) := by decide +kernel
theorem d_Pic_isRight_19 : decode prog_4_method_14_code 19 = .ok (.iconst 0, 1) := by decide +kernel
theorem d_Pic_isRight_20 : decode prog_4_method_14_code 20 = .ok (.ireturn, 1) := by decide +kernel
theorem d_Pic_isRight_21 : decode prog_4_method_14_code 21 = .ok (.iinc 1 1, 3) := by decide +kernel
theorem d_Pic_isRight_24 : decode prog_4_method_14_code 24 = .ok (.goto (-22), 3) := by decide +kernel
theorem d_Pic_isRight_27 : decode prog_4_method_14_code 27 = .ok (.iconst 1, 1) := by decide +kernel
theorem d_Pic_isRight_28 : decode prog_4_method_14_code 28 = .ok (.ireturn, 1) := by decide +kernel
theorem d_Pic_isRightTurned_0 : decode prog_4_method_15_code 0 = .ok (.iconst 0, 1) := by decide +kernel
theorem d_Pic_isRightTurned_1 : decode prog_4_method_15_code 1 = .ok (.istore_n 1, 1) := by decide +kernel
theorem d_Pic_isRightTurned_2 : decode prog_4_method_15_code 2 = .ok (.iload_n 1, 1) := by decide +kernel
theorem d_Pic_isRightTurned_3 : decode prog_4_method_15_code 3 = .ok (.aload_n 0, 1) := by decide +kernel
theorem d_Pic_isRightTurned_4 : decode prog_4_method_15_code 4 = .ok (.getfield 9, 3) := by decide +kernel
theorem d_Pic_isRightTurned_7 : decode prog_4_method_15_code 7 = .ok (.if_icmp .ge 20, 3) := by decide +kernel
theorem d_Pic_isRightTurned_10 : decode prog_4_method_15_code 10 = .ok (.aload_n 0, 1) := by decide +kernel
theorem d_Pic_isRightTurned_11 : decode prog_4_method_15_code 11 = .ok (.iload_n 1, 1) := by decide +kernel
theorem d_Pic_isRightTurned_12 : decode prog_4_method_15_code 12 = .ok (.invokevirtual 64, 3) := by decide +kernel
theorem d_Pic_isRightTurned_15 : decode prog_4_method_15_code 15 = .ok (.iconst (-1), 1) := by decide +kernel
theorem d_Pic_isRightTurned_16 : decode prog_4_method_15_code 16 = .ok (.if_icmp .ge 5, 3) := by decide +kernel
theorem d_Pic_isRightTurned_19 : decode prog_4_method_15_code 19 = .ok (.iconst 0, 1) := by decide +kernel
theorem d_Pic_isRightTurned_20 : decode prog_4_method_15_code 20 = .ok (.ireturn, 1) := by decide +kernel
theorem d_Pic_isRightTurned_21 : decode prog_4_method_15_code 21 = .ok (.iinc 1 1, 3) := by decide +kernel
theorem d_Pic_isRightTurned_24 : decode prog_4_method_15_code 24 = .ok (.goto (-22), 3) := by decide +kernel
theorem d_Pic_isRightTurned_27 : decode prog_4_method_15_code 27 = .ok (.iconst 1, 1) := by decide +kernel
theorem d_Pic_isRightTurned_28 : decode prog_4_method_15_code 28 = .ok (.ireturn, 1) := by decide +kernel
theorem d_Pic_knots_0 : decode prog_4_method_16_code 0 = .ok (.aload_n 0, 1) := by decide +kernel
theorem d_Pic_knots_1 : decode prog_4_method_16_code 1 = .ok (.getfield 9, 3) := by decide +kernel
theorem d_Pic_knots_4 : decode prog_4_method_16_code 4 = .ok (.aload_n 0, 1) := by decide +kernel
theorem d_Pic_knots_5 : decode prog_4_method_16_code 5 = .ok (.getfield 9, 3) := by decide +kernel
theorem d_Pic_knots_8 : decode prog_4_method_16_code 8 = .ok (.iconst 1, 1) := by decide +kernel
theorem d_Pic_knots_9 : decode prog_4_method_16_code 9 = .ok (.isub, 1) := by decide +kernel
theorem d_Pic_knots_10 : decode prog_4_method_16_code 10 = .ok (.imul, 1) := by decide +kernel
theorem d_Pic_knots_11 : decode prog_4_method_16_code 11 = .ok (.iconst 2, 1) := by decide +kernel
theorem d_Pic_knots_12 : decode prog_4_method_16_code 12 = .ok (.idiv, 1) := by decide +kernel
theorem d_Pic_knots_13 : decode prog_4_method_16_code 13 = .ok (.aload_n 0, 1) := by decide +kernel
theorem d_Pic_knots_14 : decode prog_4_method_16_code 14 = .ok (.getfield 26, 3) := by decide +kernel
theorem d_Pic_knots_17 : decode prog_4_method_16_code 17 = .ok (.isub, 1) := by decide +kernel
theorem d_Pic_knots_18 : decode prog_4_method_16_code 18 = .ok (.ireturn, 1) := by decide +kernel
theorem d_Pic_parts_0 : decode prog_4_method_17_code 0 = .ok (.iconst 0, 1) := by decide +kernel
theorem d_Pic_parts_1 : decode prog_4_method_17_code 1 = .ok (.istore_n 1, 1) := by decide +kernel
theorem d_Pic_parts_2 : decode prog_4_method_17_code 2 = .ok (.iconst 0, 1) := by decide +kernel
theorem d_Pic_parts_3 : decode prog_4_method_17_code 3 = .ok (.istore_n 2, 1) := by decide +kernel
theorem d_Pic_parts_4 : decode prog_4_method_17_code 4 = .ok (.iconst 0, 1) := by decide +kernel
theorem d_Pic_parts_5 : decode prog_4_method_17_code 5 = .ok (.istore_n 3, 1) := by decide +kernel
theorem d_Pic_parts_6 : decode prog_4_method_17_code 6 = .ok (.iload_n 3, 1) := by decide +kernel
theorem d_Pic_parts_7 : decode prog_4_method_17_code 7 = .ok (.aload_n 0, 1) := by decide +kernel
theorem d_Pic_parts_8 : decode prog_4_method_17_code 8 = .ok (.getfield 9, 3) := by decide +kernel
theorem d_Pic_parts_11 : decode prog_4_method_17_code 11 = .ok (.if_icmp .ge 28, 3) := by decide +kernel
theorem d_Pic_parts_14 : decode prog_4_method_17_code 14 = .ok (.iload_n 2, 1) := by decide +kernel
theorem d_Pic_parts_15 : decode prog_4_method_17_code 15 = .ok (.iload_n 3, 1) := by decide +kernel
theorem d_Pic_parts_16 : decode prog_4_method_17_code 16 = .ok (.ishr, 1) := by decide +kernel
theorem d_Pic_parts_17 : decode prog_4_method_17_code 17 = .ok (.iconst 1, 1) := by decide +kernel
theorem d_Pic_parts_18 : decode prog_4_method_17_code 18 = .ok (.iand, 1) := by decide +kernel
theorem d_Pic_parts_19 : decode prog_4_method_17_code 19 = .ok (.ifCond .ne 14, 3) := by decide +kernel
theorem d_Pic_parts_22 : decode prog_4_method_17_code 22 = .ok (.iload_n 2, 1) := by decide +kernel
theorem d_Pic_parts_23 : decode prog_4_method_17_code 23 = .ok (.aload_n 0, 1) := by decide +kernel
theorem d_Pic_parts_24 : decode prog_4_method_17_code 24 = .ok (.iload_n 3, 1) := by decide +kernel
theorem d_Pic_parts_25 : decode prog_4_method_17_code 25 = .ok (.invokevirtual 67, 3) := by decide +kernel
theorem d_Pic_parts_28 : decode prog_4_method_17_code 28 = .ok (.ior, 1) := by decide +kernel
theorem d_Pic_parts_29 : decode prog_4_method_17_code 29 = .ok (.istore_n 2, 1) := by decide +kernel
theorem d_Pic_parts_30 : decode prog_4_method_17_code 30 = .ok (.iinc 1 1, 3) := by decide +kernel
theorem d_Pic_parts_33 : decode prog_4_method_17_code 33 = .ok (.iinc 3 1, 3) := by decide +kernel
theorem d_Pic_parts_36 : decode prog_4_method_17_code 36 = .ok (.goto (-30), 3) := by decide +kernel
theorem d_Pic_parts_39 : decode prog_4_method_17_code 39 = .ok (.iload_n 1, 1) := by decide +kernel
theorem d_Pic_parts_40 : decode prog_4_method_17_code 40 = .ok (.ireturn, 1) := by decide +kernel
theorem d_Pic_hangingTogetherWith_0 : decode prog_4_method_18_code 0 = .ok (.iconst 1, 1) := by decide +kernel
theorem d_Pic_hangingTogetherWith_1 : decode prog_4_method_18_code 1 = .ok (.iload_n 1, 1) := by decide +kernel
theorem d_Pic_hangingTogetherWith_2 : decode prog_4_method_18_code 2 = .ok (.ishl, 1) := by decide +kernel
theorem d_Pic_hangingTogetherWith_3 : decode prog_4_method_18_code 3 = .ok (.istore_n 2, 1) := by decide +kernel
theorem d_Pic_hangingTogetherWith_4 : decode prog_4_method_18_code 4 = .ok (.iconst 1, 1) := by decide +kernel
theorem d_Pic_hangingTogetherWith_5 : decode prog_4_method_18_code 5 = .ok (.istore_n 3, 1) := by decide +kernel
theorem d_Pic_hangingTogetherWith_6 : decode prog_4_method_18_code 6 = .ok (.iload_n 3, 1) := by decide +kernel
theorem d_Pic_hangingTogetherWith_7 : decode prog_4_method_18_code 7 = .ok (.aload_n 0, 1) := by decide +kernel
theorem d_Pic_hangingTogetherWith_8 : decode prog_4_method_18_code 8 = .ok (.getfield 9, 3) := by decide +kernel
theorem d_Pic_hangingTogetherWith_11 : decode prog_4_method_18_code 11 = .ok (.if_icmp .ge 64, 3) := by decide +kernel
theorem d_Pic_hangingTogetherWith_14 : decode prog_4_method_18_code 14 = .ok (.iconst 0, 1) := by decide +kernel
theorem d_Pic_hangingTogetherWith_15 : decode prog_4_method_18_code 15 = .ok (.istore 4, 2) := by decide +kernel
theorem d_Pic_hangingTogetherWith_17 : decode prog_4_method_18_code 17 = .ok (.iload 4, 2) := by decide +kernel
theorem d_Pic_hangingTogetherWith_19 : decode prog_4_method_18_code 19 = .ok (.bipush 24, 2) := by decide +kernel
theorem d_Pic_hangingTogetherWith_21 : decode prog_4_method_18_code 21 = .ok (.if_icmp .ge 48, 3) := by decide +kernel
theorem d_Pic_hangingTogetherWith_24 : decode prog_4_method_18_code 24 = .ok (.iconst 1, 1) := by decide +kernel
theorem d_Pic_hangingTogetherWith_25 : decode prog_4_method_18_code 25 = .ok (.iload 4, 2) := by decide +kernel
theorem d_Pic_hangingTogetherWith_27 : decode prog_4_method_18_code 27 = .ok (.invokestatic 54, 3) := by decide +kernel
theorem d_Pic_hangingTogetherWith_30 : decode prog_4_method_18_code 30 = .ok (.ishl, 1) := by decide +kernel
theorem d_Pic_hangingTogetherWith_31 : decode prog_4_method_18_code 31 = .ok (.iconst 1, 1) := by decide +kernel
theorem d_Pic_hangingTogetherWith_32 : decode prog_4_method_18_code 32 = .ok (.iload 4, 2) := by decide +kernel
theorem d_Pic_hangingTogetherWith_34 : decode prog_4_method_18_code 34 = .ok (.invokestatic 61, 3) := by decide +kernel
theorem d_Pic_hangingTogetherWith_37 : decode prog_4_method_18_code 37 = .ok (.ishl, 1) := by decide +kernel
theorem d_Pic_hangingTogetherWith_38 : decode prog_4_method_18_code 38 = .ok (.ior, 1) := by decide +kernel
theorem d_Pic_hangingTogetherWith_39 : decode prog_4_method_18_code 39 = .ok (.istore 5, 2) := by decide +kernel
theorem d_Pic_hangingTogetherWith_41 : decode prog_4_method_18_code 41 = .ok (.aload_n 0, 1) := by decide +kernel
theorem d_Pic_hangingTogetherWith_42 : decode prog_4_method_18_code 42 = .ok (.getfield 15, 3) := by decide +kernel
theorem d_Pic_hangingTogetherWith_45 : decode prog_4_method_18_code 45 = .ok (.iload 4, 2) := by decide +kernel
theorem d_Pic_hangingTogetherWith_47 : decode prog_4_method_18_code 47 = .ok (.iaload, 1) := by decide +kernel
theorem d_Pic_hangingTogetherWith_48 : decode prog_4_method_18_code 48 = .ok (.ifCond .le 15, 3) := by decide +kernel
theorem d_Pic_hangingTogetherWith_51 : decode prog_4_method_18_code 51 = .ok (.iload_n 2, 1) := by decide +kernel
theorem d_Pic_hangingTogetherWith_52 : decode prog_4_method_18_code 52 = .ok (.iload 5, 2) := by decide +kernel
theorem d_Pic_hangingTogetherWith_54 : decode prog_4_method_18_code 54 = .ok (.iand, 1) := by decide +kernel
theorem d_Pic_hangingTogetherWith_55 : decode prog_4_method_18_code 55 = .ok (.ifCond .eq 8, 3) := by decide +kernel
theorem d_Pic_hangingTogetherWith_58 : decode prog_4_method_18_code 58 = .ok (.iload_n 2, 1) := by decide +kernel
theorem d_Pic_hangingTogetherWith_59 : decode prog_4_method_18_code 59 = .ok (.iload 5, 2) := by decide +kernel
theorem d_Pic_hangingTogetherWith_61 : decode prog_4_method_18_code 61 = .ok (.ior, 1) := by decide +kernel
theorem d_Pic_hangingTogetherWith_62 : decode prog_4_method_18_code 62 = .ok (.istore_n 2, 1) := by decide +kernel
theorem d_Pic_hangingTogetherWith_63 : decode prog_4_method_18_code 63 = .ok (.iinc 4 1, 3) := by decide +kernel
theorem d_Pic_hangingTogetherWith_66 : decode prog_4_method_18_code 66 = .ok (.goto (-49), 3) := by decide +kernel
theorem d_Pic_hangingTogetherWith_69 : decode prog_4_method_18_code 69 = .ok (.iinc 3 1, 3) := by decide +kernel
theorem d_Pic_hangingTogetherWith_72 : decode prog_4_method_18_code 72 = .ok (.goto (-66), 3) := by decide +kernel
theorem d_Pic_hangingTogetherWith_75 : decode prog_4_method_18_code 75 = .ok (.iload_n 2, 1) := by decide +kernel
theorem d_Pic_hangingTogetherWith_76 : decode prog_4_method_18_code 76 = .ok (.ireturn, 1) := by decide +kernel
theorem d_Pic_mult_0 : decode prog_4_method_19_code 0 = .ok (.iconst 1, 1) := by decide +kernel
theorem d_Pic_mult_1 : decode prog_4_method_19_code 1 = .ok (.istore_n 1, 1) := by decide +kernel
theorem d_Pic_mult_2 : decode prog_4_method_19_code 2 = .ok (.iconst 0, 1) := by decide +kernel
theorem d_Pic_mult_3 : decode prog_4_method_19_code 3 = .ok (.istore_n 2, 1) := by decide +kernel
theorem d_Pic_mult_4 : decode prog_4_method_19_code 4 = .ok (.iload_n 2, 1) := by decide +kernel
theorem d_Pic_mult_5 : decode prog_4_method_19_code 5 = .ok (.bipush 24, 2) := by decide +kernel
theorem d_Pic_mult_7 : decode prog_4_method_19_code 7 = .ok (.if_icmp .ge 39, 3) := by decide +kernel
theorem d_Pic_mult_10 : decode prog_4_method_19_code 10 = .ok (.iconst 0, 1) := by decide +kernel
theorem d_Pic_mult_11 : decode prog_4_method_19_code 11 = .ok (.istore_n 3, 1) := by decide +kernel
theorem d_Pic_mult_12 : decode prog_4_method_19_code 12 = .ok (.iload_n 3, 1) := by decide +kernel
theorem d_Pic_mult_13 : decode prog_4_method_19_code 13 = .ok (.aload_n 0, 1) := by decide +kernel
theorem d_Pic_mult_14 : decode prog_4_method_19_code 14 = .ok (.getfield 15, 3) := by decide +kernel
theorem d_Pic_mult_17 : decode prog_4_method_19_code 17 = .ok (.iload_n 2, 1) := by decide +kernel
theorem d_Pic_mult_18 : decode prog_4_method_19_code 18 = .ok (.iaload, 1) := by decide +kernel
theorem d_Pic_mult_19 : decode prog_4_method_19_code 19 = .ok (.if_icmp .ge 21, 3) := by decide +kernel
theorem d_Pic_mult_22 : decode prog_4_method_19_code 22 = .ok (.iload_n 1, 1) := by decide +kernel
theorem d_Pic_mult_23 : decode prog_4_method_19_code 23 = .ok (.iload_n 2, 1) := by decide +kernel
theorem d_Pic_mult_24 : decode prog_4_method_19_code 24 = .ok (.invokestatic 58, 3) := by decide +kernel
theorem d_Pic_mult_27 : decode prog_4_method_19_code 27 = .ok (.iload_n 2, 1) := by decide +kernel
theorem d_Pic_mult_28 : decode prog_4_method_19_code 28 = .ok (.invokestatic 58, 3) := by decide +kernel
theorem d_Pic_mult_31 : decode prog_4_method_19_code 31 = .ok (.imul, 1) := by decide +kernel
theorem d_Pic_mult_32 : decode prog_4_method_19_code 32 = .ok (.imul, 1) := by decide +kernel
theorem d_Pic_mult_33 : decode prog_4_method_19_code 33 = .ok (.istore_n 1, 1) := by decide +kernel
theorem d_Pic_mult_34 : decode prog_4_method_19_code 34 = .ok (.iinc 3 1, 3) := by decide +kernel
theorem d_Pic_mult_37 : decode prog_4_method_19_code 37 = .ok (.goto (-25), 3) := by decide +kernel
theorem d_Pic_mult_40 : decode prog_4_method_19_code 40 = .ok (.iinc 2 1, 3) := by decide +kernel
theorem d_Pic_mult_43 : decode prog_4_method_19_code 43 = .ok (.goto (-39), 3) := by decide +kernel
theorem d_Pic_mult_46 : decode prog_4_method_19_code 46 = .ok (.iload_n 1, 1) := by decide +kernel
theorem d_Pic_mult_47 : decode prog_4_method_19_code 47 = .ok (.ireturn, 1) := by decide +kernel
theorem d_Pic_sign_0 : decode prog_4_method_20_code 0 = .ok (.iconst 0, 1) := by decide +kernel
theorem d_Pic_sign_1 : decode prog_4_method_20_code 1 = .ok (.istore_n 1, 1) := by decide +kernel
theorem d_Pic_sign_2 : decode prog_4_method_20_code 2 = .ok (.iload_n 1, 1) := by decide +kernel
theorem d_Pic_sign_3 : decode prog_4_method_20_code 3 = .ok (.bipush 24, 2) := by decide +kernel
theorem d_Pic_sign_5 : decode prog_4_method_20_code 5 = .ok (.if_icmp .ge 29, 3) := by decide +kernel
theorem d_Pic_sign_8 : decode prog_4_method_20_code 8 = .ok (.aload_n 0, 1) := by decide +kernel
theorem d_Pic_sign_9 : decode prog_4_method_20_code 9 = .ok (.getfield 15, 3) := by decide +kernel
theorem d_Pic_sign_12 : decode prog_4_method_20_code 12 = .ok (.iload_n 1, 1) := by decide +kernel
theorem d_Pic_sign_13 : decode prog_4_method_20_code 13 = .ok (.iaload, 1) := by decide +kernel
theorem d_Pic_sign_14 : decode prog_4_method_20_code 14 = .ok (.ifCond .le 14, 3) := by decide +kernel
theorem d_Pic_sign_17 : decode prog_4_method_20_code 17 = .ok (.iload_n 1, 1) := by decide +kernel
theorem d_Pic_sign_18 : decode prog_4_method_20_code 18 = .ok (.invokestatic 58, 3) := by decide +kernel
theorem d_Pic_sign_21 : decode prog_4_method_20_code 21 = .ok (.iconst 2, 1) := by decide +kernel
theorem d_Pic_sign_22 : decode prog_4_method_20_code 22 = .ok (.irem, 1) := by decide +kernel
theorem d_Pic_sign_23 : decode prog_4_method_20_code 23 = .ok (.ifCond .ne 5, 3) := by decide +kernel
theorem d_Pic_sign_26 : decode prog_4_method_20_code 26 = .ok (.iconst 0, 1) := by decide +kernel
theorem d_Pic_sign_27 : decode prog_4_method_20_code 27 = .ok (.ireturn, 1) := by decide +kernel
theorem d_Pic_sign_28 : decode prog_4_method_20_code 28 = .ok (.iinc 1 1, 3) := by decide +kernel
theorem d_Pic_sign_31 : decode prog_4_method_20_code 31 = .ok (.goto (-29), 3) := by decide +kernel
theorem d_Pic_sign_34 : decode prog_4_method_20_code 34 = .ok (.iconst 1, 1) := by decide +kernel
theorem d_Pic_sign_35 : decode prog_4_method_20_code 35 = .ok (.ireturn, 1) := by decide +kernel
theorem d_Pic_pack_0 : decode prog_4_method_21_code 0 = .ok (.lconst 0, 1) := by decide +kernel
theorem d_Pic_pack_1 : decode prog_4_method_21_code 1 = .ok (.lstore_n 1, 1) := by decide +kernel
theorem d_Pic_pack_2 : decode prog_4_method_21_code 2 = .ok (.iconst 0, 1) := by decide +kernel
theorem d_Pic_pack_3 : decode prog_4_method_21_code 3 = .ok (.istore_n 3, 1) := by decide +kernel
theorem d_Pic_pack_4 : decode prog_4_method_21_code 4 = .ok (.iload_n 3, 1) := by decide +kernel
theorem d_Pic_pack_5 : decode prog_4_method_21_code 5 = .ok (.bipush 24, 2) := by decide +kernel
theorem d_Pic_pack_7 : decode prog_4_method_21_code 7 = .ok (.if_icmp .ge 25, 3) := by decide +kernel
theorem d_Pic_pack_10 : decode prog_4_method_21_code 10 = .ok (.lload_n 1, 1) := by decide +kernel
theorem d_Pic_pack_11 : decode prog_4_method_21_code 11 = .ok (.iconst 2, 1) := by decide +kernel
theorem d_Pic_pack_12 : decode prog_4_method_21_code 12 = .ok (.lshl, 1) := by decide +kernel
theorem d_Pic_pack_13 : decode prog_4_method_21_code 13 = .ok (.aload_n 0, 1) := by decide +kernel
theorem d_Pic_pack_14 : decode prog_4_method_21_code 14 = .ok (.getfield 15, 3) := by decide +kernel
theorem d_Pic_pack_17 : decode prog_4_method_21_code 17 = .ok (.iload_n 3, 1) := by decide +kernel
theorem d_Pic_pack_18 : decode prog_4_method_21_code 18 = .ok (.iaload, 1) := by decide +kernel
theorem d_Pic_pack_19 : decode prog_4_method_21_code 19 = .ok (.i2l, 1) := by decide +kernel
theorem d_Pic_pack_20 : decode prog_4_method_21_code 20 = .ok (.ldc2_w 70, 3) := by decide +kernel
theorem d_Pic_pack_23 : decode prog_4_method_21_code 23 = .ok (.land, 1) := by decide +kernel
theorem d_Pic_pack_24 : decode prog_4_method_21_code 24 = .ok (.lor, 1) := by decide +kernel
theorem d_Pic_pack_25 : decode prog_4_method_21_code 25 = .ok (.lstore_n 1, 1) := by decide +kernel
theorem d_Pic_pack_26 : decode prog_4_method_21_code 26 = .ok (.iinc 3 1, 3) := by decide +kernel
theorem d_Pic_pack_29 : decode prog_4_method_21_code 29 = .ok (.goto (-25), 3) := by decide +kernel
theorem d_Pic_pack_32 : decode prog_4_method_21_code 32 = .ok (.lload_n 1, 1) := by decide +kernel
theorem d_Pic_pack_33 : decode prog_4_method_21_code 33 = .ok (.lreturn, 1) := by decide +kernel
theorem d_Pic_unpack_0 : decode prog_4_method_22_code 0 = .ok (.aload_n 0, 1) := by decide +kernel
theorem d_Pic_unpack_1 : decode prog_4_method_22_code 1 = .ok (.iload_n 1, 1) := by decide +kernel
theorem d_Pic_unpack_2 : decode prog_4_method_22_code 2 = .ok (.invokevirtual 72, 3) := by decide +kernel
theorem d_Pic_unpack_5 : decode prog_4_method_22_code 5 = .ok (.iconst 0, 1) := by decide +kernel
theorem d_Pic_unpack_6 : decode prog_4_method_22_code 6 = .ok (.istore 4, 2) := by decide +kernel
theorem d_Pic_unpack_8 : decode prog_4_method_22_code 8 = .ok (.iload 4, 2) := by decide +kernel
theorem d_Pic_unpack_10 : decode prog_4_method_22_code 10 = .ok (.bipush 24, 2) := by decide +kernel
theorem d_Pic_unpack_12 : decode prog_4_method_22_code 12 = .ok (.if_icmp .ge 47, 3) := by decide +kernel
theorem d_Pic_unpack_15 : decode prog_4_method_22_code 15 = .ok (.lload_n 2, 1) := by decide +kernel
theorem d_Pic_unpack_16 : decode prog_4_method_22_code 16 = .ok (.iconst 2, 1) := by decide +kernel
theorem d_Pic_unpack_17 : decode prog_4_method_22_code 17 = .ok (.bipush 23, 2) := by decide +kernel
theorem d_Pic_unpack_19 : decode prog_4_method_22_code 19 = .ok (.iload 4, 2) := by decide +kernel
theorem d_Pic_unpack_21 : decode prog_4_method_22_code 21 = .ok (.isub, 1) := by decide +kernel
theorem d_Pic_unpack_22 : decode prog_4_method_22_code 22 = .ok (.imul, 1) := by decide +kernel
theorem d_Pic_unpack_23 : decode prog_4_method_22_code 23 = .ok (.lshr, 1) := by decide +kernel
theorem d_Pic_unpack_24 : decode prog_4_method_22_code 24 = .ok (.ldc2_w 70, 3) := by decide +kernel
theorem d_Pic_unpack_27 : decode prog_4_method_22_code 27 = .ok (.land, 1) := by decide +kernel
theorem d_Pic_unpack_28 : decode prog_4_method_22_code 28 = .ok (.l2i, 1) := by decide +kernel
theorem d_Pic_unpack_29 : decode prog_4_method_22_code 29 = .ok (.istore 5, 2) := by decide +kernel
theorem d_Pic_unpack_31 : decode prog_4_method_22_code 31 = .ok (.iconst 0, 1) := by decide +kernel
theorem d_Pic_unpack_32 : decode prog_4_method_22_code 32 = .ok (.istore 6, 2) := by decide +kernel
theorem d_Pic_unpack_34 : decode prog_4_method_22_code 34 = .ok (.iload 6, 2) := by decide +kernel
theorem d_Pic_unpack_36 : decode prog_4_method_22_code 36 = .ok (.iload 5, 2) := by decide +kernel
theorem d_Pic_unpack_38 : decode prog_4_method_22_code 38 = .ok (.if_icmp .ge 15, 3) := by decide +kernel
theorem d_Pic_unpack_41 : decode prog_4_method_22_code 41 = .ok (.aload_n 0, 1) := by decide +kernel
theorem d_Pic_unpack_42 : decode prog_4_method_22_code 42 = .ok (.iload 4, 2) := by decide +kernel
theorem d_Pic_unpack_44 : decode prog_4_method_22_code 44 = .ok (.invokevirtual 76, 3) := by decide +kernel
theorem d_Pic_unpack_47 : decode prog_4_method_22_code 47 = .ok (.iinc 6 1, 3) := by decide +kernel
theorem d_Pic_unpack_50 : decode prog_4_method_22_code 50 = .ok (.goto (-16), 3) := by decide +kernel
theorem d_Pic_unpack_53 : decode prog_4_method_22_code 53 = .ok (.iinc 4 1, 3) := by decide +kernel
theorem d_Pic_unpack_56 : decode prog_4_method_22_code 56 = .ok (.goto (-48), 3) := by decide +kernel
theorem d_Pic_unpack_59 : decode prog_4_method_22_code 59 = .ok (.return_, 1) := by decide +kernel
theorem d_Pow_init_0 : decode prog_5_method_1_code 0 = .ok (.aload_n 0, 1) := by decide +kernel
theorem d_Pow_init_1 : decode prog_5_method_1_code 1 = .ok (.invokespecial 5, 3) := by decide +kernel
theorem d_Pow_init_4 : decode prog_5_method_1_code 4 = .ok (.aload_n 0, 1) := by decide +kernel
theorem d_Pow_init_5 : decode prog_5_method_1_code 5 = .ok (.bipush 37, 2) := by decide +kernel
theorem d_Pow_init_7 : decode prog_5_method_1_code 7 = .ok (.newarray .long, 2) := by decide +kernel
theorem d_Pow_init_9 : decode prog_5_method_1_code 9 = .ok (.putfield 11, 3) := by decide +kernel
theorem d_Pow_init_12 : decode prog_5_method_1_code 12 = .ok (.aload_n 0, 1) := by decide +kernel
theorem d_Pow_init_13 : decode prog_5_method_1_code 13 = .ok (.bipush 37, 2) := by decide +kernel
theorem d_Pow_init_15 : decode prog_5_method_1_code 15 = .ok (.newarray .long, 2) := by decide +kernel
theorem d_Pow_init_17 : decode prog_5_method_1_code 17 = .ok (.putfield 15, 3) := by decide +kernel
theorem d_Pow_init_20 : decode prog_5_method_1_code 20 = .ok (.return_, 1) := by decide +kernel
theorem d_Pow_expand_0 : decode prog_5_method_2_code 0 = .ok (.aload_n 0, 1) := by decide +kernel
theorem d_Pow_expand_1 : decode prog_5_method_2_code 1 = .ok (.getfield 11, 3) := by decide +kernel
theorem d_Pow_expand_4 : decode prog_5_method_2_code 4 = .ok (.lconst 0, 1) := by decide +kernel
theorem d_Pow_expand_5 : decode prog_5_method_2_code 5 = .ok (.invokestatic 18, 3) := by decide +kernel
theorem d_Pow_expand_8 : decode prog_5_method_2_code 8 = .ok (.aload_n 0, 1) := by decide +kernel
theorem d_Pow_expand_9 : decode prog_5_method_2_code 9 = .ok (.getfield 11, 3) := by decide +kernel
theorem d_Pow_expand_12 : decode prog_5_method_2_code 12 = .ok (.bipush 18, 2) := by decide +kernel
theorem d_Pow_expand_14 : decode prog_5_method_2_code 14 = .ok (.lconst 1, 1) := by decide +kernel
theorem d_Pow_expand_15 : decode prog_5_method_2_code 15 = .ok (.lastore, 1) := by decide +kernel
theorem d_Pow_expand_16 : decode prog_5_method_2_code 16 = .ok (.aload_n 0, 1) := by decide +kernel
theorem d_Pow_expand_17 : decode prog_5_method_2_code 17 = .ok (.iconst 0, 1) := by decide +kernel
theorem d_Pow_expand_18 : decode prog_5_method_2_code 18 = .ok (.putfield 24, 3) := by decide +kernel
theorem d_Pow_expand_21 : decode prog_5_method_2_code 21 = .ok (.aload_n 1, 1) := by decide +kernel
theorem d_Pow_expand_22 : decode prog_5_method_2_code 22 = .ok (.ifnonnull 4, 3) := by decide +kernel
theorem d_Pow_expand_25 : decode prog_5_method_2_code 25 = .ok (.return_, 1) := by decide +kernel
theorem d_Pow_expand_26 : decode prog_5_method_2_code 26 = .ok (.iconst 0, 1) := by decide +kernel
theorem d_Pow_expand_27 : decode prog_5_method_2_code 27 = .ok (.istore_n 2, 1) := by decide +kernel
theorem d_Pow_expand_28 : decode prog_5_method_2_code 28 = .ok (.iload_n 2, 1) := by decide +kernel
theorem d_Pow_expand_29 : decode prog_5_method_2_code 29 = .ok (.bipush 24, 2) := by decide +kernel
theorem d_Pow_expand_31 : decode prog_5_method_2_code 31 = .ok (.if_icmp .ge 34, 3) := by decide +kernel
theorem d_Pow_expand_34 : decode prog_5_method_2_code 34 = .ok (.iconst 0, 1) := by decide +kernel
theorem d_Pow_expand_35 : decode prog_5_method_2_code 35 = .ok (.istore_n 3, 1) := by decide +kernel
theorem d_Pow_expand_36 : decode prog_5_method_2_code 36 = .ok (.iload_n 3, 1) := by decide +kernel
theorem d_Pow_expand_37 : decode prog_5_method_2_code 37 = .ok (.aload_n 1, 1) := by decide +kernel
theorem d_Pow_expand_38 : decode prog_5_method_2_code 38 = .ok (.iload_n 2, 1) := by decide +kernel
theorem d_Pow_expand_39 : decode prog_5_method_2_code 39 = .ok (.invokevirtual 28, 3) := by decide +kernel
theorem d_Pow_expand_42 : decode prog_5_method_2_code 42 = .ok (.if_icmp .ge 17, 3) := by decide +kernel
theorem d_Pow_expand_45 : decode prog_5_method_2_code 45 = .ok (.aload_n 0, 1) := by decide +kernel
theorem d_Pow_expand_46 : decode prog_5_method_2_code 46 = .ok (.iload_n 2, 1) := by decide +kernel
theorem d_Pow_expand_47 : decode prog_5_method_2_code 47 = .ok (.invokestatic 34, 3) := by decide +kernel
theorem d_Pow_expand_50 : decode prog_5_method_2_code 50 = .ok (.invokevirtual 37, 3) := by decide +kernel
theorem d_Pow_expand_53 : decode prog_5_method_2_code 53 = .ok (.iinc 3 1, 3) := by decide +kernel
theorem d_Pow_expand_56 : decode prog_5_method_2_code 56 = .ok (.goto (-20), 3) := by decide +kernel
theorem d_Pow_expand_59 : decode prog_5_method_2_code 59 = .ok (.iinc 2 1, 3) := by decide +kernel
theorem d_Pow_expand_62 : decode prog_5_method_2_code 62 = .ok (.goto (-34), 3) := by decide +kernel
theorem d_Pow_expand_65 : decode prog_5_method_2_code 65 = .ok (.return_, 1) := by decide +kernel
theorem d_Pow_multiply_0 : decode prog_5_method_3_code 0 = .ok (.aload_n 0, 1) := by decide +kernel
theorem d_Pow_multiply_1 : decode prog_5_method_3_code 1 = .ok (.getfield 24, 3) := by decide +kernel
theorem d_Pow_multiply_4 : decode prog_5_method_3_code 4 = .ok (.iload_n 1, 1) := by decide +kernel
theorem d_Pow_multiply_5 : decode prog_5_method_3_code 5 = .ok (.iadd, 1) := by decide +kernel
theorem d_Pow_multiply_6 : decode prog_5_method_3_code 6 = .ok (.iconst 1, 1) := by decide +kernel
theorem d_Pow_multiply_7 : decode prog_5_method_3_code 7 = .ok (.isub, 1) := by decide +kernel
theorem d_Pow_multiply_8 : decode prog_5_method_3_code 8 = .ok (.istore_n 2, 1) := by decide +kernel
theorem d_Pow_multiply_9 : decode prog_5_method_3_code 9 = .ok (.iload_n 1, 1) := by decide +kernel
theorem d_Pow_multiply_10 : decode prog_5_method_3_code 10 = .ok (.iconst 1, 1) := by decide +kernel
theorem d_Pow_multiply_11 : decode prog_5_method_3_code 11 = .ok (.if_icmp .le 9, 3) := by decide +kernel
theorem d_Pow_multiply_14 : decode prog_5_method_3_code 14 = .ok (.iload_n 2, 1) := by decide +kernel
theorem d_Pow_multiply_15 : decode prog_5_method_3_code 15 = .ok (.bipush 18, 2) := by decide +kernel
theorem d_Pow_multiply_17 : decode prog_5_method_3_code 17 = .ok (.if_icmp .le 4, 3) := by decide +kernel
theorem d_Pow_multiply_20 : decode prog_5_method_3_code 20 = .ok (.return_, 1) := by decide +kernel
theorem d_Pow_multiply_21 : decode prog_5_method_3_code 21 = .ok (.aload_n 0, 1) := by decide +kernel
theorem d_Pow_multiply_22 : decode prog_5_method_3_code 22 = .ok (.getfield 15, 3) := by decide +kernel
theorem d_Pow_multiply_25 : decode prog_5_method_3_code 25 = .ok (.lconst 0, 1) := by decide +kernel
theorem d_Pow_multiply_26 : decode prog_5_method_3_code 26 = .ok (.invokestatic 18, 3) := by decide +kernel
theorem d_Pow_multiply_29 : decode prog_5_method_3_code 29 = .ok (.aload_n 0, 1) := by decide +kernel
theorem d_Pow_multiply_30 : decode prog_5_method_3_code 30 = .ok (.getfield 24, 3) := by decide +kernel
theorem d_Pow_multiply_33 : decode prog_5_method_3_code 33 = .ok (.ineg, 1) := by decide +kernel
theorem d_Pow_multiply_34 : decode prog_5_method_3_code 34 = .ok (.istore_n 3, 1) := by decide +kernel
theorem d_Pow_multiply_35 : decode prog_5_method_3_code 35 = .ok (.iload_n 3, 1) := by decide +kernel
theorem d_Pow_multiply_36 : decode prog_5_method_3_code 36 = .ok (.aload_n 0, 1) := by decide +kernel
theorem d_Pow_multiply_37 : decode prog_5_method_3_code 37 = .ok (.getfield 24, 3) := by decide +kernel
theorem d_Pow_multiply_40 : decode prog_5_method_3_code 40 = .ok (.if_icmp .gt 59, 3) := by decide +kernel
theorem d_Pow_multiply_43 : decode prog_5_method_3_code 43 = .ok (.iconst 1, 1) := by decide +kernel
theorem d_Pow_multiply_44 : decode prog_5_method_3_code 44 = .ok (.iload_n 1, 1) := by decide +kernel
theorem d_Pow_multiply_45 : decode prog_5_method_3_code 45 = .ok (.isub, 1) := by decide +kernel
theorem d_Pow_multiply_46 : decode prog_5_method_3_code 46 = .ok (.istore 4, 2) := by decide +kernel
theorem d_Pow_multiply_48 : decode prog_5_method_3_code 48 = .ok (.iload 4, 2) := by decide +kernel
theorem d_Pow_multiply_50 : decode prog_5_method_3_code 50 = .ok (.iload_n 1, 1) := by decide +kernel
theorem d_Pow_multiply_51 : decode prog_5_method_3_code 51 = .ok (.if_icmp .ge 42, 3) := by decide +kernel
theorem d_Pow_multiply_54 : decode prog_5_method_3_code 54 = .ok (.aload_n 0, 1) := by decide +kernel
theorem d_Pow_multiply_55 : decode prog_5_method_3_code 55 = .ok (.getfield 15, 3) := by decide +kernel
theorem d_Pow_multiply_58 : decode prog_5_method_3_code 58 = .ok (.bipush 18, 2) := by decide +kernel
theorem d_Pow_multiply_60 : decode prog_5_method_3_code 60 = .ok (.iload_n 3, 1) := by decide +kernel
theorem d_Pow_multiply_61 : decode prog_5_method_3_code 61 = .ok (.iadd, 1) := by decide +kernel
theorem d_Pow_multiply_62 : decode prog_5_method_3_code 62 = .ok (.iload 4, 2) := by decide +kernel
theorem d_Pow_multiply_64 : decode prog_5_method_3_code 64 = .ok (.iadd, 1) := by decide +kernel
theorem d_Pow_multiply_65 : decode prog_5_method_3_code 65 = .ok (.dup2, 1) := by decide +kernel
theorem d_Pow_multiply_66 : decode prog_5_method_3_code 66 = .ok (.laload, 1) := by decide +kernel
theorem d_Pow_multiply_67 : decode prog_5_method_3_code 67 = .ok (.iload_n 1, 1) := by decide +kernel
theorem d_Pow_multiply_68 : decode prog_5_method_3_code 68 = .ok (.iload 4, 2) := by decide +kernel
theorem d_Pow_multiply_70 : decode prog_5_method_3_code 70 = .ok (.invokestatic 41, 3) := by decide +kernel
theorem d_Pow_multiply_73 : decode prog_5_method_3_code 73 = .ok (.isub, 1) := by decide +kernel
theorem d_Pow_multiply_74 : decode prog_5_method_3_code 74 = .ok (.i2l, 1) := by decide +kernel
theorem d_Pow_multiply_75 : decode prog_5_method_3_code 75 = .ok (.aload_n 0, 1) := by decide +kernel
theorem d_Pow_multiply_76 : decode prog_5_method_3_code 76 = .ok (.getfield 11, 3) := by decide +kernel
theorem d_Pow_multiply_79 : decode prog_5_method_3_code 79 = .ok (.bipush 18, 2) := by decide +kernel
theorem d_Pow_multiply_81 : decode prog_5_method_3_code 81 = .ok (.iload_n 3, 1) := by decide +kernel
theorem d_Pow_multiply_82 : decode prog_5_method_3_code 82 = .ok (.iadd, 1) := by decide +kernel
theorem d_Pow_multiply_83 : decode prog_5_method_3_code 83 = .ok (.laload, 1) := by decide +kernel
theorem d_Pow_multiply_84 : decode prog_5_method_3_code 84 = .ok (.lmul, 1) := by decide +kernel
theorem d_Pow_multiply_85 : decode prog_5_method_3_code 85 = .ok (.ladd, 1) := by decide +kernel
theorem d_Pow_multiply_86 : decode prog_5_method_3_code 86 = .ok (.lastore, 1) := by decide +kernel
theorem d_Pow_multiply_87 : decode prog_5_method_3_code 87 = .ok (.iinc 4 1, 3) := by decide +kernel
theorem d_Pow_multiply_90 : decode prog_5_method_3_code 90 = .ok (.goto (-42), 3) := by decide +kernel
theorem d_Pow_multiply_93 : decode prog_5_method_3_code 93 = .ok (.iinc 3 1, 3) := by decide +kernel
theorem d_Pow_multiply_96 : decode prog_5_method_3_code 96 = .ok (.goto (-61), 3) := by decide +kernel
theorem d_Pow_multiply_99 : decode prog_5_method_3_code 99 = .ok (.aload_n 0, 1) := by decide +kernel
theorem d_Pow_multiply_100 : decode prog_5_method_3_code 100 = .ok (.getfield 15, 3) := by decide +kernel
theorem d_Pow_multiply_103 : decode prog_5_method_3_code 103 = .ok (.iconst 0, 1) := by decide +kernel
theorem d_Pow_multiply_104 : decode prog_5_method_3_code 104 = .ok (.aload_n 0, 1) := by decide +kernel
theorem d_Pow_multiply_105 : decode prog_5_method_3_code 105 = .ok (.getfield 11, 3) := by decide +kernel
theorem d_Pow_multiply_108 : decode prog_5_method_3_code 108 = .ok (.iconst 0, 1) := by decide +kernel
theorem d_Pow_multiply_109 : decode prog_5_method_3_code 109 = .ok (.bipush 37, 2) := by decide +kernel
theorem d_Pow_multiply_111 : decode prog_5_method_3_code 111 = .ok (.invokestatic 46, 3) := by decide +kernel
theorem d_Pow_multiply_114 : decode prog_5_method_3_code 114 = .ok (.aload_n 0, 1) := by decide +kernel
theorem d_Pow_multiply_115 : decode prog_5_method_3_code 115 = .ok (.iload_n 2, 1) := by decide +kernel
theorem d_Pow_multiply_116 : decode prog_5_method_3_code 116 = .ok (.putfield 24, 3) := by decide +kernel
theorem d_Pow_multiply_119 : decode prog_5_method_3_code 119 = .ok (.return_, 1) := by decide +kernel
theorem d_Pow_at_0 : decode prog_5_method_4_code 0 = .ok (.iload_n 1, 1) := by decide +kernel
theorem d_Pow_at_1 : decode prog_5_method_4_code 1 = .ok (.aload_n 0, 1) := by decide +kernel
theorem d_Pow_at_2 : decode prog_5_method_4_code 2 = .ok (.getfield 24, 3) := by decide +kernel
theorem d_Pow_at_5 : decode prog_5_method_4_code 5 = .ok (.ineg, 1) := by decide +kernel
theorem d_Pow_at_6 : decode prog_5_method_4_code 6 = .ok (.if_icmp .lt 32, 3) := by decide +kernel
theorem d_Pow_at_9 : decode prog_5_method_4_code 9 = .ok (.iload_n 1, 1) := by decide +kernel
theorem d_Pow_at_10 : decode prog_5_method_4_code 10 = .ok (.aload_n 0, 1) := by decide +kernel
theorem d_Pow_at_11 : decode prog_5_method_4_code 11 = .ok (.getfield 24, 3) := by decide +kernel
theorem d_Pow_at_14 : decode prog_5_method_4_code 14 = .ok (.if_icmp .gt 24, 3) := by decide +kernel
theorem d_Pow_at_17 : decode prog_5_method_4_code 17 = .ok (.aload_n 0, 1) := by decide +kernel
theorem d_Pow_at_18 : decode prog_5_method_4_code 18 = .ok (.getfield 24, 3) := by decide +kernel
theorem d_Pow_at_21 : decode prog_5_method_4_code 21 = .ok (.bipush 18, 2) := by decide +kernel
theorem d_Pow_at_23 : decode prog_5_method_4_code 23 = .ok (.if_icmp .gt 15, 3) := by decide +kernel
theorem d_Pow_at_26 : decode prog_5_method_4_code 26 = .ok (.aload_n 0, 1) := by decide +kernel
theorem d_Pow_at_27 : decode prog_5_method_4_code 27 = .ok (.getfield 11, 3) := by decide +kernel
theorem d_Pow_at_30 : decode prog_5_method_4_code 30 = .ok (.bipush 18, 2) := by decide +kernel
theorem d_Pow_at_32 : decode prog_5_method_4_code 32 = .ok (.iload_n 1, 1) := by decide +kernel
theorem d_Pow_at_33 : decode prog_5_method_4_code 33 = .ok (.iadd, 1) := by decide +kernel
theorem d_Pow_at_34 : decode prog_5_method_4_code 34 = .ok (.laload, 1) := by decide +kernel
theorem d_Pow_at_35 : decode prog_5_method_4_code 35 = .ok (.goto 4, 3) := by decide +kernel
theorem d_Pow_at_38 : decode prog_5_method_4_code 38 = .ok (.lconst 0, 1) := by decide +kernel
theorem d_Pow_at_39 : decode prog_5_method_4_code 39 = .ok (.lreturn, 1) := by decide +kernel
theorem d_Rows_one_0 : decode prog_6_method_2_code 0 = .ok (.iconst 1, 1) := by decide +kernel
theorem d_Rows_one_1 : decode prog_6_method_2_code 1 = .ok (.iconst 3, 1) := by decide +kernel
theorem d_Rows_one_2 : decode prog_6_method_2_code 2 = .ok (.iload_n 0, 1) := by decide +kernel
theorem d_Rows_one_3 : decode prog_6_method_2_code 3 = .ok (.iconst 5, 1) := by decide +kernel
theorem d_Rows_one_4 : decode prog_6_method_2_code 4 = .ok (.imul, 1) := by decide +kernel
theorem d_Rows_one_5 : decode prog_6_method_2_code 5 = .ok (.iload_n 1, 1) := by decide +kernel
theorem d_Rows_one_6 : decode prog_6_method_2_code 6 = .ok (.iadd, 1) := by decide +kernel
theorem d_Rows_one_7 : decode prog_6_method_2_code 7 = .ok (.iconst 1, 1) := by decide +kernel
theorem d_Rows_one_8 : decode prog_6_method_2_code 8 = .ok (.isub, 1) := by decide +kernel
theorem d_Rows_one_9 : decode prog_6_method_2_code 9 = .ok (.imul, 1) := by decide +kernel
theorem d_Rows_one_10 : decode prog_6_method_2_code 10 = .ok (.ishl, 1) := by decide +kernel
theorem d_Rows_one_11 : decode prog_6_method_2_code 11 = .ok (.ireturn, 1) := by decide +kernel
theorem d_Rows_oneOfField_0 : decode prog_6_method_3_code 0 = .ok (.iload_n 0, 1) := by decide +kernel
theorem d_Rows_oneOfField_1 : decode prog_6_method_3_code 1 = .ok (.iconst 5, 1) := by decide +kernel
theorem d_Rows_oneOfField_2 : decode prog_6_method_3_code 2 = .ok (.idiv, 1) := by decide +kernel
theorem d_Rows_oneOfField_3 : decode prog_6_method_3_code 3 = .ok (.iload_n 0, 1) := by decide +kernel
theorem d_Rows_oneOfField_4 : decode prog_6_method_3_code 4 = .ok (.invokestatic 11, 3) := by decide +kernel
theorem d_Rows_oneOfField_7 : decode prog_6_method_3_code 7 = .ok (.invokestatic 15, 3) := by decide +kernel
theorem d_Rows_oneOfField_10 : decode prog_6_method_3_code 10 = .ok (.ireturn, 1) := by decide +kernel
theorem d_Rows_figureOfField_0 : decode prog_6_method_4_code 0 = .ok (.iload_n 0, 1) := by decide +kernel
theorem d_Rows_figureOfField_1 : decode prog_6_method_4_code 1 = .ok (.iconst 5, 1) := by decide +kernel
theorem d_Rows_figureOfField_2 : decode prog_6_method_4_code 2 = .ok (.irem, 1) := by decide +kernel
theorem d_Rows_figureOfField_3 : decode prog_6_method_4_code 3 = .ok (.iconst 1, 1) := by decide +kernel
theorem d_Rows_figureOfField_4 : decode prog_6_method_4_code 4 = .ok (.iadd, 1) := by decide +kernel
theorem d_Rows_figureOfField_5 : decode prog_6_method_4_code 5 = .ok (.ireturn, 1) := by decide +kernel
theorem d_Rows_amount_0 : decode prog_6_method_5_code 0 = .ok (.iload_n 0, 1) := by decide +kernel
theorem d_Rows_amount_1 : decode prog_6_method_5_code 1 = .ok (.iconst 3, 1) := by decide +kernel
theorem d_Rows_amount_2 : decode prog_6_method_5_code 2 = .ok (.iload_n 1, 1) := by decide +kernel
theorem d_Rows_amount_3 : decode prog_6_method_5_code 3 = .ok (.iconst 5, 1) := by decide +kernel
theorem d_Rows_amount_4 : decode prog_6_method_5_code 4 = .ok (.imul, 1) := by decide +kernel
theorem d_Rows_amount_5 : decode prog_6_method_5_code 5 = .ok (.iload_n 2, 1) := by decide +kernel
theorem d_Rows_amount_6 : decode prog_6_method_5_code 6 = .ok (.iadd, 1) := by decide +kernel
theorem d_Rows_amount_7 : decode prog_6_method_5_code 7 = .ok (.iconst 1, 1) := by decide +kernel
theorem d_Rows_amount_8 : decode prog_6_method_5_code 8 = .ok (.isub, 1) := by decide +kernel
theorem d_Rows_amount_9 : decode prog_6_method_5_code 9 = .ok (.imul, 1) := by decide +kernel
theorem d_Rows_amount_10 : decode prog_6_method_5_code 10 = .ok (.ishr, 1) := by decide +kernel
theorem d_Rows_amount_11 : decode prog_6_method_5_code 11 = .ok (.bipush 7, 2) := by decide +kernel
theorem d_Rows_amount_13 : decode prog_6_method_5_code 13 = .ok (.iand, 1) := by decide +kernel
theorem d_Rows_amount_14 : decode prog_6_method_5_code 14 = .ok (.ireturn, 1) := by decide +kernel
theorem d_Rows_degreeOf_0 : decode prog_6_method_6_code 0 = .ok (.iconst 0, 1) := by decide +kernel
theorem d_Rows_degreeOf_1 : decode prog_6_method_6_code 1 = .ok (.istore_n 1, 1) := by decide +kernel
theorem d_Rows_degreeOf_2 : decode prog_6_method_6_code 2 = .ok (.iconst 1, 1) := by decide +kernel
theorem d_Rows_degreeOf_3 : decode prog_6_method_6_code 3 = .ok (.istore_n 2, 1) := by decide +kernel
theorem d_Rows_degreeOf_4 : decode prog_6_method_6_code 4 = .ok (.iload_n 2, 1) := by decide +kernel
theorem d_Rows_degreeOf_5 : decode prog_6_method_6_code 5 = .ok (.iconst 5, 1) := by decide +kernel
theorem d_Rows_degreeOf_6 : decode prog_6_method_6_code 6 = .ok (.if_icmp .gt 27, 3) := by decide +kernel
theorem d_Rows_degreeOf_9 : decode prog_6_method_6_code 9 = .ok (.iload_n 1, 1) := by decide +kernel
theorem d_Rows_degreeOf_10 : decode prog_6_method_6_code 10 = .ok (.iload_n 2, 1) := by decide +kernel
theorem d_Rows_degreeOf_11 : decode prog_6_method_6_code 11 = .ok (.iload_n 0, 1) := by decide +kernel
theorem d_Rows_degreeOf_12 : decode prog_6_method_6_code 12 = .ok (.iconst 0, 1) := by decide +kernel
theorem d_Rows_degreeOf_13 : decode prog_6_method_6_code 13 = .ok (.iload_n 2, 1) := by decide +kernel
theorem d_Rows_degreeOf_14 : decode prog_6_method_6_code 14 = .ok (.invokestatic 19, 3) := by decide +kernel
theorem d_Rows_degreeOf_17 : decode prog_6_method_6_code 17 = .ok (.iload_n 0, 1) := by decide +kernel
theorem d_Rows_degreeOf_18 : decode prog_6_method_6_code 18 = .ok (.iconst 1, 1) := by decide +kernel
theorem d_Rows_degreeOf_19 : decode prog_6_method_6_code 19 = .ok (.iload_n 2, 1) := by decide +kernel
theorem d_Rows_degreeOf_20 : decode prog_6_method_6_code 20 = .ok (.invokestatic 19, 3) := by decide +kernel
theorem d_Rows_degreeOf_23 : decode prog_6_method_6_code 23 = .ok (.iadd, 1) := by decide +kernel
theorem d_Rows_degreeOf_24 : decode prog_6_method_6_code 24 = .ok (.imul, 1) := by decide +kernel
theorem d_Rows_degreeOf_25 : decode prog_6_method_6_code 25 = .ok (.iadd, 1) := by decide +kernel
theorem d_Rows_degreeOf_26 : decode prog_6_method_6_code 26 = .ok (.istore_n 1, 1) := by decide +kernel
theorem d_Rows_degreeOf_27 : decode prog_6_method_6_code 27 = .ok (.iinc 2 1, 3) := by decide +kernel
theorem d_Rows_degreeOf_30 : decode prog_6_method_6_code 30 = .ok (.goto (-26), 3) := by decide +kernel
theorem d_Rows_degreeOf_33 : decode prog_6_method_6_code 33 = .ok (.iload_n 1, 1) := by decide +kernel
theorem d_Rows_degreeOf_34 : decode prog_6_method_6_code 34 = .ok (.ireturn, 1) := by decide +kernel
theorem d_Rows_moreB_0 : decode prog_6_method_7_code 0 = .ok (.iconst 0, 1) := by decide +kernel
theorem d_Rows_moreB_1 : decode prog_6_method_7_code 1 = .ok (.istore_n 2, 1) := by decide +kernel
theorem d_Rows_moreB_2 : decode prog_6_method_7_code 2 = .ok (.iconst 1, 1) := by decide +kernel
theorem d_Rows_moreB_3 : decode prog_6_method_7_code 3 = .ok (.istore_n 3, 1) := by decide +kernel
theorem d_Rows_moreB_4 : decode prog_6_method_7_code 4 = .ok (.iload_n 3, 1) := by decide +kernel
theorem d_Rows_moreB_5 : decode prog_6_method_7_code 5 = .ok (.iconst 5, 1) := by decide +kernel
theorem d_Rows_moreB_6 : decode prog_6_method_7_code 6 = .ok (.if_icmp .gt 25, 3) := by decide +kernel
theorem d_Rows_moreB_9 : decode prog_6_method_7_code 9 = .ok (.iload_n 2, 1) := by decide +kernel
theorem d_Rows_moreB_10 : decode prog_6_method_7_code 10 = .ok (.iload_n 1, 1) := by decide +kernel
theorem d_Rows_moreB_11 : decode prog_6_method_7_code 11 = .ok (.iconst 1, 1) := by decide +kernel
theorem d_Rows_moreB_12 : decode prog_6_method_7_code 12 = .ok (.iload_n 3, 1) := by decide +kernel
theorem d_Rows_moreB_13 : decode prog_6_method_7_code 13 = .ok (.invokestatic 19, 3) := by decide +kernel
theorem d_Rows_moreB_16 : decode prog_6_method_7_code 16 = .ok (.iload_n 0, 1) := by decide +kernel
theorem d_Rows_moreB_17 : decode prog_6_method_7_code 17 = .ok (.iconst 1, 1) := by decide +kernel
theorem d_Rows_moreB_18 : decode prog_6_method_7_code 18 = .ok (.iload_n 3, 1) := by decide +kernel
theorem d_Rows_moreB_19 : decode prog_6_method_7_code 19 = .ok (.invokestatic 19, 3) := by decide +kernel
theorem d_Rows_moreB_22 : decode prog_6_method_7_code 22 = .ok (.isub, 1) := by decide +kernel
theorem d_Rows_moreB_23 : decode prog_6_method_7_code 23 = .ok (.iadd, 1) := by decide +kernel
theorem d_Rows_moreB_24 : decode prog_6_method_7_code 24 = .ok (.istore_n 2, 1) := by decide +kernel
theorem d_Rows_moreB_25 : decode prog_6_method_7_code 25 = .ok (.iinc 3 1, 3) := by decide +kernel
theorem d_Rows_moreB_28 : decode prog_6_method_7_code 28 = .ok (.goto (-24), 3) := by decide +kernel
theorem d_Rows_moreB_31 : decode prog_6_method_7_code 31 = .ok (.iload_n 2, 1) := by decide +kernel
theorem d_Rows_moreB_32 : decode prog_6_method_7_code 32 = .ok (.ireturn, 1) := by decide +kernel
theorem d_Rows_timesOfPart_0 : decode prog_6_method_8_code 0 = .ok (.lconst 1, 1) := by decide +kernel
theorem d_Rows_timesOfPart_1 : decode prog_6_method_8_code 1 = .ok (.lstore_n 2, 1) := by decide +kernel
theorem d_Rows_timesOfPart_2 : decode prog_6_method_8_code 2 = .ok (.iconst 1, 1) := by decide +kernel
theorem d_Rows_timesOfPart_3 : decode prog_6_method_8_code 3 = .ok (.istore 4, 2) := by decide +kernel
theorem d_Rows_timesOfPart_5 : decode prog_6_method_8_code 5 = .ok (.iload 4, 2) := by decide +kernel
theorem d_Rows_timesOfPart_7 : decode prog_6_method_8_code 7 = .ok (.iconst 5, 1) := by decide +kernel
theorem d_Rows_timesOfPart_8 : decode prog_6_method_8_code 8 = .ok (.if_icmp .gt 94, 3) := by decide +kernel
theorem d_Rows_timesOfPart_11 : decode prog_6_method_8_code 11 = .ok (.lload_n 2, 1) := by decide +kernel
theorem d_Rows_timesOfPart_12 : decode prog_6_method_8_code 12 = .ok (.lconst 0, 1) := by decide +kernel
theorem d_Rows_timesOfPart_13 : decode prog_6_method_8_code 13 = .ok (.lcmp, 1) := by decide +kernel
theorem d_Rows_timesOfPart_14 : decode prog_6_method_8_code 14 = .ok (.ifCond .le 88, 3) := by decide +kernel
theorem d_Rows_timesOfPart_17 : decode prog_6_method_8_code 17 = .ok (.iload_n 1, 1) := by decide +kernel
theorem d_Rows_timesOfPart_18 : decode prog_6_method_8_code 18 = .ok (.iconst 1, 1) := by decide +kernel
theorem d_Rows_timesOfPart_19 : decode prog_6_method_8_code 19 = .ok (.iload 4, 2) := by decide +kernel
theorem d_Rows_timesOfPart_21 : decode prog_6_method_8_code 21 = .ok (.invokestatic 19, 3) := by decide +kernel
theorem d_Rows_timesOfPart_24 : decode prog_6_method_8_code 24 = .ok (.iload_n 0, 1) := by decide +kernel
theorem d_Rows_timesOfPart_25 : decode prog_6_method_8_code 25 = .ok (.iconst 1, 1) := by decide +kernel
theorem d_Rows_timesOfPart_26 : decode prog_6_method_8_code 26 = .ok (.iload 4, 2) := by decide +kernel
theorem d_Rows_timesOfPart_28 : decode prog_6_method_8_code 28 = .ok (.invokestatic 19, 3) := by decide +kernel
theorem d_Rows_timesOfPart_31 : decode prog_6_method_8_code 31 = .ok (.isub, 1) := by decide +kernel
theorem d_Rows_timesOfPart_32 : decode prog_6_method_8_code 32 = .ok (.istore 5, 2) := by decide +kernel
theorem d_Rows_timesOfPart_34 : decode prog_6_method_8_code 34 = .ok (.lload_n 2, 1) := by decide +kernel
theorem d_Rows_timesOfPart_35 : decode prog_6_method_8_code 35 = .ok (.iload_n 0, 1) := by decide +kernel
theorem d_Rows_timesOfPart_36 : decode prog_6_method_8_code 36 = .ok (.iconst 0, 1) := by decide +kernel
theorem d_Rows_timesOfPart_37 : decode prog_6_method_8_code 37 = .ok (.iload 4, 2) := by decide +kernel
theorem d_Rows_timesOfPart_39 : decode prog_6_method_8_code 39 = .ok (.invokestatic 19, 3) := by decide +kernel
theorem d_Rows_timesOfPart_42 : decode prog_6_method_8_code 42 = .ok (.iload_n 1, 1) := by decide +kernel
theorem d_Rows_timesOfPart_43 : decode prog_6_method_8_code 43 = .ok (.iconst 0, 1) := by decide +kernel
theorem d_Rows_timesOfPart_44 : decode prog_6_method_8_code 44 = .ok (.iload 4, 2) := by decide +kernel
theorem d_Rows_timesOfPart_46 : decode prog_6_method_8_code 46 = .ok (.invokestatic 19, 3) := by decide +kernel
theorem d_Rows_timesOfPart_49 : decode prog_6_method_8_code 49 = .ok (.invokestatic 23, 3) := by decide +kernel
theorem d_Rows_timesOfPart_52 : decode prog_6_method_8_code 52 = .ok (.lmul, 1) := by decide +kernel
theorem d_Rows_timesOfPart_53 : decode prog_6_method_8_code 53 = .ok (.lstore_n 2, 1) := by decide +kernel
theorem d_Rows_timesOfPart_54 : decode prog_6_method_8_code 54 = .ok (.lload_n 2, 1) := by decide +kernel
theorem d_Rows_timesOfPart_55 : decode prog_6_method_8_code 55 = .ok (.iload_n 1, 1) := by decide +kernel
theorem d_Rows_timesOfPart_56 : decode prog_6_method_8_code 56 = .ok (.iconst 1, 1) := by decide +kernel
theorem d_Rows_timesOfPart_57 : decode prog_6_method_8_code 57 = .ok (.iload 4, 2) := by decide +kernel
theorem d_Rows_timesOfPart_59 : decode prog_6_method_8_code 59 = .ok (.invokestatic 19, 3) := by decide +kernel
theorem d_Rows_timesOfPart_62 : decode prog_6_method_8_code 62 = .ok (.iload_n 0, 1) := by decide +kernel
theorem d_Rows_timesOfPart_63 : decode prog_6_method_8_code 63 = .ok (.iconst 1, 1) := by decide +kernel
theorem d_Rows_timesOfPart_64 : decode prog_6_method_8_code 64 = .ok (.iload 4, 2) := by decide +kernel
theorem d_Rows_timesOfPart_66 : decode prog_6_method_8_code 66 = .ok (.invokestatic 19, 3) := by decide +kernel
theorem d_Rows_timesOfPart_69 : decode prog_6_method_8_code 69 = .ok (.invokestatic 23, 3) := by decide +kernel
theorem d_Rows_timesOfPart_72 : decode prog_6_method_8_code 72 = .ok (.lmul, 1) := by decide +kernel
theorem d_Rows_timesOfPart_73 : decode prog_6_method_8_code 73 = .ok (.lstore_n 2, 1) := by decide +kernel
theorem d_Rows_timesOfPart_74 : decode prog_6_method_8_code 74 = .ok (.iconst 0, 1) := by decide +kernel
theorem d_Rows_timesOfPart_75 : decode prog_6_method_8_code 75 = .ok (.istore 6, 2) := by decide +kernel
theorem d_Rows_timesOfPart_77 : decode prog_6_method_8_code 77 = .ok (.iload 6, 2) := by decide +kernel
theorem d_Rows_timesOfPart_79 : decode prog_6_method_8_code 79 = .ok (.iload 5, 2) := by decide +kernel
theorem d_Rows_timesOfPart_81 : decode prog_6_method_8_code 81 = .ok (.if_icmp .ge 15, 3) := by decide +kernel
theorem d_Rows_timesOfPart_84 : decode prog_6_method_8_code 84 = .ok (.lload_n 2, 1) := by decide +kernel
theorem d_Rows_timesOfPart_85 : decode prog_6_method_8_code 85 = .ok (.iload 4, 2) := by decide +kernel
theorem d_Rows_timesOfPart_87 : decode prog_6_method_8_code 87 = .ok (.i2l, 1) := by decide +kernel
theorem d_Rows_timesOfPart_88 : decode prog_6_method_8_code 88 = .ok (.lmul, 1) := by decide +kernel
theorem d_Rows_timesOfPart_89 : decode prog_6_method_8_code 89 = .ok (.lstore_n 2, 1) := by decide +kernel
theorem d_Rows_timesOfPart_90 : decode prog_6_method_8_code 90 = .ok (.iinc 6 1, 3) := by decide +kernel
theorem d_Rows_timesOfPart_93 : decode prog_6_method_8_code 93 = .ok (.goto (-16), 3) := by decide +kernel
theorem d_Rows_timesOfPart_96 : decode prog_6_method_8_code 96 = .ok (.iinc 4 1, 3) := by decide +kernel
theorem d_Rows_timesOfPart_99 : decode prog_6_method_8_code 99 = .ok (.goto (-94), 3) := by decide +kernel
theorem d_Rows_timesOfPart_102 : decode prog_6_method_8_code 102 = .ok (.lload_n 2, 1) := by decide +kernel
theorem d_Rows_timesOfPart_103 : decode prog_6_method_8_code 103 = .ok (.lreturn, 1) := by decide +kernel
theorem d_Sh_init_0 : decode prog_7_method_1_code 0 = .ok (.aload_n 0, 1) := by decide +kernel
theorem d_Sh_init_1 : decode prog_7_method_1_code 1 = .ok (.invokespecial 1, 3) := by decide +kernel
theorem d_Sh_init_4 : decode prog_7_method_1_code 4 = .ok (.aload_n 0, 1) := by decide +kernel
theorem d_Sh_init_5 : decode prog_7_method_1_code 5 = .ok (.bipush 60, 2) := by decide +kernel
theorem d_Sh_init_7 : decode prog_7_method_1_code 7 = .ok (.newarray .int, 2) := by decide +kernel
theorem d_Sh_init_9 : decode prog_7_method_1_code 9 = .ok (.putfield 9, 3) := by decide +kernel
theorem d_Sh_init_12 : decode prog_7_method_1_code 12 = .ok (.aload_n 0, 1) := by decide +kernel
theorem d_Sh_init_13 : decode prog_7_method_1_code 13 = .ok (.iconst (-1), 1) := by decide +kernel
theorem d_Sh_init_14 : decode prog_7_method_1_code 14 = .ok (.putfield 13, 3) := by decide +kernel
theorem d_Sh_init_17 : decode prog_7_method_1_code 17 = .ok (.return_, 1) := by decide +kernel
theorem d_Sh_isLane_0 : decode prog_7_method_2_code 0 = .ok (.iload_n 0, 1) := by decide +kernel
theorem d_Sh_isLane_1 : decode prog_7_method_2_code 1 = .ok (.ifCond .lt 12, 3) := by decide +kernel
theorem d_Sh_isLane_4 : decode prog_7_method_2_code 4 = .ok (.iload_n 0, 1) := by decide +kernel
theorem d_Sh_isLane_5 : decode prog_7_method_2_code 5 = .ok (.iconst 2, 1) := by decide +kernel
theorem d_Sh_isLane_6 : decode prog_7_method_2_code 6 = .ok (.if_icmp .gt 7, 3) := by decide +kernel
theorem d_Sh_isLane_9 : decode prog_7_method_2_code 9 = .ok (.iconst 1, 1) := by decide +kernel
theorem d_Sh_isLane_10 : decode prog_7_method_2_code 10 = .ok (.goto 4, 3) := by decide +kernel
theorem d_Sh_isLane_13 : decode prog_7_method_2_code 13 = .ok (.iconst 0, 1) := by decide +kernel
theorem d_Sh_isLane_14 : decode prog_7_method_2_code 14 = .ok (.ireturn, 1) := by decide +kernel
theorem d_Sh_renew_0 : decode prog_7_method_3_code 0 = .ok (.iload_n 1, 1) := by decide +kernel
theorem d_Sh_renew_1 : decode prog_7_method_3_code 1 = .ok (.invokestatic 17, 3) := by decide +kernel
theorem d_Sh_renew_4 : decode prog_7_method_3_code 4 = .ok (.ifCond .eq 13, 3) := by decide +kernel
theorem d_Sh_renew_7 : decode prog_7_method_3_code 7 = .ok (.iload_n 2, 1) := by decide +kernel
theorem d_Sh_renew_8 : decode prog_7_method_3_code 8 = .ok (.ifCond .lt 9, 3) := by decide +kernel
theorem d_Sh_renew_11 : decode prog_7_method_3_code 11 = .ok (.iload_n 2, 1) := by decide +kernel
theorem d_Sh_renew_12 : decode prog_7_method_3_code 12 = .ok (.bipush 60, 2) := by decide +kernel
theorem d_Sh_renew_14 : decode prog_7_method_3_code 14 = .ok (.if_icmp .le 4, 3) := by decide +kernel
theorem d_Sh_renew_17 : decode prog_7_method_3_code 17 = .ok (.return_, 1) := by decide +kernel
theorem d_Sh_renew_18 : decode prog_7_method_3_code 18 = .ok (.aload_n 0, 1) := by decide +kernel
theorem d_Sh_renew_19 : decode prog_7_method_3_code 19 = .ok (.iload_n 1, 1) := by decide +kernel
theorem d_Sh_renew_20 : decode prog_7_method_3_code 20 = .ok (.putfield 13, 3) := by decide +kernel
theorem d_Sh_renew_23 : decode prog_7_method_3_code 23 = .ok (.aload_n 0, 1) := by decide +kernel
theorem d_Sh_renew_24 : decode prog_7_method_3_code 24 = .ok (.iload_n 2, 1) := by decide +kernel
theorem d_Sh_renew_25 : decode prog_7_method_3_code 25 = .ok (.putfield 21, 3) := by decide +kernel
theorem d_Sh_renew_28 : decode prog_7_method_3_code 28 = .ok (.aload_n 0, 1) := by decide +kernel
theorem d_Sh_renew_29 : decode prog_7_method_3_code 29 = .ok (.getfield 9, 3) := by decide +kernel
theorem d_Sh_renew_32 : decode prog_7_method_3_code 32 = .ok (.iconst 0, 1) := by decide +kernel
theorem d_Sh_renew_33 : decode prog_7_method_3_code 33 = .ok (.invokestatic 24, 3) := by decide +kernel
theorem d_Sh_renew_36 : decode prog_7_method_3_code 36 = .ok (.return_, 1) := by decide +kernel
theorem d_Sh_isNothing_0 : decode prog_7_method_4_code 0 = .ok (.aload_n 0, 1) := by decide +kernel
theorem d_Sh_isNothing_1 : decode prog_7_method_4_code 1 = .ok (.getfield 13, 3) := by decide +kernel
theorem d_Sh_isNothing_4 : decode prog_7_method_4_code 4 = .ok (.iconst (-1), 1) := by decide +kernel
theorem d_Sh_isNothing_5 : decode prog_7_method_4_code 5 = .ok (.if_icmp .ne 7, 3) := by decide +kernel
theorem d_Sh_isNothing_8 : decode prog_7_method_4_code 8 = .ok (.iconst 1, 1) := by decide +kernel
theorem d_Sh_isNothing_9 : decode prog_7_method_4_code 9 = .ok (.goto 4, 3) := by decide +kernel
theorem d_Sh_isNothing_12 : decode prog_7_method_4_code 12 = .ok (.iconst 0, 1) := by decide +kernel
theorem d_Sh_isNothing_13 : decode prog_7_method_4_code 13 = .ok (.ireturn, 1) := by decide +kernel
theorem d_Sh_isOfLane_0 : decode prog_7_method_5_code 0 = .ok (.aload_n 0, 1) := by decide +kernel
theorem d_Sh_isOfLane_1 : decode prog_7_method_5_code 1 = .ok (.getfield 13, 3) := by decide +kernel
theorem d_Sh_isOfLane_4 : decode prog_7_method_5_code 4 = .ok (.iload_n 1, 1) := by decide +kernel
theorem d_Sh_isOfLane_5 : decode prog_7_method_5_code 5 = .ok (.if_icmp .ne 7, 3) := by decide +kernel
theorem d_Sh_isOfLane_8 : decode prog_7_method_5_code 8 = .ok (.iconst 1, 1) := by decide +kernel
theorem d_Sh_isOfLane_9 : decode prog_7_method_5_code 9 = .ok (.goto 4, 3) := by decide +kernel
theorem d_Sh_isOfLane_12 : decode prog_7_method_5_code 12 = .ok (.iconst 0, 1) := by decide +kernel
theorem d_Sh_isOfLane_13 : decode prog_7_method_5_code 13 = .ok (.ireturn, 1) := by decide +kernel
theorem d_Sh_length_0 : decode prog_7_method_6_code 0 = .ok (.aload_n 0, 1) := by decide +kernel
theorem d_Sh_length_1 : decode prog_7_method_6_code 1 = .ok (.getfield 21, 3) := by decide +kernel
theorem d_Sh_length_4 : decode prog_7_method_6_code 4 = .ok (.ireturn, 1) := by decide +kernel
theorem d_Sh_hasCell_0 : decode prog_7_method_7_code 0 = .ok (.iload_n 1, 1) := by decide +kernel
theorem d_Sh_hasCell_1 : decode prog_7_method_7_code 1 = .ok (.ifCond .lt 21, 3) := by decide +kernel
theorem d_Sh_hasCell_4 : decode prog_7_method_7_code 4 = .ok (.iload_n 1, 1) := by decide +kernel
theorem d_Sh_hasCell_5 : decode prog_7_method_7_code 5 = .ok (.aload_n 0, 1) := by decide +kernel
theorem d_Sh_hasCell_6 : decode prog_7_method_7_code 6 = .ok (.getfield 21, 3) := by decide +kernel
theorem d_Sh_hasCell_9 : decode prog_7_method_7_code 9 = .ok (.if_icmp .ge 13, 3) := by decide +kernel
theorem d_Sh_hasCell_12 : decode prog_7_method_7_code 12 = .ok (.iload_n 1, 1) := by decide +kernel
theorem d_Sh_hasCell_13 : decode prog_7_method_7_code 13 = .ok (.bipush 60, 2) := by decide +kernel
theorem d_Sh_hasCell_15 : decode prog_7_method_7_code 15 = .ok (.if_icmp .ge 7, 3) := by decide +kernel
theorem d_Sh_hasCell_18 : decode prog_7_method_7_code 18 = .ok (.iconst 1, 1) := by decide +kernel
theorem d_Sh_hasCell_19 : decode prog_7_method_7_code 19 = .ok (.goto 4, 3) := by decide +kernel
theorem d_Sh_hasCell_22 : decode prog_7_method_7_code 22 = .ok (.iconst 0, 1) := by decide +kernel
theorem d_Sh_hasCell_23 : decode prog_7_method_7_code 23 = .ok (.ireturn, 1) := by decide +kernel
theorem d_Sh_hasThreeFrom_0 : decode prog_7_method_8_code 0 = .ok (.iload_n 1, 1) := by decide +kernel
theorem d_Sh_hasThreeFrom_1 : decode prog_7_method_8_code 1 = .ok (.ifCond .lt 17, 3) := by decide +kernel
theorem d_Sh_hasThreeFrom_4 : decode prog_7_method_8_code 4 = .ok (.iload_n 1, 1) := by decide +kernel
theorem d_Sh_hasThreeFrom_5 : decode prog_7_method_8_code 5 = .ok (.aload_n 0, 1) := by decide +kernel
theorem d_Sh_hasThreeFrom_6 : decode prog_7_method_8_code 6 = .ok (.getfield 21, 3) := by decide +kernel
theorem d_Sh_hasThreeFrom_9 : decode prog_7_method_8_code 9 = .ok (.iconst 3, 1) := by decide +kernel
theorem d_Sh_hasThreeFrom_10 : decode prog_7_method_8_code 10 = .ok (.isub, 1) := by decide +kernel
theorem d_Sh_hasThreeFrom_11 : decode prog_7_method_8_code 11 = .ok (.if_icmp .gt 7, 3) := by decide +kernel
theorem d_Sh_hasThreeFrom_14 : decode prog_7_method_8_code 14 = .ok (.iconst 1, 1) := by decide +kernel
theorem d_Sh_hasThreeFrom_15 : decode prog_7_method_8_code 15 = .ok (.goto 4, 3) := by decide +kernel
theorem d_Sh_hasThreeFrom_18 : decode prog_7_method_8_code 18 = .ok (.iconst 0, 1) := by decide +kernel
theorem d_Sh_hasThreeFrom_19 : decode prog_7_method_8_code 19 = .ok (.ireturn, 1) := by decide +kernel
theorem d_Sh_read_0 : decode prog_7_method_9_code 0 = .ok (.aload_n 0, 1) := by decide +kernel
theorem d_Sh_read_1 : decode prog_7_method_9_code 1 = .ok (.iload_n 1, 1) := by decide +kernel
theorem d_Sh_read_2 : decode prog_7_method_9_code 2 = .ok (.invokevirtual 30, 3) := by decide +kernel
theorem d_Sh_read_5 : decode prog_7_method_9_code 5 = .ok (.ifCond .eq 12, 3) := by decide +kernel
theorem d_Sh_read_8 : decode prog_7_method_9_code 8 = .ok (.aload_n 0, 1) := by decide +kernel
theorem d_Sh_read_9 : decode prog_7_method_9_code 9 = .ok (.getfield 9, 3) := by decide +kernel
theorem d_Sh_read_12 : decode prog_7_method_9_code 12 = .ok (.iload_n 1, 1) := by decide +kernel
theorem d_Sh_read_13 : decode prog_7_method_9_code 13 = .ok (.iaload, 1) := by decide +kernel
theorem d_Sh_read_14 : decode prog_7_method_9_code 14 = .ok (.goto 4, 3) := by decide +kernel
theorem d_Sh_read_17 : decode prog_7_method_9_code 17 = .ok (.iconst 0, 1) := by decide +kernel
theorem d_Sh_read_18 : decode prog_7_method_9_code 18 = .ok (.ireturn, 1) := by decide +kernel
theorem d_Sh_write_0 : decode prog_7_method_10_code 0 = .ok (.aload_n 0, 1) := by decide +kernel
theorem d_Sh_write_1 : decode prog_7_method_10_code 1 = .ok (.iload_n 1, 1) := by decide +kernel
theorem d_Sh_write_2 : decode prog_7_method_10_code 2 = .ok (.invokevirtual 30, 3) := by decide +kernel
theorem d_Sh_write_5 : decode prog_7_method_10_code 5 = .ok (.ifCond .eq 35, 3) := by decide +kernel
theorem d_Sh_write_8 : decode prog_7_method_10_code 8 = .ok (.aload_n 0, 1) := by decide +kernel
theorem d_Sh_write_9 : decode prog_7_method_10_code 9 = .ok (.getfield 9, 3) := by decide +kernel
theorem d_Sh_write_12 : decode prog_7_method_10_code 12 = .ok (.iload_n 1, 1) := by decide +kernel
theorem d_Sh_write_13 : decode prog_7_method_10_code 13 = .ok (.aload_n 0, 1) := by decide +kernel
theorem d_Sh_write_14 : decode prog_7_method_10_code 14 = .ok (.getfield 13, 3) := by decide +kernel
theorem d_Sh_write_17 : decode prog_7_method_10_code 17 = .ok (.ifCond .ne 8, 3) := by decide +kernel
theorem d_Sh_write_20 : decode prog_7_method_10_code 20 = .ok (.iload_n 2, 1) := by decide +kernel
theorem d_Sh_write_21 : decode prog_7_method_10_code 21 = .ok (.i2b, 1) := by decide +kernel
theorem d_Sh_write_22 : decode prog_7_method_10_code 22 = .ok (.goto 17, 3) := by decide +kernel
theorem d_Sh_write_25 : decode prog_7_method_10_code 25 = .ok (.aload_n 0, 1) := by decide +kernel
theorem d_Sh_write_26 : decode prog_7_method_10_code 26 = .ok (.getfield 13, 3) := by decide +kernel
theorem d_Sh_write_29 : decode prog_7_method_10_code 29 = .ok (.iconst 1, 1) := by decide +kernel
theorem d_Sh_write_30 : decode prog_7_method_10_code 30 = .ok (.if_icmp .ne 8, 3) := by decide +kernel
theorem d_Sh_write_33 : decode prog_7_method_10_code 33 = .ok (.iload_n 2, 1) := by decide +kernel
theorem d_Sh_write_34 : decode prog_7_method_10_code 34 = .ok (.i2s, 1) := by decide +kernel
theorem d_Sh_write_35 : decode prog_7_method_10_code 35 = .ok (.goto 4, 3) := by decide +kernel
theorem d_Sh_write_38 : decode prog_7_method_10_code 38 = .ok (.iload_n 2, 1) := by decide +kernel
theorem d_Sh_write_39 : decode prog_7_method_10_code 39 = .ok (.iastore, 1) := by decide +kernel
theorem d_Sh_write_40 : decode prog_7_method_10_code 40 = .ok (.return_, 1) := by decide +kernel
theorem d_Tg_init_0 : decode prog_8_method_1_code 0 = .ok (.aload_n 0, 1) := by decide +kernel
theorem d_Tg_init_1 : decode prog_8_method_1_code 1 = .ok (.invokespecial 3, 3) := by decide +kernel
theorem d_Tg_init_4 : decode prog_8_method_1_code 4 = .ok (.aload_n 0, 1) := by decide +kernel
theorem d_Tg_init_5 : decode prog_8_method_1_code 5 = .ok (.bipush 73, 2) := by decide +kernel
theorem d_Tg_init_7 : decode prog_8_method_1_code 7 = .ok (.newarray .int, 2) := by decide +kernel
theorem d_Tg_init_9 : decode prog_8_method_1_code 9 = .ok (.putfield 11, 3) := by decide +kernel
theorem d_Tg_init_12 : decode prog_8_method_1_code 12 = .ok (.aload_n 0, 1) := by decide +kernel
theorem d_Tg_init_13 : decode prog_8_method_1_code 13 = .ok (.sipush 803, 3) := by decide +kernel
theorem d_Tg_init_16 : decode prog_8_method_1_code 16 = .ok (.newarray .long, 2) := by decide +kernel
theorem d_Tg_init_18 : decode prog_8_method_1_code 18 = .ok (.putfield 15, 3) := by decide +kernel
theorem d_Tg_init_21 : decode prog_8_method_1_code 21 = .ok (.aload_n 0, 1) := by decide +kernel
theorem d_Tg_init_22 : decode prog_8_method_1_code 22 = .ok (.bipush 7, 2) := by decide +kernel
theorem d_Tg_init_24 : decode prog_8_method_1_code 24 = .ok (.newarray .int, 2) := by decide +kernel
theorem d_Tg_init_26 : decode prog_8_method_1_code 26 = .ok (.putfield 19, 3) := by decide +kernel
theorem d_Tg_init_29 : decode prog_8_method_1_code 29 = .ok (.return_, 1) := by decide +kernel
theorem d_Tg_valueOf_0 : decode prog_8_method_2_code 0 = .ok (.iload_n 1, 1) := by decide +kernel
theorem d_Tg_valueOf_1 : decode prog_8_method_2_code 1 = .ok (.invokestatic 22, 3) := by decide +kernel
theorem d_Tg_valueOf_4 : decode prog_8_method_2_code 4 = .ok (.istore_n 3, 1) := by decide +kernel
theorem d_Tg_valueOf_5 : decode prog_8_method_2_code 5 = .ok (.iload_n 3, 1) := by decide +kernel
theorem d_Tg_valueOf_6 : decode prog_8_method_2_code 6 = .ok (.iconst 1, 1) := by decide +kernel
theorem d_Tg_valueOf_7 : decode prog_8_method_2_code 7 = .ok (.if_icmp .lt 18, 3) := by decide +kernel
theorem d_Tg_valueOf_10 : decode prog_8_method_2_code 10 = .ok (.iload_n 3, 1) := by decide +kernel
theorem d_Tg_valueOf_11 : decode prog_8_method_2_code 11 = .ok (.iconst 5, 1) := by decide +kernel
theorem d_Tg_valueOf_12 : decode prog_8_method_2_code 12 = .ok (.if_icmp .gt 13, 3) := by decide +kernel
theorem d_Tg_valueOf_15 : decode prog_8_method_2_code 15 = .ok (.iload_n 2, 1) := by decide +kernel
theorem d_Tg_valueOf_16 : decode prog_8_method_2_code 16 = .ok (.ifCond .lt 9, 3) := by decide +kernel
theorem d_Tg_valueOf_19 : decode prog_8_method_2_code 19 = .ok (.iload_n 2, 1) := by decide +kernel
theorem d_Tg_valueOf_20 : decode prog_8_method_2_code 20 = .ok (.bipush 11, 2) := by decide +kernel
theorem d_Tg_valueOf_22 : decode prog_8_method_2_code 22 = .ok (.if_icmp .lt 5, 3) := by decide +kernel
theorem d_Tg_valueOf_25 : decode prog_8_method_2_code 25 = .ok (.lconst 0, 1) := by decide +kernel
theorem d_Tg_valueOf_26 : decode prog_8_method_2_code 26 = .ok (.lreturn, 1) := by decide +kernel
theorem d_Tg_valueOf_27 : decode prog_8_method_2_code 27 = .ok (.aload_n 0, 1) := by decide +kernel
theorem d_Tg_valueOf_28 : decode prog_8_method_2_code 28 = .ok (.getfield 28, 3) := by decide +kernel
theorem d_Tg_valueOf_31 : decode prog_8_method_2_code 31 = .ok (.iconst 1, 1) := by decide +kernel
theorem d_Tg_valueOf_32 : decode prog_8_method_2_code 32 = .ok (.iadd, 1) := by decide +kernel
theorem d_Tg_valueOf_33 : decode prog_8_method_2_code 33 = .ok (.istore 4, 2) := by decide +kernel
theorem d_Tg_valueOf_35 : decode prog_8_method_2_code 35 = .ok (.iload 4, 2) := by decide +kernel
theorem d_Tg_valueOf_37 : decode prog_8_method_2_code 37 = .ok (.iload_n 3, 1) := by decide +kernel
theorem d_Tg_valueOf_38 : decode prog_8_method_2_code 38 = .ok (.if_icmp .gt 15, 3) := by decide +kernel
theorem d_Tg_valueOf_41 : decode prog_8_method_2_code 41 = .ok (.aload_n 0, 1) := by decide +kernel
theorem d_Tg_valueOf_42 : decode prog_8_method_2_code 42 = .ok (.iload 4, 2) := by decide +kernel
theorem d_Tg_valueOf_44 : decode prog_8_method_2_code 44 = .ok (.invokevirtual 32, 3) := by decide +kernel
theorem d_Tg_valueOf_47 : decode prog_8_method_2_code 47 = .ok (.iinc 4 1, 3) := by decide +kernel
theorem d_Tg_valueOf_50 : decode prog_8_method_2_code 50 = .ok (.goto (-15), 3) := by decide +kernel
theorem d_Tg_valueOf_53 : decode prog_8_method_2_code 53 = .ok (.aload_n 0, 1) := by decide +kernel
theorem d_Tg_valueOf_54 : decode prog_8_method_2_code 54 = .ok (.iload_n 3, 1) := by decide +kernel
theorem d_Tg_valueOf_55 : decode prog_8_method_2_code 55 = .ok (.iload_n 1, 1) := by decide +kernel
theorem d_Tg_valueOf_56 : decode prog_8_method_2_code 56 = .ok (.invokevirtual 36, 3) := by decide +kernel
theorem d_Tg_valueOf_59 : decode prog_8_method_2_code 59 = .ok (.istore 4, 2) := by decide +kernel
theorem d_Tg_valueOf_61 : decode prog_8_method_2_code 61 = .ok (.iload 4, 2) := by decide +kernel
theorem d_Tg_valueOf_63 : decode prog_8_method_2_code 63 = .ok (.ifCond .ge 7, 3) := by decide +kernel
theorem d_Tg_valueOf_66 : decode prog_8_method_2_code 66 = .ok (.lconst 0, 1) := by decide +kernel
theorem d_Tg_valueOf_67 : decode prog_8_method_2_code 67 = .ok (.goto 15, 3) := by decide +kernel
theorem d_Tg_valueOf_70 : decode prog_8_method_2_code 70 = .ok (.aload_n 0, 1) := by decide +kernel
theorem d_Tg_valueOf_71 : decode prog_8_method_2_code 71 = .ok (.getfield 15, 3) := by decide +kernel
theorem d_Tg_valueOf_74 : decode prog_8_method_2_code 74 = .ok (.iload 4, 2) := by decide +kernel
theorem d_Tg_valueOf_76 : decode prog_8_method_2_code 76 = .ok (.bipush 11, 2) := by decide +kernel
theorem d_Tg_valueOf_78 : decode prog_8_method_2_code 78 = .ok (.imul, 1) := by decide +kernel
theorem d_Tg_valueOf_79 : decode prog_8_method_2_code 79 = .ok (.iload_n 2, 1) := by decide +kernel
theorem d_Tg_valueOf_80 : decode prog_8_method_2_code 80 = .ok (.iadd, 1) := by decide +kernel
theorem d_Tg_valueOf_81 : decode prog_8_method_2_code 81 = .ok (.laload, 1) := by decide +kernel
theorem d_Tg_valueOf_82 : decode prog_8_method_2_code 82 = .ok (.lreturn, 1) := by decide +kernel
theorem d_Tg_learn_0 : decode prog_8_method_3_code 0 = .ok (.iload_n 1, 1) := by decide +kernel
theorem d_Tg_learn_1 : decode prog_8_method_3_code 1 = .ok (.iconst 1, 1) := by decide +kernel
theorem d_Tg_learn_2 : decode prog_8_method_3_code 2 = .ok (.if_icmp .lt 8, 3) := by decide +kernel
theorem d_Tg_learn_5 : decode prog_8_method_3_code 5 = .ok (.iload_n 1, 1) := by decide +kernel
theorem d_Tg_learn_6 : decode prog_8_method_3_code 6 = .ok (.iconst 5, 1) := by decide +kernel
theorem d_Tg_learn_7 : decode prog_8_method_3_code 7 = .ok (.if_icmp .le 4, 3) := by decide +kernel
theorem d_Tg_learn_10 : decode prog_8_method_3_code 10 = .ok (.return_, 1) := by decide +kernel
theorem d_Tg_learn_11 : decode prog_8_method_3_code 11 = .ok (.aload_n 0, 1) := by decide +kernel
theorem d_Tg_learn_12 : decode prog_8_method_3_code 12 = .ok (.getfield 19, 3) := by decide +kernel
theorem d_Tg_learn_15 : decode prog_8_method_3_code 15 = .ok (.iload_n 1, 1) := by decide +kernel
theorem d_Tg_learn_16 : decode prog_8_method_3_code 16 = .ok (.aload_n 0, 1) := by decide +kernel
theorem d_Tg_learn_17 : decode prog_8_method_3_code 17 = .ok (.getfield 40, 3) := by decide +kernel
theorem d_Tg_learn_20 : decode prog_8_method_3_code 20 = .ok (.iastore, 1) := by decide +kernel
theorem d_Tg_learn_21 : decode prog_8_method_3_code 21 = .ok (.aload_n 0, 1) := by decide +kernel
theorem d_Tg_learn_22 : decode prog_8_method_3_code 22 = .ok (.bipush 9, 2) := by decide +kernel
theorem d_Tg_learn_24 : decode prog_8_method_3_code 24 = .ok (.iload_n 1, 1) := by decide +kernel
theorem d_Tg_learn_25 : decode prog_8_method_3_code 25 = .ok (.iconst 0, 1) := by decide +kernel
theorem d_Tg_learn_26 : decode prog_8_method_3_code 26 = .ok (.invokevirtual 43, 3) := by decide +kernel
theorem d_Tg_learn_29 : decode prog_8_method_3_code 29 = .ok (.aload_n 0, 1) := by decide +kernel
theorem d_Tg_learn_30 : decode prog_8_method_3_code 30 = .ok (.getfield 19, 3) := by decide +kernel
theorem d_Tg_learn_33 : decode prog_8_method_3_code 33 = .ok (.iload_n 1, 1) := by decide +kernel
theorem d_Tg_learn_34 : decode prog_8_method_3_code 34 = .ok (.iconst 1, 1) := by decide +kernel
theorem d_Tg_learn_35 : decode prog_8_method_3_code 35 = .ok (.iadd, 1) := by decide +kernel
theorem d_Tg_learn_36 : decode prog_8_method_3_code 36 = .ok (.aload_n 0, 1) := by decide +kernel
theorem d_Tg_learn_37 : decode prog_8_method_3_code 37 = .ok (.getfield 40, 3) := by decide +kernel
theorem d_Tg_learn_40 : decode prog_8_method_3_code 40 = .ok (.iastore, 1) := by decide +kernel
theorem d_Tg_learn_41 : decode prog_8_method_3_code 41 = .ok (.aload_n 0, 1) := by decide +kernel
theorem d_Tg_learn_42 : decode prog_8_method_3_code 42 = .ok (.getfield 19, 3) := by decide +kernel
theorem d_Tg_learn_45 : decode prog_8_method_3_code 45 = .ok (.iload_n 1, 1) := by decide +kernel
theorem d_Tg_learn_46 : decode prog_8_method_3_code 46 = .ok (.iaload, 1) := by decide +kernel
theorem d_Tg_learn_47 : decode prog_8_method_3_code 47 = .ok (.istore_n 2, 1) := by decide +kernel
theorem d_Tg_learn_48 : decode prog_8_method_3_code 48 = .ok (.iload_n 2, 1) := by decide +kernel
theorem d_Tg_learn_49 : decode prog_8_method_3_code 49 = .ok (.aload_n 0, 1) := by decide +kernel
theorem d_Tg_learn_50 : decode prog_8_method_3_code 50 = .ok (.getfield 40, 3) := by decide +kernel
theorem d_Tg_learn_53 : decode prog_8_method_3_code 53 = .ok (.if_icmp .ge 39, 3) := by decide +kernel
theorem d_Tg_learn_56 : decode prog_8_method_3_code 56 = .ok (.iload_n 1, 1) := by decide +kernel
theorem d_Tg_learn_57 : decode prog_8_method_3_code 57 = .ok (.iconst 1, 1) := by decide +kernel
theorem d_Tg_learn_58 : decode prog_8_method_3_code 58 = .ok (.if_icmp .ne 16, 3) := by decide +kernel
theorem d_Tg_learn_61 : decode prog_8_method_3_code 61 = .ok (.aload_n 0, 1) := by decide +kernel
theorem d_Tg_learn_62 : decode prog_8_method_3_code 62 = .ok (.getfield 15, 3) := by decide +kernel
theorem d_Tg_learn_65 : decode prog_8_method_3_code 65 = .ok (.iload_n 2, 1) := by decide +kernel
theorem d_Tg_learn_66 : decode prog_8_method_3_code 66 = .ok (.bipush 11, 2) := by decide +kernel
theorem d_Tg_learn_68 : decode prog_8_method_3_code 68 = .ok (.imul, 1) := by decide +kernel
theorem d_Tg_learn_69 : decode prog_8_method_3_code 69 = .ok (.lconst 1, 1) := by decide +kernel
theorem d_Tg_learn_70 : decode prog_8_method_3_code 70 = .ok (.lastore, 1) := by decide +kernel
theorem d_Tg_learn_71 : decode prog_8_method_3_code 71 = .ok (.goto 15, 3) := by decide +kernel
theorem d_Tg_learn_74 : decode prog_8_method_3_code 74 = .ok (.aload_n 0, 1) := by decide +kernel
theorem d_Tg_learn_75 : decode prog_8_method_3_code 75 = .ok (.iload_n 1, 1) := by decide +kernel
theorem d_Tg_learn_76 : decode prog_8_method_3_code 76 = .ok (.iload_n 2, 1) := by decide +kernel
theorem d_Tg_learn_77 : decode prog_8_method_3_code 77 = .ok (.invokevirtual 47, 3) := by decide +kernel
theorem d_Tg_learn_80 : decode prog_8_method_3_code 80 = .ok (.aload_n 0, 1) := by decide +kernel
theorem d_Tg_learn_81 : decode prog_8_method_3_code 81 = .ok (.iload_n 1, 1) := by decide +kernel
theorem d_Tg_learn_82 : decode prog_8_method_3_code 82 = .ok (.iload_n 2, 1) := by decide +kernel
theorem d_Tg_learn_83 : decode prog_8_method_3_code 83 = .ok (.invokevirtual 51, 3) := by decide +kernel
theorem d_Tg_learn_86 : decode prog_8_method_3_code 86 = .ok (.iinc 2 1, 3) := by decide +kernel
theorem d_Tg_learn_89 : decode prog_8_method_3_code 89 = .ok (.goto (-41), 3) := by decide +kernel
theorem d_Tg_learn_92 : decode prog_8_method_3_code 92 = .ok (.aload_n 0, 1) := by decide +kernel
theorem d_Tg_learn_93 : decode prog_8_method_3_code 93 = .ok (.iload_n 1, 1) := by decide +kernel
theorem d_Tg_learn_94 : decode prog_8_method_3_code 94 = .ok (.putfield 28, 3) := by decide +kernel
theorem d_Tg_learn_97 : decode prog_8_method_3_code 97 = .ok (.return_, 1) := by decide +kernel
theorem d_Tg_enterRows_0 : decode prog_8_method_4_code 0 = .ok (.iload_n 1, 1) := by decide +kernel
theorem d_Tg_enterRows_1 : decode prog_8_method_4_code 1 = .ok (.ifCond .ge 37, 3) := by decide +kernel
theorem d_Tg_enterRows_4 : decode prog_8_method_4_code 4 = .ok (.iload_n 2, 1) := by decide +kernel
theorem d_Tg_enterRows_5 : decode prog_8_method_4_code 5 = .ok (.ifCond .ne 32, 3) := by decide +kernel
theorem d_Tg_enterRows_8 : decode prog_8_method_4_code 8 = .ok (.aload_n 0, 1) := by decide +kernel
theorem d_Tg_enterRows_9 : decode prog_8_method_4_code 9 = .ok (.getfield 40, 3) := by decide +kernel
theorem d_Tg_enterRows_12 : decode prog_8_method_4_code 12 = .ok (.bipush 73, 2) := by decide +kernel
theorem d_Tg_enterRows_14 : decode prog_8_method_4_code 14 = .ok (.if_icmp .ge 23, 3) := by decide +kernel
theorem d_Tg_enterRows_17 : decode prog_8_method_4_code 17 = .ok (.aload_n 0, 1) := by decide +kernel
theorem d_Tg_enterRows_18 : decode prog_8_method_4_code 18 = .ok (.getfield 11, 3) := by decide +kernel
theorem d_Tg_enterRows_21 : decode prog_8_method_4_code 21 = .ok (.aload_n 0, 1) := by decide +kernel
theorem d_Tg_enterRows_22 : decode prog_8_method_4_code 22 = .ok (.getfield 40, 3) := by decide +kernel
theorem d_Tg_enterRows_25 : decode prog_8_method_4_code 25 = .ok (.iload_n 3, 1) := by decide +kernel
theorem d_Tg_enterRows_26 : decode prog_8_method_4_code 26 = .ok (.iastore, 1) := by decide +kernel
theorem d_Tg_enterRows_27 : decode prog_8_method_4_code 27 = .ok (.aload_n 0, 1) := by decide +kernel
theorem d_Tg_enterRows_28 : decode prog_8_method_4_code 28 = .ok (.dup, 1) := by decide +kernel
theorem d_Tg_enterRows_29 : decode prog_8_method_4_code 29 = .ok (.getfield 40, 3) := by decide +kernel
theorem d_Tg_enterRows_32 : decode prog_8_method_4_code 32 = .ok (.iconst 1, 1) := by decide +kernel
theorem d_Tg_enterRows_33 : decode prog_8_method_4_code 33 = .ok (.iadd, 1) := by decide +kernel
theorem d_Tg_enterRows_34 : decode prog_8_method_4_code 34 = .ok (.putfield 40, 3) := by decide +kernel
theorem d_Tg_enterRows_37 : decode prog_8_method_4_code 37 = .ok (.return_, 1) := by decide +kernel
theorem d_Tg_enterRows_38 : decode prog_8_method_4_code 38 = .ok (.iload_n 1, 1) := by decide +kernel
theorem d_Tg_enterRows_39 : decode prog_8_method_4_code 39 = .ok (.invokestatic 54, 3) := by decide +kernel
theorem d_Tg_enterRows_42 : decode prog_8_method_4_code 42 = .ok (.istore 4, 2) := by decide +kernel
theorem d_Tg_enterRows_44 : decode prog_8_method_4_code 44 = .ok (.iconst 0, 1) := by decide +kernel
theorem d_Tg_enterRows_45 : decode prog_8_method_4_code 45 = .ok (.istore 5, 2) := by decide +kernel
theorem d_Tg_enterRows_47 : decode prog_8_method_4_code 47 = .ok (.iload 5, 2) := by decide +kernel
theorem d_Tg_enterRows_49 : decode prog_8_method_4_code 49 = .ok (.iload 4, 2) := by decide +kernel
theorem d_Tg_enterRows_51 : decode prog_8_method_4_code 51 = .ok (.imul, 1) := by decide +kernel
theorem d_Tg_enterRows_52 : decode prog_8_method_4_code 52 = .ok (.iload_n 2, 1) := by decide +kernel
theorem d_Tg_enterRows_53 : decode prog_8_method_4_code 53 = .ok (.if_icmp .gt 32, 3) := by decide +kernel
theorem d_Tg_enterRows_56 : decode prog_8_method_4_code 56 = .ok (.aload_n 0, 1) := by decide +kernel
theorem d_Tg_enterRows_57 : decode prog_8_method_4_code 57 = .ok (.iload_n 1, 1) := by decide +kernel
theorem d_Tg_enterRows_58 : decode prog_8_method_4_code 58 = .ok (.iconst 1, 1) := by decide +kernel
theorem d_Tg_enterRows_59 : decode prog_8_method_4_code 59 = .ok (.isub, 1) := by decide +kernel
theorem d_Tg_enterRows_60 : decode prog_8_method_4_code 60 = .ok (.iload_n 2, 1) := by decide +kernel
theorem d_Tg_enterRows_61 : decode prog_8_method_4_code 61 = .ok (.iload 5, 2) := by decide +kernel
theorem d_Tg_enterRows_63 : decode prog_8_method_4_code 63 = .ok (.iload 4, 2) := by decide +kernel
theorem d_Tg_enterRows_65 : decode prog_8_method_4_code 65 = .ok (.imul, 1) := by decide +kernel
theorem d_Tg_enterRows_66 : decode prog_8_method_4_code 66 = .ok (.isub, 1) := by decide +kernel
theorem d_Tg_enterRows_67 : decode prog_8_method_4_code 67 = .ok (.iload_n 3, 1) := by decide +kernel
theorem d_Tg_enterRows_68 : decode prog_8_method_4_code 68 = .ok (.iload 5, 2) := by decide +kernel
theorem d_Tg_enterRows_70 : decode prog_8_method_4_code 70 = .ok (.iload_n 1, 1) := by decide +kernel
theorem d_Tg_enterRows_71 : decode prog_8_method_4_code 71 = .ok (.invokestatic 57, 3) := by decide +kernel
theorem d_Tg_enterRows_74 : decode prog_8_method_4_code 74 = .ok (.imul, 1) := by decide +kernel
theorem d_Tg_enterRows_75 : decode prog_8_method_4_code 75 = .ok (.iadd, 1) := by decide +kernel
theorem d_Tg_enterRows_76 : decode prog_8_method_4_code 76 = .ok (.invokevirtual 43, 3) := by decide +kernel
theorem d_Tg_enterRows_79 : decode prog_8_method_4_code 79 = .ok (.iinc 5 1, 3) := by decide +kernel
theorem d_Tg_enterRows_82 : decode prog_8_method_4_code 82 = .ok (.goto (-35), 3) := by decide +kernel
theorem d_Tg_enterRows_85 : decode prog_8_method_4_code 85 = .ok (.return_, 1) := by decide +kernel
theorem d_Tg_indexOf_0 : decode prog_8_method_5_code 0 = .ok (.iload_n 1, 1) := by decide +kernel
theorem d_Tg_indexOf_1 : decode prog_8_method_5_code 1 = .ok (.iconst 1, 1) := by decide +kernel
theorem d_Tg_indexOf_2 : decode prog_8_method_5_code 2 = .ok (.if_icmp .lt 8, 3) := by decide +kernel
theorem d_Tg_indexOf_5 : decode prog_8_method_5_code 5 = .ok (.iload_n 1, 1) := by decide +kernel
theorem d_Tg_indexOf_6 : decode prog_8_method_5_code 6 = .ok (.iconst 5, 1) := by decide +kernel
theorem d_Tg_indexOf_7 : decode prog_8_method_5_code 7 = .ok (.if_icmp .le 5, 3) := by decide +kernel
theorem d_Tg_indexOf_10 : decode prog_8_method_5_code 10 = .ok (.iconst (-1), 1) := by decide +kernel
theorem d_Tg_indexOf_11 : decode prog_8_method_5_code 11 = .ok (.ireturn, 1) := by decide +kernel
theorem d_Tg_indexOf_12 : decode prog_8_method_5_code 12 = .ok (.aload_n 0, 1) := by decide +kernel
theorem d_Tg_indexOf_13 : decode prog_8_method_5_code 13 = .ok (.getfield 19, 3) := by decide +kernel
theorem d_Tg_indexOf_16 : decode prog_8_method_5_code 16 = .ok (.iload_n 1, 1) := by decide +kernel
theorem d_Tg_indexOf_17 : decode prog_8_method_5_code 17 = .ok (.iaload, 1) := by decide +kernel
theorem d_Tg_indexOf_18 : decode prog_8_method_5_code 18 = .ok (.istore_n 3, 1) := by decide +kernel
theorem d_Tg_indexOf_19 : decode prog_8_method_5_code 19 = .ok (.iload_n 3, 1) := by decide +kernel
theorem d_Tg_indexOf_20 : decode prog_8_method_5_code 20 = .ok (.aload_n 0, 1) := by decide +kernel
theorem d_Tg_indexOf_21 : decode prog_8_method_5_code 21 = .ok (.getfield 19, 3) := by decide +kernel
theorem d_Tg_indexOf_24 : decode prog_8_method_5_code 24 = .ok (.iload_n 1, 1) := by decide +kernel
theorem d_Tg_indexOf_25 : decode prog_8_method_5_code 25 = .ok (.iconst 1, 1) := by decide +kernel
theorem d_Tg_indexOf_26 : decode prog_8_method_5_code 26 = .ok (.iadd, 1) := by decide +kernel
theorem d_Tg_indexOf_27 : decode prog_8_method_5_code 27 = .ok (.iaload, 1) := by decide +kernel
theorem d_Tg_indexOf_28 : decode prog_8_method_5_code 28 = .ok (.if_icmp .ge 27, 3) := by decide +kernel
theorem d_Tg_indexOf_31 : decode prog_8_method_5_code 31 = .ok (.iload_n 3, 1) := by decide +kernel
theorem d_Tg_indexOf_32 : decode prog_8_method_5_code 32 = .ok (.bipush 73, 2) := by decide +kernel
theorem d_Tg_indexOf_34 : decode prog_8_method_5_code 34 = .ok (.if_icmp .ge 21, 3) := by decide +kernel
theorem d_Tg_indexOf_37 : decode prog_8_method_5_code 37 = .ok (.aload_n 0, 1) := by decide +kernel
theorem d_Tg_indexOf_38 : decode prog_8_method_5_code 38 = .ok (.getfield 11, 3) := by decide +kernel
theorem d_Tg_indexOf_41 : decode prog_8_method_5_code 41 = .ok (.iload_n 3, 1) := by decide +kernel
theorem d_Tg_indexOf_42 : decode prog_8_method_5_code 42 = .ok (.iaload, 1) := by decide +kernel
theorem d_Tg_indexOf_43 : decode prog_8_method_5_code 43 = .ok (.iload_n 2, 1) := by decide +kernel
theorem d_Tg_indexOf_44 : decode prog_8_method_5_code 44 = .ok (.if_icmp .ne 5, 3) := by decide +kernel
theorem d_Tg_indexOf_47 : decode prog_8_method_5_code 47 = .ok (.iload_n 3, 1) := by decide +kernel
theorem d_Tg_indexOf_48 : decode prog_8_method_5_code 48 = .ok (.ireturn, 1) := by decide +kernel
theorem d_Tg_indexOf_49 : decode prog_8_method_5_code 49 = .ok (.iinc 3 1, 3) := by decide +kernel
theorem d_Tg_indexOf_52 : decode prog_8_method_5_code 52 = .ok (.goto (-33), 3) := by decide +kernel
theorem d_Tg_indexOf_55 : decode prog_8_method_5_code 55 = .ok (.iconst (-1), 1) := by decide +kernel
theorem d_Tg_indexOf_56 : decode prog_8_method_5_code 56 = .ok (.ireturn, 1) := by decide +kernel
theorem d_Tg_addMoves_0 : decode prog_8_method_6_code 0 = .ok (.iload_n 2, 1) := by decide +kernel
theorem d_Tg_addMoves_1 : decode prog_8_method_6_code 1 = .ok (.ifCond .lt 9, 3) := by decide +kernel
theorem d_Tg_addMoves_4 : decode prog_8_method_6_code 4 = .ok (.iload_n 2, 1) := by decide +kernel
theorem d_Tg_addMoves_5 : decode prog_8_method_6_code 5 = .ok (.bipush 73, 2) := by decide +kernel
theorem d_Tg_addMoves_7 : decode prog_8_method_6_code 7 = .ok (.if_icmp .lt 4, 3) := by decide +kernel
theorem d_Tg_addMoves_10 : decode prog_8_method_6_code 10 = .ok (.return_, 1) := by decide +kernel
theorem d_Tg_addMoves_11 : decode prog_8_method_6_code 11 = .ok (.iconst 1, 1) := by decide +kernel
theorem d_Tg_addMoves_12 : decode prog_8_method_6_code 12 = .ok (.istore_n 3, 1) := by decide +kernel
theorem d_Tg_addMoves_13 : decode prog_8_method_6_code 13 = .ok (.iload_n 3, 1) := by decide +kernel
theorem d_Tg_addMoves_14 : decode prog_8_method_6_code 14 = .ok (.iconst 5, 1) := by decide +kernel
theorem d_Tg_addMoves_15 : decode prog_8_method_6_code 15 = .ok (.if_icmp .gt 54, 3) := by decide +kernel
theorem d_Tg_addMoves_18 : decode prog_8_method_6_code 18 = .ok (.aload_n 0, 1) := by decide +kernel
theorem d_Tg_addMoves_19 : decode prog_8_method_6_code 19 = .ok (.getfield 11, 3) := by decide +kernel
theorem d_Tg_addMoves_22 : decode prog_8_method_6_code 22 = .ok (.iload_n 2, 1) := by decide +kernel
theorem d_Tg_addMoves_23 : decode prog_8_method_6_code 23 = .ok (.iaload, 1) := by decide +kernel
theorem d_Tg_addMoves_24 : decode prog_8_method_6_code 24 = .ok (.iconst 1, 1) := by decide +kernel
theorem d_Tg_addMoves_25 : decode prog_8_method_6_code 25 = .ok (.iload_n 3, 1) := by decide +kernel
theorem d_Tg_addMoves_26 : decode prog_8_method_6_code 26 = .ok (.invokestatic 60, 3) := by decide +kernel
theorem d_Tg_addMoves_29 : decode prog_8_method_6_code 29 = .ok (.ifCond .le 34, 3) := by decide +kernel
theorem d_Tg_addMoves_32 : decode prog_8_method_6_code 32 = .ok (.aload_n 0, 1) := by decide +kernel
theorem d_Tg_addMoves_33 : decode prog_8_method_6_code 33 = .ok (.iload_n 2, 1) := by decide +kernel
theorem d_Tg_addMoves_34 : decode prog_8_method_6_code 34 = .ok (.aload_n 0, 1) := by decide +kernel
theorem d_Tg_addMoves_35 : decode prog_8_method_6_code 35 = .ok (.iload_n 1, 1) := by decide +kernel
theorem d_Tg_addMoves_36 : decode prog_8_method_6_code 36 = .ok (.aload_n 0, 1) := by decide +kernel
theorem d_Tg_addMoves_37 : decode prog_8_method_6_code 37 = .ok (.getfield 11, 3) := by decide +kernel
theorem d_Tg_addMoves_40 : decode prog_8_method_6_code 40 = .ok (.iload_n 2, 1) := by decide +kernel
theorem d_Tg_addMoves_41 : decode prog_8_method_6_code 41 = .ok (.iaload, 1) := by decide +kernel
theorem d_Tg_addMoves_42 : decode prog_8_method_6_code 42 = .ok (.iconst 0, 1) := by decide +kernel
theorem d_Tg_addMoves_43 : decode prog_8_method_6_code 43 = .ok (.iload_n 3, 1) := by decide +kernel
theorem d_Tg_addMoves_44 : decode prog_8_method_6_code 44 = .ok (.invokestatic 64, 3) := by decide +kernel
theorem d_Tg_addMoves_47 : decode prog_8_method_6_code 47 = .ok (.iadd, 1) := by decide +kernel
theorem d_Tg_addMoves_48 : decode prog_8_method_6_code 48 = .ok (.iconst 1, 1) := by decide +kernel
theorem d_Tg_addMoves_49 : decode prog_8_method_6_code 49 = .ok (.iload_n 3, 1) := by decide +kernel
theorem d_Tg_addMoves_50 : decode prog_8_method_6_code 50 = .ok (.invokestatic 64, 3) := by decide +kernel
theorem d_Tg_addMoves_53 : decode prog_8_method_6_code 53 = .ok (.isub, 1) := by decide +kernel
theorem d_Tg_addMoves_54 : decode prog_8_method_6_code 54 = .ok (.invokevirtual 36, 3) := by decide +kernel
theorem d_Tg_addMoves_57 : decode prog_8_method_6_code 57 = .ok (.iload_n 3, 1) := by decide +kernel
theorem d_Tg_addMoves_58 : decode prog_8_method_6_code 58 = .ok (.i2l, 1) := by decide +kernel
theorem d_Tg_addMoves_59 : decode prog_8_method_6_code 59 = .ok (.iconst 0, 1) := by decide +kernel
theorem d_Tg_addMoves_60 : decode prog_8_method_6_code 60 = .ok (.invokevirtual 67, 3) := by decide +kernel
theorem d_Tg_addMoves_63 : decode prog_8_method_6_code 63 = .ok (.iinc 3 1, 3) := by decide +kernel
theorem d_Tg_addMoves_66 : decode prog_8_method_6_code 66 = .ok (.goto (-53), 3) := by decide +kernel
theorem d_Tg_addMoves_69 : decode prog_8_method_6_code 69 = .ok (.return_, 1) := by decide +kernel
theorem d_Tg_addSplits_0 : decode prog_8_method_7_code 0 = .ok (.iload_n 1, 1) := by decide +kernel
theorem d_Tg_addSplits_1 : decode prog_8_method_7_code 1 = .ok (.iconst 2, 1) := by decide +kernel
theorem d_Tg_addSplits_2 : decode prog_8_method_7_code 2 = .ok (.if_icmp .lt 18, 3) := by decide +kernel
theorem d_Tg_addSplits_5 : decode prog_8_method_7_code 5 = .ok (.iload_n 1, 1) := by decide +kernel
theorem d_Tg_addSplits_6 : decode prog_8_method_7_code 6 = .ok (.iconst 5, 1) := by decide +kernel
theorem d_Tg_addSplits_7 : decode prog_8_method_7_code 7 = .ok (.if_icmp .gt 13, 3) := by decide +kernel
theorem d_Tg_addSplits_10 : decode prog_8_method_7_code 10 = .ok (.iload_n 2, 1) := by decide +kernel
theorem d_Tg_addSplits_11 : decode prog_8_method_7_code 11 = .ok (.ifCond .lt 9, 3) := by decide +kernel
theorem d_Tg_addSplits_14 : decode prog_8_method_7_code 14 = .ok (.iload_n 2, 1) := by decide +kernel
theorem d_Tg_addSplits_15 : decode prog_8_method_7_code 15 = .ok (.bipush 73, 2) := by decide +kernel
theorem d_Tg_addSplits_17 : decode prog_8_method_7_code 17 = .ok (.if_icmp .lt 4, 3) := by decide +kernel
theorem d_Tg_addSplits_20 : decode prog_8_method_7_code 20 = .ok (.return_, 1) := by decide +kernel
theorem d_Tg_addSplits_21 : decode prog_8_method_7_code 21 = .ok (.aload_n 0, 1) := by decide +kernel
theorem d_Tg_addSplits_22 : decode prog_8_method_7_code 22 = .ok (.getfield 19, 3) := by decide +kernel
theorem d_Tg_addSplits_25 : decode prog_8_method_7_code 25 = .ok (.iload_n 1, 1) := by decide +kernel
theorem d_Tg_addSplits_26 : decode prog_8_method_7_code 26 = .ok (.iconst 1, 1) := by decide +kernel
theorem d_Tg_addSplits_27 : decode prog_8_method_7_code 27 = .ok (.isub, 1) := by decide +kernel
theorem d_Tg_addSplits_28 : decode prog_8_method_7_code 28 = .ok (.iaload, 1) := by decide +kernel
theorem d_Tg_addSplits_29 : decode prog_8_method_7_code 29 = .ok (.istore_n 3, 1) := by decide +kernel
theorem d_Tg_addSplits_30 : decode prog_8_method_7_code 30 = .ok (.iload_n 3, 1) := by decide +kernel
theorem d_Tg_addSplits_31 : decode prog_8_method_7_code 31 = .ok (.aload_n 0, 1) := by decide +kernel
theorem d_Tg_addSplits_32 : decode prog_8_method_7_code 32 = .ok (.getfield 19, 3) := by decide +kernel
theorem d_Tg_addSplits_35 : decode prog_8_method_7_code 35 = .ok (.iload_n 1, 1) := by decide +kernel
theorem d_Tg_addSplits_36 : decode prog_8_method_7_code 36 = .ok (.iaload, 1) := by decide +kernel
theorem d_Tg_addSplits_37 : decode prog_8_method_7_code 37 = .ok (.if_icmp .ge 66, 3) := by decide +kernel
theorem d_Tg_addSplits_40 : decode prog_8_method_7_code 40 = .ok (.iload_n 3, 1) := by decide +kernel
theorem d_Tg_addSplits_41 : decode prog_8_method_7_code 41 = .ok (.bipush 73, 2) := by decide +kernel
theorem d_Tg_addSplits_43 : decode prog_8_method_7_code 43 = .ok (.if_icmp .ge 60, 3) := by decide +kernel
theorem d_Tg_addSplits_46 : decode prog_8_method_7_code 46 = .ok (.aload_n 0, 1) := by decide +kernel
theorem d_Tg_addSplits_47 : decode prog_8_method_7_code 47 = .ok (.getfield 11, 3) := by decide +kernel
theorem d_Tg_addSplits_50 : decode prog_8_method_7_code 50 = .ok (.iload_n 2, 1) := by decide +kernel
theorem d_Tg_addSplits_51 : decode prog_8_method_7_code 51 = .ok (.iaload, 1) := by decide +kernel
theorem d_Tg_addSplits_52 : decode prog_8_method_7_code 52 = .ok (.aload_n 0, 1) := by decide +kernel
theorem d_Tg_addSplits_53 : decode prog_8_method_7_code 53 = .ok (.getfield 11, 3) := by decide +kernel
theorem d_Tg_addSplits_56 : decode prog_8_method_7_code 56 = .ok (.iload_n 3, 1) := by decide +kernel
theorem d_Tg_addSplits_57 : decode prog_8_method_7_code 57 = .ok (.iaload, 1) := by decide +kernel
theorem d_Tg_addSplits_58 : decode prog_8_method_7_code 58 = .ok (.invokestatic 71, 3) := by decide +kernel
theorem d_Tg_addSplits_61 : decode prog_8_method_7_code 61 = .ok (.lstore 4, 2) := by decide +kernel
theorem d_Tg_addSplits_63 : decode prog_8_method_7_code 63 = .ok (.lload 4, 2) := by decide +kernel
theorem d_Tg_addSplits_65 : decode prog_8_method_7_code 65 = .ok (.lconst 0, 1) := by decide +kernel
theorem d_Tg_addSplits_66 : decode prog_8_method_7_code 66 = .ok (.lcmp, 1) := by decide +kernel
theorem d_Tg_addSplits_67 : decode prog_8_method_7_code 67 = .ok (.ifCond .le 30, 3) := by decide +kernel
theorem d_Tg_addSplits_70 : decode prog_8_method_7_code 70 = .ok (.aload_n 0, 1) := by decide +kernel
theorem d_Tg_addSplits_71 : decode prog_8_method_7_code 71 = .ok (.iload_n 2, 1) := by decide +kernel
theorem d_Tg_addSplits_72 : decode prog_8_method_7_code 72 = .ok (.iload_n 3, 1) := by decide +kernel
theorem d_Tg_addSplits_73 : decode prog_8_method_7_code 73 = .ok (.lload 4, 2) := by decide +kernel
theorem d_Tg_addSplits_75 : decode prog_8_method_7_code 75 = .ok (.iload_n 1, 1) := by decide +kernel
theorem d_Tg_addSplits_76 : decode prog_8_method_7_code 76 = .ok (.iconst 1, 1) := by decide +kernel
theorem d_Tg_addSplits_77 : decode prog_8_method_7_code 77 = .ok (.isub, 1) := by decide +kernel
theorem d_Tg_addSplits_78 : decode prog_8_method_7_code 78 = .ok (.aload_n 0, 1) := by decide +kernel
theorem d_Tg_addSplits_79 : decode prog_8_method_7_code 79 = .ok (.getfield 11, 3) := by decide +kernel
theorem d_Tg_addSplits_82 : decode prog_8_method_7_code 82 = .ok (.iload_n 2, 1) := by decide +kernel
theorem d_Tg_addSplits_83 : decode prog_8_method_7_code 83 = .ok (.iaload, 1) := by decide +kernel
theorem d_Tg_addSplits_84 : decode prog_8_method_7_code 84 = .ok (.aload_n 0, 1) := by decide +kernel
theorem d_Tg_addSplits_85 : decode prog_8_method_7_code 85 = .ok (.getfield 11, 3) := by decide +kernel
theorem d_Tg_addSplits_88 : decode prog_8_method_7_code 88 = .ok (.iload_n 3, 1) := by decide +kernel
theorem d_Tg_addSplits_89 : decode prog_8_method_7_code 89 = .ok (.iaload, 1) := by decide +kernel
theorem d_Tg_addSplits_90 : decode prog_8_method_7_code 90 = .ok (.invokestatic 75, 3) := by decide +kernel
theorem d_Tg_addSplits_93 : decode prog_8_method_7_code 93 = .ok (.isub, 1) := by decide +kernel
theorem d_Tg_addSplits_94 : decode prog_8_method_7_code 94 = .ok (.invokevirtual 67, 3) := by decide +kernel
theorem d_Tg_addSplits_97 : decode prog_8_method_7_code 97 = .ok (.iinc 3 1, 3) := by decide +kernel
theorem d_Tg_addSplits_100 : decode prog_8_method_7_code 100 = .ok (.goto (-70), 3) := by decide +kernel
theorem d_Tg_addSplits_103 : decode prog_8_method_7_code 103 = .ok (.return_, 1) := by decide +kernel
theorem d_Tg_addTo_0 : decode prog_8_method_8_code 0 = .ok (.iload_n 1, 1) := by decide +kernel
theorem d_Tg_addTo_1 : decode prog_8_method_8_code 1 = .ok (.ifCond .lt 24, 3) := by decide +kernel
theorem d_Tg_addTo_4 : decode prog_8_method_8_code 4 = .ok (.iload_n 1, 1) := by decide +kernel
theorem d_Tg_addTo_5 : decode prog_8_method_8_code 5 = .ok (.bipush 73, 2) := by decide +kernel
theorem d_Tg_addTo_7 : decode prog_8_method_8_code 7 = .ok (.if_icmp .ge 18, 3) := by decide +kernel
theorem d_Tg_addTo_10 : decode prog_8_method_8_code 10 = .ok (.iload_n 2, 1) := by decide +kernel
theorem d_Tg_addTo_11 : decode prog_8_method_8_code 11 = .ok (.ifCond .lt 14, 3) := by decide +kernel
theorem d_Tg_addTo_14 : decode prog_8_method_8_code 14 = .ok (.iload_n 2, 1) := by decide +kernel
theorem d_Tg_addTo_15 : decode prog_8_method_8_code 15 = .ok (.bipush 73, 2) := by decide +kernel
theorem d_Tg_addTo_17 : decode prog_8_method_8_code 17 = .ok (.if_icmp .ge 8, 3) := by decide +kernel
theorem d_Tg_addTo_20 : decode prog_8_method_8_code 20 = .ok (.iload 5, 2) := by decide +kernel
theorem d_Tg_addTo_22 : decode prog_8_method_8_code 22 = .ok (.ifCond .ge 4, 3) := by decide +kernel
theorem d_Tg_addTo_25 : decode prog_8_method_8_code 25 = .ok (.return_, 1) := by decide +kernel
theorem d_Tg_addTo_26 : decode prog_8_method_8_code 26 = .ok (.iload 5, 2) := by decide +kernel
theorem d_Tg_addTo_28 : decode prog_8_method_8_code 28 = .ok (.istore 6, 2) := by decide +kernel
theorem d_Tg_addTo_30 : decode prog_8_method_8_code 30 = .ok (.iload 6, 2) := by decide +kernel
theorem d_Tg_addTo_32 : decode prog_8_method_8_code 32 = .ok (.bipush 11, 2) := by decide +kernel
theorem d_Tg_addTo_34 : decode prog_8_method_8_code 34 = .ok (.if_icmp .ge 41, 3) := by decide +kernel
theorem d_Tg_addTo_37 : decode prog_8_method_8_code 37 = .ok (.aload_n 0, 1) := by decide +kernel
theorem d_Tg_addTo_38 : decode prog_8_method_8_code 38 = .ok (.getfield 15, 3) := by decide +kernel
theorem d_Tg_addTo_41 : decode prog_8_method_8_code 41 = .ok (.iload_n 1, 1) := by decide +kernel
theorem d_Tg_addTo_42 : decode prog_8_method_8_code 42 = .ok (.bipush 11, 2) := by decide +kernel
theorem d_Tg_addTo_44 : decode prog_8_method_8_code 44 = .ok (.imul, 1) := by decide +kernel
theorem d_Tg_addTo_45 : decode prog_8_method_8_code 45 = .ok (.iload 6, 2) := by decide +kernel
theorem d_Tg_addTo_47 : decode prog_8_method_8_code 47 = .ok (.iadd, 1) := by decide +kernel
theorem d_Tg_addTo_48 : decode prog_8_method_8_code 48 = .ok (.dup2, 1) := by decide +kernel
theorem d_Tg_addTo_49 : decode prog_8_method_8_code 49 = .ok (.laload, 1) := by decide +kernel
theorem d_Tg_addTo_50 : decode prog_8_method_8_code 50 = .ok (.lload_n 3, 1) := by decide +kernel
theorem d_Tg_addTo_51 : decode prog_8_method_8_code 51 = .ok (.aload_n 0, 1) := by decide +kernel
theorem d_Tg_addTo_52 : decode prog_8_method_8_code 52 = .ok (.getfield 15, 3) := by decide +kernel
theorem d_Tg_addTo_55 : decode prog_8_method_8_code 55 = .ok (.iload_n 2, 1) := by decide +kernel
theorem d_Tg_addTo_56 : decode prog_8_method_8_code 56 = .ok (.bipush 11, 2) := by decide +kernel
theorem d_Tg_addTo_58 : decode prog_8_method_8_code 58 = .ok (.imul, 1) := by decide +kernel
theorem d_Tg_addTo_59 : decode prog_8_method_8_code 59 = .ok (.iload 6, 2) := by decide +kernel
theorem d_Tg_addTo_61 : decode prog_8_method_8_code 61 = .ok (.iadd, 1) := by decide +kernel
theorem d_Tg_addTo_62 : decode prog_8_method_8_code 62 = .ok (.iload 5, 2) := by decide +kernel
theorem d_Tg_addTo_64 : decode prog_8_method_8_code 64 = .ok (.isub, 1) := by decide +kernel
theorem d_Tg_addTo_65 : decode prog_8_method_8_code 65 = .ok (.laload, 1) := by decide +kernel
theorem d_Tg_addTo_66 : decode prog_8_method_8_code 66 = .ok (.lmul, 1) := by decide +kernel
theorem d_Tg_addTo_67 : decode prog_8_method_8_code 67 = .ok (.ladd, 1) := by decide +kernel
theorem d_Tg_addTo_68 : decode prog_8_method_8_code 68 = .ok (.lastore, 1) := by decide +kernel
theorem d_Tg_addTo_69 : decode prog_8_method_8_code 69 = .ok (.iinc 6 1, 3) := by decide +kernel
theorem d_Tg_addTo_72 : decode prog_8_method_8_code 72 = .ok (.goto (-42), 3) := by decide +kernel
theorem d_Tg_addTo_75 : decode prog_8_method_8_code 75 = .ok (.return_, 1) := by decide +kernel
theorem d_Tp_init_0 : decode prog_9_method_1_code 0 = .ok (.aload_n 0, 1) := by decide +kernel
theorem d_Tp_init_1 : decode prog_9_method_1_code 1 = .ok (.invokespecial 3, 3) := by decide +kernel
theorem d_Tp_init_4 : decode prog_9_method_1_code 4 = .ok (.aload_n 0, 1) := by decide +kernel
theorem d_Tp_init_5 : decode prog_9_method_1_code 5 = .ok (.bipush 80, 2) := by decide +kernel
theorem d_Tp_init_7 : decode prog_9_method_1_code 7 = .ok (.newarray .byte, 2) := by decide +kernel
theorem d_Tp_init_9 : decode prog_9_method_1_code 9 = .ok (.putfield 11, 3) := by decide +kernel
theorem d_Tp_init_12 : decode prog_9_method_1_code 12 = .ok (.aload_n 0, 1) := by decide +kernel
theorem d_Tp_init_13 : decode prog_9_method_1_code 13 = .ok (.iconst 0, 1) := by decide +kernel
theorem d_Tp_init_14 : decode prog_9_method_1_code 14 = .ok (.putfield 17, 3) := by decide +kernel
theorem d_Tp_init_17 : decode prog_9_method_1_code 17 = .ok (.return_, 1) := by decide +kernel
theorem d_Tp_length_0 : decode prog_9_method_2_code 0 = .ok (.aload_n 0, 1) := by decide +kernel
theorem d_Tp_length_1 : decode prog_9_method_2_code 1 = .ok (.getfield 21, 3) := by decide +kernel
theorem d_Tp_length_4 : decode prog_9_method_2_code 4 = .ok (.ireturn, 1) := by decide +kernel
theorem d_Tp_toldRows_0 : decode prog_9_method_3_code 0 = .ok (.aload_n 0, 1) := by decide +kernel
theorem d_Tp_toldRows_1 : decode prog_9_method_3_code 1 = .ok (.getfield 17, 3) := by decide +kernel
theorem d_Tp_toldRows_4 : decode prog_9_method_3_code 4 = .ok (.ireturn, 1) := by decide +kernel
theorem d_Tp_latestFault_0 : decode prog_9_method_4_code 0 = .ok (.aload_n 0, 1) := by decide +kernel
theorem d_Tp_latestFault_1 : decode prog_9_method_4_code 1 = .ok (.getfield 24, 3) := by decide +kernel
theorem d_Tp_latestFault_4 : decode prog_9_method_4_code 4 = .ok (.ireturn, 1) := by decide +kernel
theorem d_Tp_appendEight_0 : decode prog_9_method_5_code 0 = .ok (.aload_n 0, 1) := by decide +kernel
theorem d_Tp_appendEight_1 : decode prog_9_method_5_code 1 = .ok (.getfield 21, 3) := by decide +kernel
theorem d_Tp_appendEight_4 : decode prog_9_method_5_code 4 = .ok (.ifCond .lt 12, 3) := by decide +kernel
theorem d_Tp_appendEight_7 : decode prog_9_method_5_code 7 = .ok (.aload_n 0, 1) := by decide +kernel
theorem d_Tp_appendEight_8 : decode prog_9_method_5_code 8 = .ok (.getfield 21, 3) := by decide +kernel
theorem d_Tp_appendEight_11 : decode prog_9_method_5_code 11 = .ok (.bipush 72, 2) := by decide +kernel
theorem d_Tp_appendEight_13 : decode prog_9_method_5_code 13 = .ok (.if_icmp .le 5, 3) := by decide +kernel
theorem d_Tp_appendEight_16 : decode prog_9_method_5_code 16 = .ok (.iconst 0, 1) := by decide +kernel
theorem d_Tp_appendEight_17 : decode prog_9_method_5_code 17 = .ok (.ireturn, 1) := by decide +kernel
theorem d_Tp_appendEight_18 : decode prog_9_method_5_code 18 = .ok (.iconst 0, 1) := by decide +kernel
theorem d_Tp_appendEight_19 : decode prog_9_method_5_code 19 = .ok (.istore_n 3, 1) := by decide +kernel
theorem d_Tp_appendEight_20 : decode prog_9_method_5_code 20 = .ok (.iload_n 3, 1) := by decide +kernel
theorem d_Tp_appendEight_21 : decode prog_9_method_5_code 21 = .ok (.bipush 8, 2) := by decide +kernel
theorem d_Tp_appendEight_23 : decode prog_9_method_5_code 23 = .ok (.if_icmp .ge 31, 3) := by decide +kernel
theorem d_Tp_appendEight_26 : decode prog_9_method_5_code 26 = .ok (.aload_n 0, 1) := by decide +kernel
theorem d_Tp_appendEight_27 : decode prog_9_method_5_code 27 = .ok (.getfield 11, 3) := by decide +kernel
theorem d_Tp_appendEight_30 : decode prog_9_method_5_code 30 = .ok (.aload_n 0, 1) := by decide +kernel
theorem d_Tp_appendEight_31 : decode prog_9_method_5_code 31 = .ok (.getfield 21, 3) := by decide +kernel
theorem d_Tp_appendEight_34 : decode prog_9_method_5_code 34 = .ok (.iload_n 3, 1) := by decide +kernel
theorem d_Tp_appendEight_35 : decode prog_9_method_5_code 35 = .ok (.iadd, 1) := by decide +kernel
theorem d_Tp_appendEight_36 : decode prog_9_method_5_code 36 = .ok (.lload_n 1, 1) := by decide +kernel
theorem d_Tp_appendEight_37 : decode prog_9_method_5_code 37 = .ok (.bipush 8, 2) := by decide +kernel
theorem d_Tp_appendEight_39 : decode prog_9_method_5_code 39 = .ok (.bipush 7, 2) := by decide +kernel
theorem d_Tp_appendEight_41 : decode prog_9_method_5_code 41 = .ok (.iload_n 3, 1) := by decide +kernel
theorem d_Tp_appendEight_42 : decode prog_9_method_5_code 42 = .ok (.isub, 1) := by decide +kernel
theorem d_Tp_appendEight_43 : decode prog_9_method_5_code 43 = .ok (.imul, 1) := by decide +kernel
theorem d_Tp_appendEight_44 : decode prog_9_method_5_code 44 = .ok (.lshr, 1) := by decide +kernel
theorem d_Tp_appendEight_45 : decode prog_9_method_5_code 45 = .ok (.l2i, 1) := by decide +kernel
theorem d_Tp_appendEight_46 : decode prog_9_method_5_code 46 = .ok (.i2b, 1) := by decide +kernel
theorem d_Tp_appendEight_47 : decode prog_9_method_5_code 47 = .ok (.bastore, 1) := by decide +kernel
theorem d_Tp_appendEight_48 : decode prog_9_method_5_code 48 = .ok (.iinc 3 1, 3) := by decide +kernel
theorem d_Tp_appendEight_51 : decode prog_9_method_5_code 51 = .ok (.goto (-31), 3) := by decide +kernel
theorem d_Tp_appendEight_54 : decode prog_9_method_5_code 54 = .ok (.aload_n 0, 1) := by decide +kernel
theorem d_Tp_appendEight_55 : decode prog_9_method_5_code 55 = .ok (.dup, 1) := by decide +kernel
theorem d_Tp_appendEight_56 : decode prog_9_method_5_code 56 = .ok (.getfield 21, 3) := by decide +kernel
theorem d_Tp_appendEight_59 : decode prog_9_method_5_code 59 = .ok (.bipush 8, 2) := by decide +kernel
theorem d_Tp_appendEight_61 : decode prog_9_method_5_code 61 = .ok (.iadd, 1) := by decide +kernel
theorem d_Tp_appendEight_62 : decode prog_9_method_5_code 62 = .ok (.putfield 21, 3) := by decide +kernel
theorem d_Tp_appendEight_65 : decode prog_9_method_5_code 65 = .ok (.iconst 1, 1) := by decide +kernel
theorem d_Tp_appendEight_66 : decode prog_9_method_5_code 66 = .ok (.ireturn, 1) := by decide +kernel
theorem d_Tp_keepFirst_0 : decode prog_9_method_6_code 0 = .ok (.iload_n 1, 1) := by decide +kernel
theorem d_Tp_keepFirst_1 : decode prog_9_method_6_code 1 = .ok (.ifCond .lt 11, 3) := by decide +kernel
theorem d_Tp_keepFirst_4 : decode prog_9_method_6_code 4 = .ok (.iload_n 1, 1) := by decide +kernel
theorem d_Tp_keepFirst_5 : decode prog_9_method_6_code 5 = .ok (.aload_n 0, 1) := by decide +kernel
theorem d_Tp_keepFirst_6 : decode prog_9_method_6_code 6 = .ok (.getfield 21, 3) := by decide +kernel
theorem d_Tp_keepFirst_9 : decode prog_9_method_6_code 9 = .ok (.if_icmp .le 5, 3) := by decide +kernel
theorem d_Tp_keepFirst_12 : decode prog_9_method_6_code 12 = .ok (.iconst 0, 1) := by decide +kernel
theorem d_Tp_keepFirst_13 : decode prog_9_method_6_code 13 = .ok (.ireturn, 1) := by decide +kernel
theorem d_Tp_keepFirst_14 : decode prog_9_method_6_code 14 = .ok (.aload_n 0, 1) := by decide +kernel
theorem d_Tp_keepFirst_15 : decode prog_9_method_6_code 15 = .ok (.iload_n 1, 1) := by decide +kernel
theorem d_Tp_keepFirst_16 : decode prog_9_method_6_code 16 = .ok (.putfield 21, 3) := by decide +kernel
theorem d_Tp_keepFirst_19 : decode prog_9_method_6_code 19 = .ok (.iconst 1, 1) := by decide +kernel
theorem d_Tp_keepFirst_20 : decode prog_9_method_6_code 20 = .ok (.ireturn, 1) := by decide +kernel
theorem d_Tp_read_0 : decode prog_9_method_7_code 0 = .ok (.iconst 0, 1) := by decide +kernel
theorem d_Tp_read_1 : decode prog_9_method_7_code 1 = .ok (.istore_n 1, 1) := by decide +kernel
theorem d_Tp_read_2 : decode prog_9_method_7_code 2 = .ok (.iconst 0, 1) := by decide +kernel
theorem d_Tp_read_3 : decode prog_9_method_7_code 3 = .ok (.istore_n 2, 1) := by decide +kernel
theorem d_Tp_read_4 : decode prog_9_method_7_code 4 = .ok (.iconst (-1), 1) := by decide +kernel
theorem d_Tp_read_5 : decode prog_9_method_7_code 5 = .ok (.istore_n 3, 1) := by decide +kernel
theorem d_Tp_read_6 : decode prog_9_method_7_code 6 = .ok (.iconst 0, 1) := by decide +kernel
theorem d_Tp_read_7 : decode prog_9_method_7_code 7 = .ok (.istore 4, 2) := by decide +kernel
theorem d_Tp_read_9 : decode prog_9_method_7_code 9 = .ok (.iload 4, 2) := by decide +kernel
theorem d_Tp_read_11 : decode prog_9_method_7_code 11 = .ok (.aload_n 0, 1) := by decide +kernel
theorem d_Tp_read_12 : decode prog_9_method_7_code 12 = .ok (.getfield 21, 3) := by decide +kernel
theorem d_Tp_read_15 : decode prog_9_method_7_code 15 = .ok (.if_icmp .ge 155, 3) := by decide +kernel
theorem d_Tp_read_18 : decode prog_9_method_7_code 18 = .ok (.iload 4, 2) := by decide +kernel
theorem d_Tp_read_20 : decode prog_9_method_7_code 20 = .ok (.bipush 80, 2) := by decide +kernel
theorem d_Tp_read_22 : decode prog_9_method_7_code 22 = .ok (.if_icmp .ge 148, 3) := by decide +kernel
theorem d_Tp_read_25 : decode prog_9_method_7_code 25 = .ok (.aload_n 0, 1) := by decide +kernel
theorem d_Tp_read_26 : decode prog_9_method_7_code 26 = .ok (.getfield 11, 3) := by decide +kernel
theorem d_Tp_read_29 : decode prog_9_method_7_code 29 = .ok (.iload 4, 2) := by decide +kernel
theorem d_Tp_read_31 : decode prog_9_method_7_code 31 = .ok (.baload, 1) := by decide +kernel
theorem d_Tp_read_32 : decode prog_9_method_7_code 32 = .ok (.istore 5, 2) := by decide +kernel
theorem d_Tp_read_34 : decode prog_9_method_7_code 34 = .ok (.iload 5, 2) := by decide +kernel
theorem d_Tp_read_36 : decode prog_9_method_7_code 36 = .ok (.bipush 32, 2) := by decide +kernel
theorem d_Tp_read_38 : decode prog_9_method_7_code 38 = .ok (.if_icmp .ne 6, 3) := by decide +kernel
theorem d_Tp_read_41 : decode prog_9_method_7_code 41 = .ok (.goto 123, 3) := by decide +kernel
theorem d_Tp_read_44 : decode prog_9_method_7_code 44 = .ok (.iload 5, 2) := by decide +kernel
theorem d_Tp_read_46 : decode prog_9_method_7_code 46 = .ok (.bipush 49, 2) := by decide +kernel
theorem d_Tp_read_48 : decode prog_9_method_7_code 48 = .ok (.if_icmp .lt 14, 3) := by decide +kernel
theorem d_Tp_read_51 : decode prog_9_method_7_code 51 = .ok (.iload 5, 2) := by decide +kernel
theorem d_Tp_read_53 : decode prog_9_method_7_code 53 = .ok (.bipush 57, 2) := by decide +kernel
theorem d_Tp_read_55 : decode prog_9_method_7_code 55 = .ok (.if_icmp .gt 7, 3) := by decide +kernel
theorem d_Tp_read_58 : decode prog_9_method_7_code 58 = .ok (.iconst 1, 1) := by decide +kernel
theorem d_Tp_read_59 : decode prog_9_method_7_code 59 = .ok (.goto 4, 3) := by decide +kernel
theorem d_Tp_read_62 : decode prog_9_method_7_code 62 = .ok (.iconst 0, 1) := by decide +kernel
theorem d_Tp_read_63 : decode prog_9_method_7_code 63 = .ok (.istore 6, 2) := by decide +kernel
theorem d_Tp_read_65 : decode prog_9_method_7_code 65 = .ok (.iload 6, 2) := by decide +kernel
theorem d_Tp_read_67 : decode prog_9_method_7_code 67 = .ok (.ifCond .ne 25, 3) := by decide +kernel
theorem d_Tp_read_70 : decode prog_9_method_7_code 70 = .ok (.iload 5, 2) := by decide +kernel
theorem d_Tp_read_72 : decode prog_9_method_7_code 72 = .ok (.bipush 97, 2) := by decide +kernel
theorem d_Tp_read_74 : decode prog_9_method_7_code 74 = .ok (.if_icmp .eq 18, 3) := by decide +kernel
theorem d_Tp_read_77 : decode prog_9_method_7_code 77 = .ok (.iload 5, 2) := by decide +kernel
theorem d_Tp_read_79 : decode prog_9_method_7_code 79 = .ok (.bipush 98, 2) := by decide +kernel
theorem d_Tp_read_81 : decode prog_9_method_7_code 81 = .ok (.if_icmp .eq 11, 3) := by decide +kernel
theorem d_Tp_read_84 : decode prog_9_method_7_code 84 = .ok (.aload_n 0, 1) := by decide +kernel
theorem d_Tp_read_85 : decode prog_9_method_7_code 85 = .ok (.iload 4, 2) := by decide +kernel
theorem d_Tp_read_87 : decode prog_9_method_7_code 87 = .ok (.iconst 1, 1) := by decide +kernel
theorem d_Tp_read_88 : decode prog_9_method_7_code 88 = .ok (.invokevirtual 27, 3) := by decide +kernel
theorem d_Tp_read_91 : decode prog_9_method_7_code 91 = .ok (.ireturn, 1) := by decide +kernel
theorem d_Tp_read_92 : decode prog_9_method_7_code 92 = .ok (.iload 6, 2) := by decide +kernel
theorem d_Tp_read_94 : decode prog_9_method_7_code 94 = .ok (.iload_n 3, 1) := by decide +kernel
theorem d_Tp_read_95 : decode prog_9_method_7_code 95 = .ok (.iconst (-1), 1) := by decide +kernel
theorem d_Tp_read_96 : decode prog_9_method_7_code 96 = .ok (.if_icmp .ne 7, 3) := by decide +kernel
theorem d_Tp_read_99 : decode prog_9_method_7_code 99 = .ok (.iconst 1, 1) := by decide +kernel
theorem d_Tp_read_100 : decode prog_9_method_7_code 100 = .ok (.goto 4, 3) := by decide +kernel
theorem d_Tp_read_103 : decode prog_9_method_7_code 103 = .ok (.iconst 0, 1) := by decide +kernel
theorem d_Tp_read_104 : decode prog_9_method_7_code 104 = .ok (.if_icmp .ne 11, 3) := by decide +kernel
theorem d_Tp_read_107 : decode prog_9_method_7_code 107 = .ok (.aload_n 0, 1) := by decide +kernel
theorem d_Tp_read_108 : decode prog_9_method_7_code 108 = .ok (.iload 4, 2) := by decide +kernel
theorem d_Tp_read_110 : decode prog_9_method_7_code 110 = .ok (.iconst 2, 1) := by decide +kernel
theorem d_Tp_read_111 : decode prog_9_method_7_code 111 = .ok (.invokevirtual 27, 3) := by decide +kernel
theorem d_Tp_read_114 : decode prog_9_method_7_code 114 = .ok (.ireturn, 1) := by decide +kernel
theorem d_Tp_read_115 : decode prog_9_method_7_code 115 = .ok (.iload 6, 2) := by decide +kernel
theorem d_Tp_read_117 : decode prog_9_method_7_code 117 = .ok (.ifCond .ne 12, 3) := by decide +kernel
theorem d_Tp_read_120 : decode prog_9_method_7_code 120 = .ok (.iload 5, 2) := by decide +kernel
theorem d_Tp_read_122 : decode prog_9_method_7_code 122 = .ok (.bipush 97, 2) := by decide +kernel
theorem d_Tp_read_124 : decode prog_9_method_7_code 124 = .ok (.isub, 1) := by decide +kernel
theorem d_Tp_read_125 : decode prog_9_method_7_code 125 = .ok (.istore_n 3, 1) := by decide +kernel
theorem d_Tp_read_126 : decode prog_9_method_7_code 126 = .ok (.goto 38, 3) := by decide +kernel
theorem d_Tp_read_129 : decode prog_9_method_7_code 129 = .ok (.iload_n 2, 1) := by decide +kernel
theorem d_Tp_read_130 : decode prog_9_method_7_code 130 = .ok (.iload 5, 2) := by decide +kernel
theorem d_Tp_read_132 : decode prog_9_method_7_code 132 = .ok (.bipush 48, 2) := by decide +kernel
theorem d_Tp_read_134 : decode prog_9_method_7_code 134 = .ok (.isub, 1) := by decide +kernel
theorem d_Tp_read_135 : decode prog_9_method_7_code 135 = .ok (.iadd, 1) := by decide +kernel
theorem d_Tp_read_136 : decode prog_9_method_7_code 136 = .ok (.istore_n 2, 1) := by decide +kernel
theorem d_Tp_read_137 : decode prog_9_method_7_code 137 = .ok (.iload_n 2, 1) := by decide +kernel
theorem d_Tp_read_138 : decode prog_9_method_7_code 138 = .ok (.iconst 5, 1) := by decide +kernel
theorem d_Tp_read_139 : decode prog_9_method_7_code 139 = .ok (.if_icmp .le 11, 3) := by decide +kernel
theorem d_Tp_read_142 : decode prog_9_method_7_code 142 = .ok (.aload_n 0, 1) := by decide +kernel
theorem d_Tp_read_143 : decode prog_9_method_7_code 143 = .ok (.iload 4, 2) := by decide +kernel
theorem d_Tp_read_145 : decode prog_9_method_7_code 145 = .ok (.iconst 3, 1) := by decide +kernel
theorem d_Tp_read_146 : decode prog_9_method_7_code 146 = .ok (.invokevirtual 27, 3) := by decide +kernel
theorem d_Tp_read_149 : decode prog_9_method_7_code 149 = .ok (.ireturn, 1) := by decide +kernel
theorem d_Tp_read_150 : decode prog_9_method_7_code 150 = .ok (.iload_n 1, 1) := by decide +kernel
theorem d_Tp_read_151 : decode prog_9_method_7_code 151 = .ok (.iload_n 3, 1) := by decide +kernel
theorem d_Tp_read_152 : decode prog_9_method_7_code 152 = .ok (.iload 5, 2) := by decide +kernel
theorem d_Tp_read_154 : decode prog_9_method_7_code 154 = .ok (.bipush 48, 2) := by decide +kernel
theorem d_Tp_read_156 : decode prog_9_method_7_code 156 = .ok (.isub, 1) := by decide +kernel
theorem d_Tp_read_157 : decode prog_9_method_7_code 157 = .ok (.invokestatic 31, 3) := by decide +kernel
theorem d_Tp_read_160 : decode prog_9_method_7_code 160 = .ok (.iadd, 1) := by decide +kernel
theorem d_Tp_read_161 : decode prog_9_method_7_code 161 = .ok (.istore_n 1, 1) := by decide +kernel
theorem d_Tp_read_162 : decode prog_9_method_7_code 162 = .ok (.iconst (-1), 1) := by decide +kernel
theorem d_Tp_read_163 : decode prog_9_method_7_code 163 = .ok (.istore_n 3, 1) := by decide +kernel
theorem d_Tp_read_164 : decode prog_9_method_7_code 164 = .ok (.iinc 4 1, 3) := by decide +kernel
theorem d_Tp_read_167 : decode prog_9_method_7_code 167 = .ok (.goto (-158), 3) := by decide +kernel
theorem d_Tp_read_170 : decode prog_9_method_7_code 170 = .ok (.iload_n 2, 1) := by decide +kernel
theorem d_Tp_read_171 : decode prog_9_method_7_code 171 = .ok (.ifCond .eq 8, 3) := by decide +kernel
theorem d_Tp_read_174 : decode prog_9_method_7_code 174 = .ok (.iload_n 3, 1) := by decide +kernel
theorem d_Tp_read_175 : decode prog_9_method_7_code 175 = .ok (.iconst (-1), 1) := by decide +kernel
theorem d_Tp_read_176 : decode prog_9_method_7_code 176 = .ok (.if_icmp .eq 13, 3) := by decide +kernel
theorem d_Tp_read_179 : decode prog_9_method_7_code 179 = .ok (.aload_n 0, 1) := by decide +kernel
theorem d_Tp_read_180 : decode prog_9_method_7_code 180 = .ok (.aload_n 0, 1) := by decide +kernel
theorem d_Tp_read_181 : decode prog_9_method_7_code 181 = .ok (.getfield 21, 3) := by decide +kernel
theorem d_Tp_read_184 : decode prog_9_method_7_code 184 = .ok (.iconst 2, 1) := by decide +kernel
theorem d_Tp_read_185 : decode prog_9_method_7_code 185 = .ok (.invokevirtual 27, 3) := by decide +kernel
theorem d_Tp_read_188 : decode prog_9_method_7_code 188 = .ok (.ireturn, 1) := by decide +kernel
theorem d_Tp_read_189 : decode prog_9_method_7_code 189 = .ok (.aload_n 0, 1) := by decide +kernel
theorem d_Tp_read_190 : decode prog_9_method_7_code 190 = .ok (.iload_n 1, 1) := by decide +kernel
theorem d_Tp_read_191 : decode prog_9_method_7_code 191 = .ok (.putfield 17, 3) := by decide +kernel
theorem d_Tp_read_194 : decode prog_9_method_7_code 194 = .ok (.aload_n 0, 1) := by decide +kernel
theorem d_Tp_read_195 : decode prog_9_method_7_code 195 = .ok (.iconst 0, 1) := by decide +kernel
theorem d_Tp_read_196 : decode prog_9_method_7_code 196 = .ok (.putfield 24, 3) := by decide +kernel
theorem d_Tp_read_199 : decode prog_9_method_7_code 199 = .ok (.iconst (-1), 1) := by decide +kernel
theorem d_Tp_read_200 : decode prog_9_method_7_code 200 = .ok (.ireturn, 1) := by decide +kernel
theorem d_Tp_failAt_0 : decode prog_9_method_8_code 0 = .ok (.aload_n 0, 1) := by decide +kernel
theorem d_Tp_failAt_1 : decode prog_9_method_8_code 1 = .ok (.iload_n 2, 1) := by decide +kernel
theorem d_Tp_failAt_2 : decode prog_9_method_8_code 2 = .ok (.putfield 24, 3) := by decide +kernel
theorem d_Tp_failAt_5 : decode prog_9_method_8_code 5 = .ok (.iload_n 1, 1) := by decide +kernel
theorem d_Tp_failAt_6 : decode prog_9_method_8_code 6 = .ok (.ireturn, 1) := by decide +kernel
theorem d_Mth_abs_0 : decode prog_12_method_59_code 0 = .ok (.iload_n 0, 1) := by decide +kernel
theorem d_Mth_abs_1 : decode prog_12_method_59_code 1 = .ok (.ifCond .ge 8, 3) := by decide +kernel
theorem d_Mth_abs_4 : decode prog_12_method_59_code 4 = .ok (.iload_n 0, 1) := by decide +kernel
theorem d_Mth_abs_5 : decode prog_12_method_59_code 5 = .ok (.ineg, 1) := by decide +kernel
theorem d_Mth_abs_6 : decode prog_12_method_59_code 6 = .ok (.goto 4, 3) := by decide +kernel
theorem d_Mth_abs_9 : decode prog_12_method_59_code 9 = .ok (.iload_n 0, 1) := by decide +kernel
theorem d_Mth_abs_10 : decode prog_12_method_59_code 10 = .ok (.ireturn, 1) := by decide +kernel
theorem d_Mth_min_0 : decode prog_12_method_69_code 0 = .ok (.iload_n 0, 1) := by decide +kernel
theorem d_Mth_min_1 : decode prog_12_method_69_code 1 = .ok (.iload_n 1, 1) := by decide +kernel
theorem d_Mth_min_2 : decode prog_12_method_69_code 2 = .ok (.if_icmp .gt 7, 3) := by decide +kernel
theorem d_Mth_min_5 : decode prog_12_method_69_code 5 = .ok (.iload_n 0, 1) := by decide +kernel
theorem d_Mth_min_6 : decode prog_12_method_69_code 6 = .ok (.goto 4, 3) := by decide +kernel
theorem d_Mth_min_9 : decode prog_12_method_69_code 9 = .ok (.iload_n 1, 1) := by decide +kernel
theorem d_Mth_min_10 : decode prog_12_method_69_code 10 = .ok (.ireturn, 1) := by decide +kernel
theorem d_Arr_fillL_0 : decode prog_14_method_101_code 0 = .ok (.iconst 0, 1) := by decide +kernel
theorem d_Arr_fillL_1 : decode prog_14_method_101_code 1 = .ok (.istore_n 3, 1) := by decide +kernel
theorem d_Arr_fillL_2 : decode prog_14_method_101_code 2 = .ok (.aload_n 0, 1) := by decide +kernel
theorem d_Arr_fillL_3 : decode prog_14_method_101_code 3 = .ok (.arraylength, 1) := by decide +kernel
theorem d_Arr_fillL_4 : decode prog_14_method_101_code 4 = .ok (.istore 4, 2) := by decide +kernel
theorem d_Arr_fillL_6 : decode prog_14_method_101_code 6 = .ok (.iload_n 3, 1) := by decide +kernel
theorem d_Arr_fillL_7 : decode prog_14_method_101_code 7 = .ok (.iload 4, 2) := by decide +kernel
theorem d_Arr_fillL_9 : decode prog_14_method_101_code 9 = .ok (.if_icmp .ge 13, 3) := by decide +kernel
theorem d_Arr_fillL_12 : decode prog_14_method_101_code 12 = .ok (.aload_n 0, 1) := by decide +kernel
theorem d_Arr_fillL_13 : decode prog_14_method_101_code 13 = .ok (.iload_n 3, 1) := by decide +kernel
theorem d_Arr_fillL_14 : decode prog_14_method_101_code 14 = .ok (.lload_n 1, 1) := by decide +kernel
theorem d_Arr_fillL_15 : decode prog_14_method_101_code 15 = .ok (.lastore, 1) := by decide +kernel
theorem d_Arr_fillL_16 : decode prog_14_method_101_code 16 = .ok (.iinc 3 1, 3) := by decide +kernel
theorem d_Arr_fillL_19 : decode prog_14_method_101_code 19 = .ok (.goto (-13), 3) := by decide +kernel
theorem d_Arr_fillL_22 : decode prog_14_method_101_code 22 = .ok (.return_, 1) := by decide +kernel
theorem d_Arr_fillI_0 : decode prog_14_method_103_code 0 = .ok (.iconst 0, 1) := by decide +kernel
theorem d_Arr_fillI_1 : decode prog_14_method_103_code 1 = .ok (.istore_n 2, 1) := by decide +kernel
theorem d_Arr_fillI_2 : decode prog_14_method_103_code 2 = .ok (.aload_n 0, 1) := by decide +kernel
theorem d_Arr_fillI_3 : decode prog_14_method_103_code 3 = .ok (.arraylength, 1) := by decide +kernel
theorem d_Arr_fillI_4 : decode prog_14_method_103_code 4 = .ok (.istore_n 3, 1) := by decide +kernel
theorem d_Arr_fillI_5 : decode prog_14_method_103_code 5 = .ok (.iload_n 2, 1) := by decide +kernel
theorem d_Arr_fillI_6 : decode prog_14_method_103_code 6 = .ok (.iload_n 3, 1) := by decide +kernel
theorem d_Arr_fillI_7 : decode prog_14_method_103_code 7 = .ok (.if_icmp .ge 13, 3) := by decide +kernel
theorem d_Arr_fillI_10 : decode prog_14_method_103_code 10 = .ok (.aload_n 0, 1) := by decide +kernel
theorem d_Arr_fillI_11 : decode prog_14_method_103_code 11 = .ok (.iload_n 2, 1) := by decide +kernel
theorem d_Arr_fillI_12 : decode prog_14_method_103_code 12 = .ok (.iload_n 1, 1) := by decide +kernel
theorem d_Arr_fillI_13 : decode prog_14_method_103_code 13 = .ok (.iastore, 1) := by decide +kernel
theorem d_Arr_fillI_14 : decode prog_14_method_103_code 14 = .ok (.iinc 2 1, 3) := by decide +kernel
theorem d_Arr_fillI_17 : decode prog_14_method_103_code 17 = .ok (.goto (-12), 3) := by decide +kernel
theorem d_Arr_fillI_20 : decode prog_14_method_103_code 20 = .ok (.return_, 1) := by decide +kernel
