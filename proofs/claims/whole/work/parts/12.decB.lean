theorem d_FC_init_0 : decode prog_1_method_1_code 0 = .ok (.aload_n 0, 1) := by decide +kernel
theorem d_FC_init_1 : decode prog_1_method_1_code 1 = .ok (.invokespecial 3, 3) := by decide +kernel
theorem d_FC_init_4 : decode prog_1_method_1_code 4 = .ok (.aload_n 0, 1) := by decide +kernel
theorem d_FC_init_5 : decode prog_1_method_1_code 5 = .ok (.bipush 8, 2) := by decide +kernel
theorem d_FC_init_7 : decode prog_1_method_1_code 7 = .ok (.anewarray 9, 3) := by decide +kernel
theorem d_FC_init_10 : decode prog_1_method_1_code 10 = .ok (.putfield 11, 3) := by decide +kernel
theorem d_FC_init_13 : decode prog_1_method_1_code 13 = .ok (.aload_n 0, 1) := by decide +kernel
theorem d_FC_init_14 : decode prog_1_method_1_code 14 = .ok (.new 9, 3) := by decide +kernel
theorem d_FC_init_17 : decode prog_1_method_1_code 17 = .ok (.dup, 1) := by decide +kernel
theorem d_FC_init_18 : decode prog_1_method_1_code 18 = .ok (.invokespecial 15, 3) := by decide +kernel
theorem d_FC_init_21 : decode prog_1_method_1_code 21 = .ok (.putfield 16, 3) := by decide +kernel
theorem d_FC_init_24 : decode prog_1_method_1_code 24 = .ok (.aload_n 0, 1) := by decide +kernel
theorem d_FC_init_25 : decode prog_1_method_1_code 25 = .ok (.new 20, 3) := by decide +kernel
theorem d_FC_init_28 : decode prog_1_method_1_code 28 = .ok (.dup, 1) := by decide +kernel
theorem d_FC_init_29 : decode prog_1_method_1_code 29 = .ok (.invokespecial 22, 3) := by decide +kernel
theorem d_FC_init_32 : decode prog_1_method_1_code 32 = .ok (.putfield 23, 3) := by decide +kernel
theorem d_FC_init_35 : decode prog_1_method_1_code 35 = .ok (.aload_n 0, 1) := by decide +kernel
theorem d_FC_init_36 : decode prog_1_method_1_code 36 = .ok (.new 27, 3) := by decide +kernel
theorem d_FC_init_39 : decode prog_1_method_1_code 39 = .ok (.dup, 1) := by decide +kernel
theorem d_FC_init_40 : decode prog_1_method_1_code 40 = .ok (.invokespecial 29, 3) := by decide +kernel
theorem d_FC_init_43 : decode prog_1_method_1_code 43 = .ok (.putfield 30, 3) := by decide +kernel
theorem d_FC_init_46 : decode prog_1_method_1_code 46 = .ok (.aload_n 0, 1) := by decide +kernel
theorem d_FC_init_47 : decode prog_1_method_1_code 47 = .ok (.iconst 5, 1) := by decide +kernel
theorem d_FC_init_48 : decode prog_1_method_1_code 48 = .ok (.anewarray 34, 3) := by decide +kernel
theorem d_FC_init_51 : decode prog_1_method_1_code 51 = .ok (.putfield 36, 3) := by decide +kernel
theorem d_FC_init_54 : decode prog_1_method_1_code 54 = .ok (.aload_n 0, 1) := by decide +kernel
theorem d_FC_init_55 : decode prog_1_method_1_code 55 = .ok (.new 40, 3) := by decide +kernel
theorem d_FC_init_58 : decode prog_1_method_1_code 58 = .ok (.dup, 1) := by decide +kernel
theorem d_FC_init_59 : decode prog_1_method_1_code 59 = .ok (.invokespecial 42, 3) := by decide +kernel
theorem d_FC_init_62 : decode prog_1_method_1_code 62 = .ok (.putfield 43, 3) := by decide +kernel
theorem d_FC_init_65 : decode prog_1_method_1_code 65 = .ok (.aload_n 0, 1) := by decide +kernel
theorem d_FC_init_66 : decode prog_1_method_1_code 66 = .ok (.new 47, 3) := by decide +kernel
theorem d_FC_init_69 : decode prog_1_method_1_code 69 = .ok (.dup, 1) := by decide +kernel
theorem d_FC_init_70 : decode prog_1_method_1_code 70 = .ok (.invokespecial 49, 3) := by decide +kernel
theorem d_FC_init_73 : decode prog_1_method_1_code 73 = .ok (.putfield 50, 3) := by decide +kernel
theorem d_FC_init_76 : decode prog_1_method_1_code 76 = .ok (.aload_n 0, 1) := by decide +kernel
theorem d_FC_init_77 : decode prog_1_method_1_code 77 = .ok (.bipush 8, 2) := by decide +kernel
theorem d_FC_init_79 : decode prog_1_method_1_code 79 = .ok (.newarray .long, 2) := by decide +kernel
theorem d_FC_init_81 : decode prog_1_method_1_code 81 = .ok (.putfield 54, 3) := by decide +kernel
theorem d_FC_init_84 : decode prog_1_method_1_code 84 = .ok (.aload_n 0, 1) := by decide +kernel
theorem d_FC_init_85 : decode prog_1_method_1_code 85 = .ok (.iconst 4, 1) := by decide +kernel
theorem d_FC_init_86 : decode prog_1_method_1_code 86 = .ok (.anewarray 58, 3) := by decide +kernel
theorem d_FC_init_89 : decode prog_1_method_1_code 89 = .ok (.putfield 60, 3) := by decide +kernel
theorem d_FC_init_92 : decode prog_1_method_1_code 92 = .ok (.iconst 0, 1) := by decide +kernel
theorem d_FC_init_93 : decode prog_1_method_1_code 93 = .ok (.istore_n 1, 1) := by decide +kernel
theorem d_FC_init_94 : decode prog_1_method_1_code 94 = .ok (.iload_n 1, 1) := by decide +kernel
theorem d_FC_init_95 : decode prog_1_method_1_code 95 = .ok (.bipush 8, 2) := by decide +kernel
theorem d_FC_init_97 : decode prog_1_method_1_code 97 = .ok (.if_icmp .ge 22, 3) := by decide +kernel
theorem d_FC_init_100 : decode prog_1_method_1_code 100 = .ok (.aload_n 0, 1) := by decide +kernel
theorem d_FC_init_101 : decode prog_1_method_1_code 101 = .ok (.getfield 11, 3) := by decide +kernel
theorem d_FC_init_104 : decode prog_1_method_1_code 104 = .ok (.iload_n 1, 1) := by decide +kernel
theorem d_FC_init_105 : decode prog_1_method_1_code 105 = .ok (.new 9, 3) := by decide +kernel
theorem d_FC_init_108 : decode prog_1_method_1_code 108 = .ok (.dup, 1) := by decide +kernel
theorem d_FC_init_109 : decode prog_1_method_1_code 109 = .ok (.invokespecial 15, 3) := by decide +kernel
theorem d_FC_init_112 : decode prog_1_method_1_code 112 = .ok (.aastore, 1) := by decide +kernel
theorem d_FC_init_113 : decode prog_1_method_1_code 113 = .ok (.iinc 1 1, 3) := by decide +kernel
theorem d_FC_init_116 : decode prog_1_method_1_code 116 = .ok (.goto (-22), 3) := by decide +kernel
theorem d_FC_init_119 : decode prog_1_method_1_code 119 = .ok (.iconst 0, 1) := by decide +kernel
theorem d_FC_init_120 : decode prog_1_method_1_code 120 = .ok (.istore_n 1, 1) := by decide +kernel
theorem d_FC_init_121 : decode prog_1_method_1_code 121 = .ok (.iload_n 1, 1) := by decide +kernel
theorem d_FC_init_122 : decode prog_1_method_1_code 122 = .ok (.iconst 4, 1) := by decide +kernel
theorem d_FC_init_123 : decode prog_1_method_1_code 123 = .ok (.if_icmp .ge 22, 3) := by decide +kernel
theorem d_FC_init_126 : decode prog_1_method_1_code 126 = .ok (.aload_n 0, 1) := by decide +kernel
theorem d_FC_init_127 : decode prog_1_method_1_code 127 = .ok (.getfield 60, 3) := by decide +kernel
theorem d_FC_init_130 : decode prog_1_method_1_code 130 = .ok (.iload_n 1, 1) := by decide +kernel
theorem d_FC_init_131 : decode prog_1_method_1_code 131 = .ok (.new 58, 3) := by decide +kernel
theorem d_FC_init_134 : decode prog_1_method_1_code 134 = .ok (.dup, 1) := by decide +kernel
theorem d_FC_init_135 : decode prog_1_method_1_code 135 = .ok (.invokespecial 64, 3) := by decide +kernel
theorem d_FC_init_138 : decode prog_1_method_1_code 138 = .ok (.aastore, 1) := by decide +kernel
theorem d_FC_init_139 : decode prog_1_method_1_code 139 = .ok (.iinc 1 1, 3) := by decide +kernel
theorem d_FC_init_142 : decode prog_1_method_1_code 142 = .ok (.goto (-21), 3) := by decide +kernel
theorem d_FC_init_145 : decode prog_1_method_1_code 145 = .ok (.return_, 1) := by decide +kernel
theorem d_FC_picture_0 : decode prog_1_method_2_code 0 = .ok (.iload_n 1, 1) := by decide +kernel
theorem d_FC_picture_1 : decode prog_1_method_2_code 1 = .ok (.invokestatic 65, 3) := by decide +kernel
theorem d_FC_picture_4 : decode prog_1_method_2_code 4 = .ok (.ifCond .ne 5, 3) := by decide +kernel
theorem d_FC_picture_7 : decode prog_1_method_2_code 7 = .ok (.iconst (-1), 1) := by decide +kernel
theorem d_FC_picture_8 : decode prog_1_method_2_code 8 = .ok (.ireturn, 1) := by decide +kernel
theorem d_FC_picture_9 : decode prog_1_method_2_code 9 = .ok (.aload_n 0, 1) := by decide +kernel
theorem d_FC_picture_10 : decode prog_1_method_2_code 10 = .ok (.getfield 16, 3) := by decide +kernel
theorem d_FC_picture_13 : decode prog_1_method_2_code 13 = .ok (.iload_n 1, 1) := by decide +kernel
theorem d_FC_picture_14 : decode prog_1_method_2_code 14 = .ok (.invokevirtual 69, 3) := by decide +kernel
theorem d_FC_picture_17 : decode prog_1_method_2_code 17 = .ok (.aload_n 0, 1) := by decide +kernel
theorem d_FC_picture_18 : decode prog_1_method_2_code 18 = .ok (.invokevirtual 73, 3) := by decide +kernel
theorem d_FC_picture_21 : decode prog_1_method_2_code 21 = .ok (.ireturn, 1) := by decide +kernel
theorem d_FC_stair_0 : decode prog_1_method_3_code 0 = .ok (.aload_n 0, 1) := by decide +kernel
theorem d_FC_stair_1 : decode prog_1_method_3_code 1 = .ok (.iload_n 1, 1) := by decide +kernel
theorem d_FC_stair_2 : decode prog_1_method_3_code 2 = .ok (.invokevirtual 77, 3) := by decide +kernel
theorem d_FC_stair_5 : decode prog_1_method_3_code 5 = .ok (.astore 5, 2) := by decide +kernel
theorem d_FC_stair_7 : decode prog_1_method_3_code 7 = .ok (.aload 5, 2) := by decide +kernel
theorem d_FC_stair_9 : decode prog_1_method_3_code 9 = .ok (.ifnonnull 5, 3) := by decide +kernel
theorem d_FC_stair_12 : decode prog_1_method_3_code 12 = .ok (.iconst (-1), 1) := by decide +kernel
theorem d_FC_stair_13 : decode prog_1_method_3_code 13 = .ok (.ireturn, 1) := by decide +kernel
theorem d_FC_stair_14 : decode prog_1_method_3_code 14 = .ok (.aload 5, 2) := by decide +kernel
theorem d_FC_stair_16 : decode prog_1_method_3_code 16 = .ok (.iload_n 2, 1) := by decide +kernel
theorem d_FC_stair_17 : decode prog_1_method_3_code 17 = .ok (.iload_n 3, 1) := by decide +kernel
theorem d_FC_stair_18 : decode prog_1_method_3_code 18 = .ok (.iload 4, 2) := by decide +kernel
theorem d_FC_stair_20 : decode prog_1_method_3_code 20 = .ok (.invokevirtual 81, 3) := by decide +kernel
theorem d_FC_stair_23 : decode prog_1_method_3_code 23 = .ok (.istore 6, 2) := by decide +kernel
theorem d_FC_stair_25 : decode prog_1_method_3_code 25 = .ok (.iload 6, 2) := by decide +kernel
theorem d_FC_stair_27 : decode prog_1_method_3_code 27 = .ok (.ifCond .ge 5, 3) := by decide +kernel
theorem d_FC_stair_30 : decode prog_1_method_3_code 30 = .ok (.iconst (-1), 1) := by decide +kernel
theorem d_FC_stair_31 : decode prog_1_method_3_code 31 = .ok (.ireturn, 1) := by decide +kernel
theorem d_FC_stair_32 : decode prog_1_method_3_code 32 = .ok (.aload 5, 2) := by decide +kernel
theorem d_FC_stair_34 : decode prog_1_method_3_code 34 = .ok (.invokevirtual 85, 3) := by decide +kernel
theorem d_FC_stair_37 : decode prog_1_method_3_code 37 = .ok (.bipush 6, 2) := by decide +kernel
theorem d_FC_stair_39 : decode prog_1_method_3_code 39 = .ok (.if_icmp .lt 6, 3) := by decide +kernel
theorem d_FC_stair_42 : decode prog_1_method_3_code 42 = .ok (.bipush (-3), 2) := by decide +kernel
theorem d_FC_stair_44 : decode prog_1_method_3_code 44 = .ok (.ireturn, 1) := by decide +kernel
theorem d_FC_stair_45 : decode prog_1_method_3_code 45 = .ok (.aload 5, 2) := by decide +kernel
theorem d_FC_stair_47 : decode prog_1_method_3_code 47 = .ok (.iload 6, 2) := by decide +kernel
theorem d_FC_stair_49 : decode prog_1_method_3_code 49 = .ok (.invokevirtual 88, 3) := by decide +kernel
theorem d_FC_stair_52 : decode prog_1_method_3_code 52 = .ok (.aload 5, 2) := by decide +kernel
theorem d_FC_stair_54 : decode prog_1_method_3_code 54 = .ok (.invokevirtual 85, 3) := by decide +kernel
theorem d_FC_stair_57 : decode prog_1_method_3_code 57 = .ok (.ireturn, 1) := by decide +kernel
theorem d_FC_cut_0 : decode prog_1_method_4_code 0 = .ok (.aload_n 0, 1) := by decide +kernel
theorem d_FC_cut_1 : decode prog_1_method_4_code 1 = .ok (.iload_n 1, 1) := by decide +kernel
theorem d_FC_cut_2 : decode prog_1_method_4_code 2 = .ok (.invokevirtual 77, 3) := by decide +kernel
theorem d_FC_cut_5 : decode prog_1_method_4_code 5 = .ok (.astore 5, 2) := by decide +kernel
theorem d_FC_cut_7 : decode prog_1_method_4_code 7 = .ok (.aload 5, 2) := by decide +kernel
theorem d_FC_cut_9 : decode prog_1_method_4_code 9 = .ok (.ifnonnull 5, 3) := by decide +kernel
theorem d_FC_cut_12 : decode prog_1_method_4_code 12 = .ok (.iconst (-1), 1) := by decide +kernel
theorem d_FC_cut_13 : decode prog_1_method_4_code 13 = .ok (.ireturn, 1) := by decide +kernel
theorem d_FC_cut_14 : decode prog_1_method_4_code 14 = .ok (.aload 5, 2) := by decide +kernel
theorem d_FC_cut_16 : decode prog_1_method_4_code 16 = .ok (.iload_n 2, 1) := by decide +kernel
theorem d_FC_cut_17 : decode prog_1_method_4_code 17 = .ok (.iload_n 3, 1) := by decide +kernel
theorem d_FC_cut_18 : decode prog_1_method_4_code 18 = .ok (.iload 4, 2) := by decide +kernel
theorem d_FC_cut_20 : decode prog_1_method_4_code 20 = .ok (.invokevirtual 81, 3) := by decide +kernel
theorem d_FC_cut_23 : decode prog_1_method_4_code 23 = .ok (.istore 6, 2) := by decide +kernel
theorem d_FC_cut_25 : decode prog_1_method_4_code 25 = .ok (.iload 6, 2) := by decide +kernel
theorem d_FC_cut_27 : decode prog_1_method_4_code 27 = .ok (.ifCond .ge 5, 3) := by decide +kernel
theorem d_FC_cut_30 : decode prog_1_method_4_code 30 = .ok (.iconst (-1), 1) := by decide +kernel
theorem d_FC_cut_31 : decode prog_1_method_4_code 31 = .ok (.ireturn, 1) := by decide +kernel
theorem d_FC_cut_32 : decode prog_1_method_4_code 32 = .ok (.aload 5, 2) := by decide +kernel
theorem d_FC_cut_34 : decode prog_1_method_4_code 34 = .ok (.iload 6, 2) := by decide +kernel
theorem d_FC_cut_36 : decode prog_1_method_4_code 36 = .ok (.invokevirtual 91, 3) := by decide +kernel
theorem d_FC_cut_39 : decode prog_1_method_4_code 39 = .ok (.ifCond .ne 6, 3) := by decide +kernel
theorem d_FC_cut_42 : decode prog_1_method_4_code 42 = .ok (.bipush (-2), 2) := by decide +kernel
theorem d_FC_cut_44 : decode prog_1_method_4_code 44 = .ok (.ireturn, 1) := by decide +kernel
theorem d_FC_cut_45 : decode prog_1_method_4_code 45 = .ok (.aload 5, 2) := by decide +kernel
theorem d_FC_cut_47 : decode prog_1_method_4_code 47 = .ok (.iload 6, 2) := by decide +kernel
theorem d_FC_cut_49 : decode prog_1_method_4_code 49 = .ok (.invokevirtual 95, 3) := by decide +kernel
theorem d_FC_cut_52 : decode prog_1_method_4_code 52 = .ok (.aload 5, 2) := by decide +kernel
theorem d_FC_cut_54 : decode prog_1_method_4_code 54 = .ok (.invokevirtual 85, 3) := by decide +kernel
theorem d_FC_cut_57 : decode prog_1_method_4_code 57 = .ok (.ireturn, 1) := by decide +kernel
theorem d_FC_drop_0 : decode prog_1_method_5_code 0 = .ok (.aload_n 0, 1) := by decide +kernel
theorem d_FC_drop_1 : decode prog_1_method_5_code 1 = .ok (.getfield 98, 3) := by decide +kernel
theorem d_FC_drop_4 : decode prog_1_method_5_code 4 = .ok (.ifCond .gt 6, 3) := by decide +kernel
theorem d_FC_drop_7 : decode prog_1_method_5_code 7 = .ok (.bipush (-4), 2) := by decide +kernel
theorem d_FC_drop_9 : decode prog_1_method_5_code 9 = .ok (.ireturn, 1) := by decide +kernel
theorem d_FC_drop_10 : decode prog_1_method_5_code 10 = .ok (.aload_n 0, 1) := by decide +kernel
theorem d_FC_drop_11 : decode prog_1_method_5_code 11 = .ok (.dup, 1) := by decide +kernel
theorem d_FC_drop_12 : decode prog_1_method_5_code 12 = .ok (.getfield 98, 3) := by decide +kernel
theorem d_FC_drop_15 : decode prog_1_method_5_code 15 = .ok (.iconst 1, 1) := by decide +kernel
theorem d_FC_drop_16 : decode prog_1_method_5_code 16 = .ok (.isub, 1) := by decide +kernel
theorem d_FC_drop_17 : decode prog_1_method_5_code 17 = .ok (.putfield 98, 3) := by decide +kernel
theorem d_FC_drop_20 : decode prog_1_method_5_code 20 = .ok (.aload_n 0, 1) := by decide +kernel
theorem d_FC_drop_21 : decode prog_1_method_5_code 21 = .ok (.getfield 98, 3) := by decide +kernel
theorem d_FC_drop_24 : decode prog_1_method_5_code 24 = .ok (.ireturn, 1) := by decide +kernel
theorem d_FC_about_0 : decode prog_1_method_6_code 0 = .ok (.aload_n 0, 1) := by decide +kernel
theorem d_FC_about_1 : decode prog_1_method_6_code 1 = .ok (.iload_n 1, 1) := by decide +kernel
theorem d_FC_about_2 : decode prog_1_method_6_code 2 = .ok (.invokevirtual 77, 3) := by decide +kernel
theorem d_FC_about_5 : decode prog_1_method_6_code 5 = .ok (.astore_n 3, 1) := by decide +kernel
theorem d_FC_about_6 : decode prog_1_method_6_code 6 = .ok (.aload_n 3, 1) := by decide +kernel
theorem d_FC_about_7 : decode prog_1_method_6_code 7 = .ok (.ifnonnull 5, 3) := by decide +kernel
theorem d_FC_about_10 : decode prog_1_method_6_code 10 = .ok (.iconst (-1), 1) := by decide +kernel
theorem d_FC_about_11 : decode prog_1_method_6_code 11 = .ok (.ireturn, 1) := by decide +kernel
theorem d_FC_about_12 : decode prog_1_method_6_code 12 = .ok (.iload_n 2, 1) := by decide +kernel
theorem d_FC_about_13 : decode prog_1_method_6_code 13 = .ok (.tableswitch 86 0 6 #[43, 48, 53, 66, 71, 76, 81], 43) := by decide +kernel
theorem d_FC_about_56 : decode prog_1_method_6_code 56 = .ok (.aload_n 3, 1) := by decide +kernel
theorem d_FC_about_57 : decode prog_1_method_6_code 57 = .ok (.invokevirtual 102, 3) := by decide +kernel
theorem d_FC_about_60 : decode prog_1_method_6_code 60 = .ok (.ireturn, 1) := by decide +kernel
theorem d_FC_about_61 : decode prog_1_method_6_code 61 = .ok (.aload_n 3, 1) := by decide +kernel
theorem d_FC_about_62 : decode prog_1_method_6_code 62 = .ok (.invokevirtual 85, 3) := by decide +kernel
theorem d_FC_about_65 : decode prog_1_method_6_code 65 = .ok (.ireturn, 1) := by decide +kernel
theorem d_FC_about_66 : decode prog_1_method_6_code 66 = .ok (.aload_n 3, 1) := by decide +kernel
theorem d_FC_about_67 : decode prog_1_method_6_code 67 = .ok (.invokevirtual 105, 3) := by decide +kernel
theorem d_FC_about_70 : decode prog_1_method_6_code 70 = .ok (.ifCond .eq 7, 3) := by decide +kernel
theorem d_FC_about_73 : decode prog_1_method_6_code 73 = .ok (.iconst 1, 1) := by decide +kernel
theorem d_FC_about_74 : decode prog_1_method_6_code 74 = .ok (.goto 4, 3) := by decide +kernel
theorem d_FC_about_77 : decode prog_1_method_6_code 77 = .ok (.iconst 0, 1) := by decide +kernel
theorem d_FC_about_78 : decode prog_1_method_6_code 78 = .ok (.ireturn, 1) := by decide +kernel
theorem d_FC_about_79 : decode prog_1_method_6_code 79 = .ok (.aload_n 3, 1) := by decide +kernel
theorem d_FC_about_80 : decode prog_1_method_6_code 80 = .ok (.invokevirtual 109, 3) := by decide +kernel
theorem d_FC_about_83 : decode prog_1_method_6_code 83 = .ok (.ireturn, 1) := by decide +kernel
theorem d_FC_about_84 : decode prog_1_method_6_code 84 = .ok (.aload_n 3, 1) := by decide +kernel
theorem d_FC_about_85 : decode prog_1_method_6_code 85 = .ok (.invokevirtual 112, 3) := by decide +kernel
theorem d_FC_about_88 : decode prog_1_method_6_code 88 = .ok (.ireturn, 1) := by decide +kernel
theorem d_FC_about_89 : decode prog_1_method_6_code 89 = .ok (.aload_n 3, 1) := by decide +kernel
theorem d_FC_about_90 : decode prog_1_method_6_code 90 = .ok (.invokevirtual 115, 3) := by decide +kernel
theorem d_FC_about_93 : decode prog_1_method_6_code 93 = .ok (.ireturn, 1) := by decide +kernel
theorem d_FC_about_94 : decode prog_1_method_6_code 94 = .ok (.aload_n 3, 1) := by decide +kernel
theorem d_FC_about_95 : decode prog_1_method_6_code 95 = .ok (.invokevirtual 118, 3) := by decide +kernel
theorem d_FC_about_98 : decode prog_1_method_6_code 98 = .ok (.ireturn, 1) := by decide +kernel
theorem d_FC_about_99 : decode prog_1_method_6_code 99 = .ok (.iconst (-1), 1) := by decide +kernel
theorem d_FC_about_100 : decode prog_1_method_6_code 100 = .ok (.ireturn, 1) := by decide +kernel
theorem d_FC_told_0 : decode prog_1_method_7_code 0 = .ok (.aload_n 0, 1) := by decide +kernel
theorem d_FC_told_1 : decode prog_1_method_7_code 1 = .ok (.iload_n 1, 1) := by decide +kernel
theorem d_FC_told_2 : decode prog_1_method_7_code 2 = .ok (.invokevirtual 77, 3) := by decide +kernel
theorem d_FC_told_5 : decode prog_1_method_7_code 5 = .ok (.astore 4, 2) := by decide +kernel
theorem d_FC_told_7 : decode prog_1_method_7_code 7 = .ok (.aload 4, 2) := by decide +kernel
theorem d_FC_told_9 : decode prog_1_method_7_code 9 = .ok (.ifnonnull 5, 3) := by decide +kernel
theorem d_FC_told_12 : decode prog_1_method_7_code 12 = .ok (.iconst (-1), 1) := by decide +kernel
theorem d_FC_told_13 : decode prog_1_method_7_code 13 = .ok (.ireturn, 1) := by decide +kernel
theorem d_FC_told_14 : decode prog_1_method_7_code 14 = .ok (.aload 4, 2) := by decide +kernel
theorem d_FC_told_16 : decode prog_1_method_7_code 16 = .ok (.iload_n 2, 1) := by decide +kernel
theorem d_FC_told_17 : decode prog_1_method_7_code 17 = .ok (.invokevirtual 121, 3) := by decide +kernel
theorem d_FC_told_20 : decode prog_1_method_7_code 20 = .ok (.istore 5, 2) := by decide +kernel
theorem d_FC_told_22 : decode prog_1_method_7_code 22 = .ok (.iload 5, 2) := by decide +kernel
theorem d_FC_told_24 : decode prog_1_method_7_code 24 = .ok (.ifCond .ge 5, 3) := by decide +kernel
theorem d_FC_told_27 : decode prog_1_method_7_code 27 = .ok (.iconst (-1), 1) := by decide +kernel
theorem d_FC_told_28 : decode prog_1_method_7_code 28 = .ok (.ireturn, 1) := by decide +kernel
theorem d_FC_told_29 : decode prog_1_method_7_code 29 = .ok (.iload_n 3, 1) := by decide +kernel
theorem d_FC_told_30 : decode prog_1_method_7_code 30 = .ok (.tableswitch 44 0 2 #[26, 32, 38], 26) := by decide +kernel
theorem d_FC_told_56 : decode prog_1_method_7_code 56 = .ok (.iload 5, 2) := by decide +kernel
theorem d_FC_told_58 : decode prog_1_method_7_code 58 = .ok (.invokestatic 124, 3) := by decide +kernel
theorem d_FC_told_61 : decode prog_1_method_7_code 61 = .ok (.ireturn, 1) := by decide +kernel
theorem d_FC_told_62 : decode prog_1_method_7_code 62 = .ok (.iload 5, 2) := by decide +kernel
theorem d_FC_told_64 : decode prog_1_method_7_code 64 = .ok (.invokestatic 127, 3) := by decide +kernel
theorem d_FC_told_67 : decode prog_1_method_7_code 67 = .ok (.ireturn, 1) := by decide +kernel
theorem d_FC_told_68 : decode prog_1_method_7_code 68 = .ok (.iload 5, 2) := by decide +kernel
theorem d_FC_told_70 : decode prog_1_method_7_code 70 = .ok (.invokestatic 130, 3) := by decide +kernel
theorem d_FC_told_73 : decode prog_1_method_7_code 73 = .ok (.ireturn, 1) := by decide +kernel
theorem d_FC_told_74 : decode prog_1_method_7_code 74 = .ok (.iconst (-1), 1) := by decide +kernel
theorem d_FC_told_75 : decode prog_1_method_7_code 75 = .ok (.ireturn, 1) := by decide +kernel
theorem d_FC_out_0 : decode prog_1_method_8_code 0 = .ok (.aload_n 0, 1) := by decide +kernel
theorem d_FC_out_1 : decode prog_1_method_8_code 1 = .ok (.iload_n 1, 1) := by decide +kernel
theorem d_FC_out_2 : decode prog_1_method_8_code 2 = .ok (.invokevirtual 77, 3) := by decide +kernel
theorem d_FC_out_5 : decode prog_1_method_8_code 5 = .ok (.astore_n 3, 1) := by decide +kernel
theorem d_FC_out_6 : decode prog_1_method_8_code 6 = .ok (.aload_n 3, 1) := by decide +kernel
theorem d_FC_out_7 : decode prog_1_method_8_code 7 = .ok (.ifnull 11, 3) := by decide +kernel
theorem d_FC_out_10 : decode prog_1_method_8_code 10 = .ok (.aload_n 3, 1) := by decide +kernel
theorem d_FC_out_11 : decode prog_1_method_8_code 11 = .ok (.iload_n 2, 1) := by decide +kernel
theorem d_FC_out_12 : decode prog_1_method_8_code 12 = .ok (.invokevirtual 133, 3) := by decide +kernel
theorem d_FC_out_15 : decode prog_1_method_8_code 15 = .ok (.ifCond .ne 7, 3) := by decide +kernel
theorem d_FC_out_18 : decode prog_1_method_8_code 18 = .ok (.sipush (-1000), 3) := by decide +kernel
theorem d_FC_out_21 : decode prog_1_method_8_code 21 = .ok (.ireturn, 1) := by decide +kernel
theorem d_FC_out_22 : decode prog_1_method_8_code 22 = .ok (.aload_n 3, 1) := by decide +kernel
theorem d_FC_out_23 : decode prog_1_method_8_code 23 = .ok (.iload_n 2, 1) := by decide +kernel
theorem d_FC_out_24 : decode prog_1_method_8_code 24 = .ok (.invokevirtual 136, 3) := by decide +kernel
theorem d_FC_out_27 : decode prog_1_method_8_code 27 = .ok (.ireturn, 1) := by decide +kernel
theorem d_FC_spread_0 : decode prog_1_method_9_code 0 = .ok (.aload_n 0, 1) := by decide +kernel
theorem d_FC_spread_1 : decode prog_1_method_9_code 1 = .ok (.iload_n 1, 1) := by decide +kernel
theorem d_FC_spread_2 : decode prog_1_method_9_code 2 = .ok (.invokevirtual 77, 3) := by decide +kernel
theorem d_FC_spread_5 : decode prog_1_method_9_code 5 = .ok (.astore_n 3, 1) := by decide +kernel
theorem d_FC_spread_6 : decode prog_1_method_9_code 6 = .ok (.aload_n 3, 1) := by decide +kernel
theorem d_FC_spread_7 : decode prog_1_method_9_code 7 = .ok (.ifnonnull 7, 3) := by decide +kernel
theorem d_FC_spread_10 : decode prog_1_method_9_code 10 = .ok (.ldc2_w 139, 3) := by decide +kernel
theorem d_FC_spread_13 : decode prog_1_method_9_code 13 = .ok (.lreturn, 1) := by decide +kernel
theorem d_FC_spread_14 : decode prog_1_method_9_code 14 = .ok (.aload_n 0, 1) := by decide +kernel
theorem d_FC_spread_15 : decode prog_1_method_9_code 15 = .ok (.getfield 30, 3) := by decide +kernel
theorem d_FC_spread_18 : decode prog_1_method_9_code 18 = .ok (.aload_n 3, 1) := by decide +kernel
theorem d_FC_spread_19 : decode prog_1_method_9_code 19 = .ok (.invokevirtual 141, 3) := by decide +kernel
theorem d_FC_spread_22 : decode prog_1_method_9_code 22 = .ok (.aload_n 0, 1) := by decide +kernel
theorem d_FC_spread_23 : decode prog_1_method_9_code 23 = .ok (.getfield 30, 3) := by decide +kernel
theorem d_FC_spread_26 : decode prog_1_method_9_code 26 = .ok (.iload_n 2, 1) := by decide +kernel
theorem d_FC_spread_27 : decode prog_1_method_9_code 27 = .ok (.invokevirtual 145, 3) := by decide +kernel
theorem d_FC_spread_30 : decode prog_1_method_9_code 30 = .ok (.lreturn, 1) := by decide +kernel
theorem d_FC_markings_0 : decode prog_1_method_10_code 0 = .ok (.aload_n 0, 1) := by decide +kernel
theorem d_FC_markings_1 : decode prog_1_method_10_code 1 = .ok (.iload_n 1, 1) := by decide +kernel
theorem d_FC_markings_2 : decode prog_1_method_10_code 2 = .ok (.invokevirtual 77, 3) := by decide +kernel
theorem d_FC_markings_5 : decode prog_1_method_10_code 5 = .ok (.astore_n 2, 1) := by decide +kernel
theorem d_FC_markings_6 : decode prog_1_method_10_code 6 = .ok (.aload_n 2, 1) := by decide +kernel
theorem d_FC_markings_7 : decode prog_1_method_10_code 7 = .ok (.ifnonnull 7, 3) := by decide +kernel
theorem d_FC_markings_10 : decode prog_1_method_10_code 10 = .ok (.ldc2_w 139, 3) := by decide +kernel
theorem d_FC_markings_13 : decode prog_1_method_10_code 13 = .ok (.lreturn, 1) := by decide +kernel
theorem d_FC_markings_14 : decode prog_1_method_10_code 14 = .ok (.aload_n 2, 1) := by decide +kernel
theorem d_FC_markings_15 : decode prog_1_method_10_code 15 = .ok (.invokevirtual 105, 3) := by decide +kernel
theorem d_FC_markings_18 : decode prog_1_method_10_code 18 = .ok (.ifCond .ne 7, 3) := by decide +kernel
theorem d_FC_markings_21 : decode prog_1_method_10_code 21 = .ok (.ldc2_w 149, 3) := by decide +kernel
theorem d_FC_markings_24 : decode prog_1_method_10_code 24 = .ok (.lreturn, 1) := by decide +kernel
theorem d_FC_markings_25 : decode prog_1_method_10_code 25 = .ok (.aload_n 0, 1) := by decide +kernel
theorem d_FC_markings_26 : decode prog_1_method_10_code 26 = .ok (.getfield 23, 3) := by decide +kernel
theorem d_FC_markings_29 : decode prog_1_method_10_code 29 = .ok (.aload_n 2, 1) := by decide +kernel
theorem d_FC_markings_30 : decode prog_1_method_10_code 30 = .ok (.iconst (-1), 1) := by decide +kernel
theorem d_FC_markings_31 : decode prog_1_method_10_code 31 = .ok (.iconst 0, 1) := by decide +kernel
theorem d_FC_markings_32 : decode prog_1_method_10_code 32 = .ok (.invokevirtual 151, 3) := by decide +kernel
theorem d_FC_markings_35 : decode prog_1_method_10_code 35 = .ok (.lreturn, 1) := by decide +kernel
theorem d_FC_between_0 : decode prog_1_method_11_code 0 = .ok (.aload_n 0, 1) := by decide +kernel
theorem d_FC_between_1 : decode prog_1_method_11_code 1 = .ok (.iload_n 1, 1) := by decide +kernel
theorem d_FC_between_2 : decode prog_1_method_11_code 2 = .ok (.invokevirtual 77, 3) := by decide +kernel
theorem d_FC_between_5 : decode prog_1_method_11_code 5 = .ok (.astore 4, 2) := by decide +kernel
theorem d_FC_between_7 : decode prog_1_method_11_code 7 = .ok (.aload 4, 2) := by decide +kernel
theorem d_FC_between_9 : decode prog_1_method_11_code 9 = .ok (.ifnull 16, 3) := by decide +kernel
theorem d_FC_between_12 : decode prog_1_method_11_code 12 = .ok (.aload 4, 2) := by decide +kernel
theorem d_FC_between_14 : decode prog_1_method_11_code 14 = .ok (.iload_n 2, 1) := by decide +kernel
theorem d_FC_between_15 : decode prog_1_method_11_code 15 = .ok (.invokevirtual 133, 3) := by decide +kernel
theorem d_FC_between_18 : decode prog_1_method_11_code 18 = .ok (.ifCond .eq 7, 3) := by decide +kernel
theorem d_FC_between_21 : decode prog_1_method_11_code 21 = .ok (.iload_n 3, 1) := by decide +kernel
theorem d_FC_between_22 : decode prog_1_method_11_code 22 = .ok (.ifCond .ge 7, 3) := by decide +kernel
theorem d_FC_between_25 : decode prog_1_method_11_code 25 = .ok (.ldc2_w 139, 3) := by decide +kernel
theorem d_FC_between_28 : decode prog_1_method_11_code 28 = .ok (.lreturn, 1) := by decide +kernel
theorem d_FC_between_29 : decode prog_1_method_11_code 29 = .ok (.aload 4, 2) := by decide +kernel
theorem d_FC_between_31 : decode prog_1_method_11_code 31 = .ok (.invokevirtual 105, 3) := by decide +kernel
theorem d_FC_between_34 : decode prog_1_method_11_code 34 = .ok (.ifCond .ne 7, 3) := by decide +kernel
theorem d_FC_between_37 : decode prog_1_method_11_code 37 = .ok (.ldc2_w 149, 3) := by decide +kernel
theorem d_FC_between_40 : decode prog_1_method_11_code 40 = .ok (.lreturn, 1) := by decide +kernel
theorem d_FC_between_41 : decode prog_1_method_11_code 41 = .ok (.aload_n 0, 1) := by decide +kernel
theorem d_FC_between_42 : decode prog_1_method_11_code 42 = .ok (.getfield 23, 3) := by decide +kernel
theorem d_FC_between_45 : decode prog_1_method_11_code 45 = .ok (.aload 4, 2) := by decide +kernel
theorem d_FC_between_47 : decode prog_1_method_11_code 47 = .ok (.iload_n 2, 1) := by decide +kernel
theorem d_FC_between_48 : decode prog_1_method_11_code 48 = .ok (.iload_n 3, 1) := by decide +kernel
theorem d_FC_between_49 : decode prog_1_method_11_code 49 = .ok (.invokevirtual 151, 3) := by decide +kernel
theorem d_FC_between_52 : decode prog_1_method_11_code 52 = .ok (.lreturn, 1) := by decide +kernel
theorem d_FC_unlike_0 : decode prog_1_method_12_code 0 = .ok (.aload_n 0, 1) := by decide +kernel
theorem d_FC_unlike_1 : decode prog_1_method_12_code 1 = .ok (.iload_n 1, 1) := by decide +kernel
theorem d_FC_unlike_2 : decode prog_1_method_12_code 2 = .ok (.invokevirtual 77, 3) := by decide +kernel
theorem d_FC_unlike_5 : decode prog_1_method_12_code 5 = .ok (.astore_n 3, 1) := by decide +kernel
theorem d_FC_unlike_6 : decode prog_1_method_12_code 6 = .ok (.aload_n 0, 1) := by decide +kernel
theorem d_FC_unlike_7 : decode prog_1_method_12_code 7 = .ok (.iload_n 2, 1) := by decide +kernel
theorem d_FC_unlike_8 : decode prog_1_method_12_code 8 = .ok (.invokevirtual 77, 3) := by decide +kernel
theorem d_FC_unlike_11 : decode prog_1_method_12_code 11 = .ok (.astore 4, 2) := by decide +kernel
theorem d_FC_unlike_13 : decode prog_1_method_12_code 13 = .ok (.aload_n 3, 1) := by decide +kernel
theorem d_FC_unlike_14 : decode prog_1_method_12_code 14 = .ok (.ifnull 8, 3) := by decide +kernel
theorem d_FC_unlike_17 : decode prog_1_method_12_code 17 = .ok (.aload 4, 2) := by decide +kernel
theorem d_FC_unlike_19 : decode prog_1_method_12_code 19 = .ok (.ifnonnull 5, 3) := by decide +kernel
theorem d_FC_unlike_22 : decode prog_1_method_12_code 22 = .ok (.iconst (-1), 1) := by decide +kernel
theorem d_FC_unlike_23 : decode prog_1_method_12_code 23 = .ok (.ireturn, 1) := by decide +kernel
theorem d_FC_unlike_24 : decode prog_1_method_12_code 24 = .ok (.aload_n 3, 1) := by decide +kernel
theorem d_FC_unlike_25 : decode prog_1_method_12_code 25 = .ok (.invokevirtual 102, 3) := by decide +kernel
theorem d_FC_unlike_28 : decode prog_1_method_12_code 28 = .ok (.aload 4, 2) := by decide +kernel
theorem d_FC_unlike_30 : decode prog_1_method_12_code 30 = .ok (.invokevirtual 102, 3) := by decide +kernel
theorem d_FC_unlike_33 : decode prog_1_method_12_code 33 = .ok (.if_icmp .eq 16, 3) := by decide +kernel
theorem d_FC_unlike_36 : decode prog_1_method_12_code 36 = .ok (.aload_n 3, 1) := by decide +kernel
theorem d_FC_unlike_37 : decode prog_1_method_12_code 37 = .ok (.invokevirtual 102, 3) := by decide +kernel
theorem d_FC_unlike_40 : decode prog_1_method_12_code 40 = .ok (.aload 4, 2) := by decide +kernel
theorem d_FC_unlike_42 : decode prog_1_method_12_code 42 = .ok (.invokevirtual 102, 3) := by decide +kernel
theorem d_FC_unlike_45 : decode prog_1_method_12_code 45 = .ok (.invokestatic 155, 3) := by decide +kernel
theorem d_FC_unlike_48 : decode prog_1_method_12_code 48 = .ok (.ireturn, 1) := by decide +kernel
theorem d_FC_unlike_49 : decode prog_1_method_12_code 49 = .ok (.iconst 0, 1) := by decide +kernel
theorem d_FC_unlike_50 : decode prog_1_method_12_code 50 = .ok (.istore 5, 2) := by decide +kernel
theorem d_FC_unlike_52 : decode prog_1_method_12_code 52 = .ok (.iload 5, 2) := by decide +kernel
theorem d_FC_unlike_54 : decode prog_1_method_12_code 54 = .ok (.bipush 24, 2) := by decide +kernel
theorem d_FC_unlike_56 : decode prog_1_method_12_code 56 = .ok (.if_icmp .ge 31, 3) := by decide +kernel
theorem d_FC_unlike_59 : decode prog_1_method_12_code 59 = .ok (.aload_n 3, 1) := by decide +kernel
theorem d_FC_unlike_60 : decode prog_1_method_12_code 60 = .ok (.iload 5, 2) := by decide +kernel
theorem d_FC_unlike_62 : decode prog_1_method_12_code 62 = .ok (.invokevirtual 91, 3) := by decide +kernel
theorem d_FC_unlike_65 : decode prog_1_method_12_code 65 = .ok (.aload 4, 2) := by decide +kernel
theorem d_FC_unlike_67 : decode prog_1_method_12_code 67 = .ok (.iload 5, 2) := by decide +kernel
theorem d_FC_unlike_69 : decode prog_1_method_12_code 69 = .ok (.invokevirtual 91, 3) := by decide +kernel
theorem d_FC_unlike_72 : decode prog_1_method_12_code 72 = .ok (.if_icmp .eq 9, 3) := by decide +kernel
theorem d_FC_unlike_75 : decode prog_1_method_12_code 75 = .ok (.iload 5, 2) := by decide +kernel
theorem d_FC_unlike_77 : decode prog_1_method_12_code 77 = .ok (.invokestatic 124, 3) := by decide +kernel
theorem d_FC_unlike_80 : decode prog_1_method_12_code 80 = .ok (.ireturn, 1) := by decide +kernel
theorem d_FC_unlike_81 : decode prog_1_method_12_code 81 = .ok (.iinc 5 1, 3) := by decide +kernel
theorem d_FC_unlike_84 : decode prog_1_method_12_code 84 = .ok (.goto (-32), 3) := by decide +kernel
theorem d_FC_unlike_87 : decode prog_1_method_12_code 87 = .ok (.bipush (-4), 2) := by decide +kernel
theorem d_FC_unlike_89 : decode prog_1_method_12_code 89 = .ok (.ireturn, 1) := by decide +kernel
theorem d_FC_turned_0 : decode prog_1_method_13_code 0 = .ok (.aload_n 0, 1) := by decide +kernel
theorem d_FC_turned_1 : decode prog_1_method_13_code 1 = .ok (.iload_n 1, 1) := by decide +kernel
theorem d_FC_turned_2 : decode prog_1_method_13_code 2 = .ok (.invokevirtual 77, 3) := by decide +kernel
theorem d_FC_turned_5 : decode prog_1_method_13_code 5 = .ok (.astore_n 2, 1) := by decide +kernel
theorem d_FC_turned_6 : decode prog_1_method_13_code 6 = .ok (.aload_n 2, 1) := by decide +kernel
theorem d_FC_turned_7 : decode prog_1_method_13_code 7 = .ok (.ifnonnull 5, 3) := by decide +kernel
theorem d_FC_turned_10 : decode prog_1_method_13_code 10 = .ok (.iconst (-1), 1) := by decide +kernel
theorem d_FC_turned_11 : decode prog_1_method_13_code 11 = .ok (.ireturn, 1) := by decide +kernel
theorem d_FC_turned_12 : decode prog_1_method_13_code 12 = .ok (.aload_n 2, 1) := by decide +kernel
theorem d_FC_turned_13 : decode prog_1_method_13_code 13 = .ok (.invokevirtual 161, 3) := by decide +kernel
theorem d_FC_turned_16 : decode prog_1_method_13_code 16 = .ok (.ifCond .eq 7, 3) := by decide +kernel
theorem d_FC_turned_19 : decode prog_1_method_13_code 19 = .ok (.iconst 1, 1) := by decide +kernel
theorem d_FC_turned_20 : decode prog_1_method_13_code 20 = .ok (.goto 4, 3) := by decide +kernel
theorem d_FC_turned_23 : decode prog_1_method_13_code 23 = .ok (.iconst 0, 1) := by decide +kernel
theorem d_FC_turned_24 : decode prog_1_method_13_code 24 = .ok (.ireturn, 1) := by decide +kernel
theorem d_FC_count_0 : decode prog_1_method_14_code 0 = .ok (.aload_n 0, 1) := by decide +kernel
theorem d_FC_count_1 : decode prog_1_method_14_code 1 = .ok (.iload_n 1, 1) := by decide +kernel
theorem d_FC_count_2 : decode prog_1_method_14_code 2 = .ok (.iload_n 2, 1) := by decide +kernel
theorem d_FC_count_3 : decode prog_1_method_14_code 3 = .ok (.invokevirtual 164, 3) := by decide +kernel
theorem d_FC_count_6 : decode prog_1_method_14_code 6 = .ok (.astore_n 3, 1) := by decide +kernel
theorem d_FC_count_7 : decode prog_1_method_14_code 7 = .ok (.aload_n 3, 1) := by decide +kernel
theorem d_FC_count_8 : decode prog_1_method_14_code 8 = .ok (.ifnonnull 9, 3) := by decide +kernel
theorem d_FC_count_11 : decode prog_1_method_14_code 11 = .ok (.ldc2_w 139, 3) := by decide +kernel
theorem d_FC_count_14 : decode prog_1_method_14_code 14 = .ok (.goto 8, 3) := by decide +kernel
theorem d_FC_count_17 : decode prog_1_method_14_code 17 = .ok (.aload_n 3, 1) := by decide +kernel
theorem d_FC_count_18 : decode prog_1_method_14_code 18 = .ok (.iload_n 2, 1) := by decide +kernel
theorem d_FC_count_19 : decode prog_1_method_14_code 19 = .ok (.invokevirtual 168, 3) := by decide +kernel
theorem d_FC_count_22 : decode prog_1_method_14_code 22 = .ok (.lreturn, 1) := by decide +kernel
theorem d_FC_signed_0 : decode prog_1_method_15_code 0 = .ok (.aload_n 0, 1) := by decide +kernel
theorem d_FC_signed_1 : decode prog_1_method_15_code 1 = .ok (.iload_n 1, 1) := by decide +kernel
theorem d_FC_signed_2 : decode prog_1_method_15_code 2 = .ok (.iload_n 2, 1) := by decide +kernel
theorem d_FC_signed_3 : decode prog_1_method_15_code 3 = .ok (.invokevirtual 164, 3) := by decide +kernel
theorem d_FC_signed_6 : decode prog_1_method_15_code 6 = .ok (.astore_n 3, 1) := by decide +kernel
theorem d_FC_signed_7 : decode prog_1_method_15_code 7 = .ok (.aload_n 3, 1) := by decide +kernel
theorem d_FC_signed_8 : decode prog_1_method_15_code 8 = .ok (.ifnonnull 9, 3) := by decide +kernel
theorem d_FC_signed_11 : decode prog_1_method_15_code 11 = .ok (.ldc2_w 139, 3) := by decide +kernel
theorem d_FC_signed_14 : decode prog_1_method_15_code 14 = .ok (.goto 8, 3) := by decide +kernel
theorem d_FC_signed_17 : decode prog_1_method_15_code 17 = .ok (.aload_n 3, 1) := by decide +kernel
theorem d_FC_signed_18 : decode prog_1_method_15_code 18 = .ok (.iload_n 2, 1) := by decide +kernel
theorem d_FC_signed_19 : decode prog_1_method_15_code 19 = .ok (.invokevirtual 171, 3) := by decide +kernel
theorem d_FC_signed_22 : decode prog_1_method_15_code 22 = .ok (.lreturn, 1) := by decide +kernel
theorem d_FC_spreadAll_0 : decode prog_1_method_16_code 0 = .ok (.aload_n 0, 1) := by decide +kernel
theorem d_FC_spreadAll_1 : decode prog_1_method_16_code 1 = .ok (.iload_n 1, 1) := by decide +kernel
theorem d_FC_spreadAll_2 : decode prog_1_method_16_code 2 = .ok (.iload_n 2, 1) := by decide +kernel
theorem d_FC_spreadAll_3 : decode prog_1_method_16_code 3 = .ok (.invokevirtual 164, 3) := by decide +kernel
theorem d_FC_spreadAll_6 : decode prog_1_method_16_code 6 = .ok (.astore 4, 2) := by decide +kernel
theorem d_FC_spreadAll_8 : decode prog_1_method_16_code 8 = .ok (.aload 4, 2) := by decide +kernel
theorem d_FC_spreadAll_10 : decode prog_1_method_16_code 10 = .ok (.ifnonnull 9, 3) := by decide +kernel
theorem d_FC_spreadAll_13 : decode prog_1_method_16_code 13 = .ok (.ldc2_w 139, 3) := by decide +kernel
theorem d_FC_spreadAll_16 : decode prog_1_method_16_code 16 = .ok (.goto 10, 3) := by decide +kernel
theorem d_FC_spreadAll_19 : decode prog_1_method_16_code 19 = .ok (.aload 4, 2) := by decide +kernel
theorem d_FC_spreadAll_21 : decode prog_1_method_16_code 21 = .ok (.iload_n 2, 1) := by decide +kernel
theorem d_FC_spreadAll_22 : decode prog_1_method_16_code 22 = .ok (.iload_n 3, 1) := by decide +kernel
theorem d_FC_spreadAll_23 : decode prog_1_method_16_code 23 = .ok (.invokevirtual 174, 3) := by decide +kernel
theorem d_FC_spreadAll_26 : decode prog_1_method_16_code 26 = .ok (.lreturn, 1) := by decide +kernel
theorem d_FC_listed_0 : decode prog_1_method_17_code 0 = .ok (.aload_n 0, 1) := by decide +kernel
theorem d_FC_listed_1 : decode prog_1_method_17_code 1 = .ok (.iload_n 1, 1) := by decide +kernel
theorem d_FC_listed_2 : decode prog_1_method_17_code 2 = .ok (.iload_n 2, 1) := by decide +kernel
theorem d_FC_listed_3 : decode prog_1_method_17_code 3 = .ok (.invokevirtual 164, 3) := by decide +kernel
theorem d_FC_listed_6 : decode prog_1_method_17_code 6 = .ok (.astore_n 3, 1) := by decide +kernel
theorem d_FC_listed_7 : decode prog_1_method_17_code 7 = .ok (.aload_n 3, 1) := by decide +kernel
theorem d_FC_listed_8 : decode prog_1_method_17_code 8 = .ok (.ifnonnull 7, 3) := by decide +kernel
theorem d_FC_listed_11 : decode prog_1_method_17_code 11 = .ok (.iconst (-1), 1) := by decide +kernel
theorem d_FC_listed_12 : decode prog_1_method_17_code 12 = .ok (.goto 8, 3) := by decide +kernel
theorem d_FC_listed_15 : decode prog_1_method_17_code 15 = .ok (.aload_n 3, 1) := by decide +kernel
theorem d_FC_listed_16 : decode prog_1_method_17_code 16 = .ok (.iload_n 2, 1) := by decide +kernel
theorem d_FC_listed_17 : decode prog_1_method_17_code 17 = .ok (.invokevirtual 178, 3) := by decide +kernel
theorem d_FC_listed_20 : decode prog_1_method_17_code 20 = .ok (.ireturn, 1) := by decide +kernel
theorem d_FC_take_0 : decode prog_1_method_18_code 0 = .ok (.aload_n 0, 1) := by decide +kernel
theorem d_FC_take_1 : decode prog_1_method_18_code 1 = .ok (.iload_n 1, 1) := by decide +kernel
theorem d_FC_take_2 : decode prog_1_method_18_code 2 = .ok (.iload_n 2, 1) := by decide +kernel
theorem d_FC_take_3 : decode prog_1_method_18_code 3 = .ok (.invokevirtual 164, 3) := by decide +kernel
theorem d_FC_take_6 : decode prog_1_method_18_code 6 = .ok (.astore 4, 2) := by decide +kernel
theorem d_FC_take_8 : decode prog_1_method_18_code 8 = .ok (.aload 4, 2) := by decide +kernel
theorem d_FC_take_10 : decode prog_1_method_18_code 10 = .ok (.ifnull 7, 3) := by decide +kernel
theorem d_FC_take_13 : decode prog_1_method_18_code 13 = .ok (.iload_n 3, 1) := by decide +kernel
theorem d_FC_take_14 : decode prog_1_method_18_code 14 = .ok (.ifCond .ge 5, 3) := by decide +kernel
theorem d_FC_take_17 : decode prog_1_method_18_code 17 = .ok (.iconst (-1), 1) := by decide +kernel
theorem d_FC_take_18 : decode prog_1_method_18_code 18 = .ok (.ireturn, 1) := by decide +kernel
theorem d_FC_take_19 : decode prog_1_method_18_code 19 = .ok (.iload_n 3, 1) := by decide +kernel
theorem d_FC_take_20 : decode prog_1_method_18_code 20 = .ok (.aload 4, 2) := by decide +kernel
theorem d_FC_take_22 : decode prog_1_method_18_code 22 = .ok (.iload_n 2, 1) := by decide +kernel
theorem d_FC_take_23 : decode prog_1_method_18_code 23 = .ok (.invokevirtual 178, 3) := by decide +kernel
theorem d_FC_take_26 : decode prog_1_method_18_code 26 = .ok (.if_icmp .lt 6, 3) := by decide +kernel
theorem d_FC_take_29 : decode prog_1_method_18_code 29 = .ok (.bipush (-4), 2) := by decide +kernel
theorem d_FC_take_31 : decode prog_1_method_18_code 31 = .ok (.ireturn, 1) := by decide +kernel
theorem d_FC_take_32 : decode prog_1_method_18_code 32 = .ok (.aload_n 0, 1) := by decide +kernel
theorem d_FC_take_33 : decode prog_1_method_18_code 33 = .ok (.getfield 16, 3) := by decide +kernel
theorem d_FC_take_36 : decode prog_1_method_18_code 36 = .ok (.iload_n 1, 1) := by decide +kernel
theorem d_FC_take_37 : decode prog_1_method_18_code 37 = .ok (.aload 4, 2) := by decide +kernel
theorem d_FC_take_39 : decode prog_1_method_18_code 39 = .ok (.iload_n 2, 1) := by decide +kernel
theorem d_FC_take_40 : decode prog_1_method_18_code 40 = .ok (.iload_n 3, 1) := by decide +kernel
theorem d_FC_take_41 : decode prog_1_method_18_code 41 = .ok (.invokevirtual 181, 3) := by decide +kernel
theorem d_FC_take_44 : decode prog_1_method_18_code 44 = .ok (.invokevirtual 184, 3) := by decide +kernel
theorem d_FC_take_47 : decode prog_1_method_18_code 47 = .ok (.aload_n 0, 1) := by decide +kernel
theorem d_FC_take_48 : decode prog_1_method_18_code 48 = .ok (.invokevirtual 73, 3) := by decide +kernel
theorem d_FC_take_51 : decode prog_1_method_18_code 51 = .ok (.ireturn, 1) := by decide +kernel
theorem d_FC_place_0 : decode prog_1_method_19_code 0 = .ok (.aload_n 0, 1) := by decide +kernel
theorem d_FC_place_1 : decode prog_1_method_19_code 1 = .ok (.iload_n 1, 1) := by decide +kernel
theorem d_FC_place_2 : decode prog_1_method_19_code 2 = .ok (.invokevirtual 77, 3) := by decide +kernel
theorem d_FC_place_5 : decode prog_1_method_19_code 5 = .ok (.astore_n 2, 1) := by decide +kernel
theorem d_FC_place_6 : decode prog_1_method_19_code 6 = .ok (.aload_n 2, 1) := by decide +kernel
theorem d_FC_place_7 : decode prog_1_method_19_code 7 = .ok (.ifnonnull 5, 3) := by decide +kernel
theorem d_FC_place_10 : decode prog_1_method_19_code 10 = .ok (.iconst (-1), 1) := by decide +kernel
theorem d_FC_place_11 : decode prog_1_method_19_code 11 = .ok (.ireturn, 1) := by decide +kernel
theorem d_FC_place_12 : decode prog_1_method_19_code 12 = .ok (.aload_n 2, 1) := by decide +kernel
theorem d_FC_place_13 : decode prog_1_method_19_code 13 = .ok (.invokevirtual 105, 3) := by decide +kernel
theorem d_FC_place_16 : decode prog_1_method_19_code 16 = .ok (.ifCond .ne 6, 3) := by decide +kernel
theorem d_FC_place_19 : decode prog_1_method_19_code 19 = .ok (.bipush (-2), 2) := by decide +kernel
theorem d_FC_place_21 : decode prog_1_method_19_code 21 = .ok (.ireturn, 1) := by decide +kernel
theorem d_FC_place_22 : decode prog_1_method_19_code 22 = .ok (.aload_n 0, 1) := by decide +kernel
theorem d_FC_place_23 : decode prog_1_method_19_code 23 = .ok (.aload_n 2, 1) := by decide +kernel
theorem d_FC_place_24 : decode prog_1_method_19_code 24 = .ok (.invokevirtual 102, 3) := by decide +kernel
theorem d_FC_place_27 : decode prog_1_method_19_code 27 = .ok (.aload_n 2, 1) := by decide +kernel
theorem d_FC_place_28 : decode prog_1_method_19_code 28 = .ok (.invokevirtual 109, 3) := by decide +kernel
theorem d_FC_place_31 : decode prog_1_method_19_code 31 = .ok (.invokevirtual 164, 3) := by decide +kernel
theorem d_FC_place_34 : decode prog_1_method_19_code 34 = .ok (.astore_n 3, 1) := by decide +kernel
theorem d_FC_place_35 : decode prog_1_method_19_code 35 = .ok (.aload_n 3, 1) := by decide +kernel
theorem d_FC_place_36 : decode prog_1_method_19_code 36 = .ok (.ifnonnull 8, 3) := by decide +kernel
theorem d_FC_place_39 : decode prog_1_method_19_code 39 = .ok (.bipush (-2), 2) := by decide +kernel
theorem d_FC_place_41 : decode prog_1_method_19_code 41 = .ok (.goto 15, 3) := by decide +kernel
theorem d_FC_place_44 : decode prog_1_method_19_code 44 = .ok (.aload_n 3, 1) := by decide +kernel
theorem d_FC_place_45 : decode prog_1_method_19_code 45 = .ok (.aload_n 2, 1) := by decide +kernel
theorem d_FC_place_46 : decode prog_1_method_19_code 46 = .ok (.invokevirtual 109, 3) := by decide +kernel
theorem d_FC_place_49 : decode prog_1_method_19_code 49 = .ok (.aload_n 2, 1) := by decide +kernel
theorem d_FC_place_50 : decode prog_1_method_19_code 50 = .ok (.invokevirtual 188, 3) := by decide +kernel
theorem d_FC_place_53 : decode prog_1_method_19_code 53 = .ok (.invokevirtual 192, 3) := by decide +kernel
theorem d_FC_place_56 : decode prog_1_method_19_code 56 = .ok (.ireturn, 1) := by decide +kernel
theorem d_FC_feed_0 : decode prog_1_method_20_code 0 = .ok (.aload_n 0, 1) := by decide +kernel
theorem d_FC_feed_1 : decode prog_1_method_20_code 1 = .ok (.getfield 43, 3) := by decide +kernel
theorem d_FC_feed_4 : decode prog_1_method_20_code 4 = .ok (.lload_n 1, 1) := by decide +kernel
theorem d_FC_feed_5 : decode prog_1_method_20_code 5 = .ok (.invokevirtual 196, 3) := by decide +kernel
theorem d_FC_feed_8 : decode prog_1_method_20_code 8 = .ok (.ifCond .eq 13, 3) := by decide +kernel
theorem d_FC_feed_11 : decode prog_1_method_20_code 11 = .ok (.aload_n 0, 1) := by decide +kernel
theorem d_FC_feed_12 : decode prog_1_method_20_code 12 = .ok (.getfield 43, 3) := by decide +kernel
theorem d_FC_feed_15 : decode prog_1_method_20_code 15 = .ok (.invokevirtual 200, 3) := by decide +kernel
theorem d_FC_feed_18 : decode prog_1_method_20_code 18 = .ok (.goto 5, 3) := by decide +kernel
theorem d_FC_feed_21 : decode prog_1_method_20_code 21 = .ok (.bipush (-3), 2) := by decide +kernel
theorem d_FC_feed_23 : decode prog_1_method_20_code 23 = .ok (.ireturn, 1) := by decide +kernel
theorem d_FC_end_0 : decode prog_1_method_21_code 0 = .ok (.aload_n 0, 1) := by decide +kernel
theorem d_FC_end_1 : decode prog_1_method_21_code 1 = .ok (.getfield 43, 3) := by decide +kernel
theorem d_FC_end_4 : decode prog_1_method_21_code 4 = .ok (.invokevirtual 200, 3) := by decide +kernel
theorem d_FC_end_7 : decode prog_1_method_21_code 7 = .ok (.istore_n 2, 1) := by decide +kernel
theorem d_FC_end_8 : decode prog_1_method_21_code 8 = .ok (.aload_n 0, 1) := by decide +kernel
theorem d_FC_end_9 : decode prog_1_method_21_code 9 = .ok (.getfield 43, 3) := by decide +kernel
theorem d_FC_end_12 : decode prog_1_method_21_code 12 = .ok (.iload_n 1, 1) := by decide +kernel
theorem d_FC_end_13 : decode prog_1_method_21_code 13 = .ok (.invokevirtual 203, 3) := by decide +kernel
theorem d_FC_end_16 : decode prog_1_method_21_code 16 = .ok (.ifCond .eq 7, 3) := by decide +kernel
theorem d_FC_end_19 : decode prog_1_method_21_code 19 = .ok (.iload_n 2, 1) := by decide +kernel
theorem d_FC_end_20 : decode prog_1_method_21_code 20 = .ok (.goto 4, 3) := by decide +kernel
theorem d_FC_end_23 : decode prog_1_method_21_code 23 = .ok (.iconst (-1), 1) := by decide +kernel
theorem d_FC_end_24 : decode prog_1_method_21_code 24 = .ok (.ireturn, 1) := by decide +kernel
theorem d_FC_text_0 : decode prog_1_method_22_code 0 = .ok (.aload_n 0, 1) := by decide +kernel
theorem d_FC_text_1 : decode prog_1_method_22_code 1 = .ok (.getfield 43, 3) := by decide +kernel
theorem d_FC_text_4 : decode prog_1_method_22_code 4 = .ok (.invokevirtual 206, 3) := by decide +kernel
theorem d_FC_text_7 : decode prog_1_method_22_code 7 = .ok (.istore_n 1, 1) := by decide +kernel
theorem d_FC_text_8 : decode prog_1_method_22_code 8 = .ok (.aload_n 0, 1) := by decide +kernel
theorem d_FC_text_9 : decode prog_1_method_22_code 9 = .ok (.getfield 43, 3) := by decide +kernel
theorem d_FC_text_12 : decode prog_1_method_22_code 12 = .ok (.iconst 0, 1) := by decide +kernel
theorem d_FC_text_13 : decode prog_1_method_22_code 13 = .ok (.invokevirtual 203, 3) := by decide +kernel
theorem d_FC_text_16 : decode prog_1_method_22_code 16 = .ok (.pop, 1) := by decide +kernel
theorem d_FC_text_17 : decode prog_1_method_22_code 17 = .ok (.iload_n 1, 1) := by decide +kernel
theorem d_FC_text_18 : decode prog_1_method_22_code 18 = .ok (.ifCond .ge 16, 3) := by decide +kernel
theorem d_FC_text_21 : decode prog_1_method_22_code 21 = .ok (.aload_n 0, 1) := by decide +kernel
theorem d_FC_text_22 : decode prog_1_method_22_code 22 = .ok (.getfield 43, 3) := by decide +kernel
theorem d_FC_text_25 : decode prog_1_method_22_code 25 = .ok (.invokevirtual 209, 3) := by decide +kernel
theorem d_FC_text_28 : decode prog_1_method_22_code 28 = .ok (.invokestatic 212, 3) := by decide +kernel
theorem d_FC_text_31 : decode prog_1_method_22_code 31 = .ok (.goto 7, 3) := by decide +kernel
theorem d_FC_text_34 : decode prog_1_method_22_code 34 = .ok (.bipush (-10), 2) := by decide +kernel
theorem d_FC_text_36 : decode prog_1_method_22_code 36 = .ok (.iload_n 1, 1) := by decide +kernel
theorem d_FC_text_37 : decode prog_1_method_22_code 37 = .ok (.isub, 1) := by decide +kernel
theorem d_FC_text_38 : decode prog_1_method_22_code 38 = .ok (.ireturn, 1) := by decide +kernel
theorem d_FC_fault_0 : decode prog_1_method_23_code 0 = .ok (.aload_n 0, 1) := by decide +kernel
theorem d_FC_fault_1 : decode prog_1_method_23_code 1 = .ok (.getfield 43, 3) := by decide +kernel
theorem d_FC_fault_4 : decode prog_1_method_23_code 4 = .ok (.invokevirtual 217, 3) := by decide +kernel
theorem d_FC_fault_7 : decode prog_1_method_23_code 7 = .ok (.ireturn, 1) := by decide +kernel
theorem d_FC_tangent_0 : decode prog_1_method_24_code 0 = .ok (.iload_n 1, 1) := by decide +kernel
theorem d_FC_tangent_1 : decode prog_1_method_24_code 1 = .ok (.ifCond .lt 9, 3) := by decide +kernel
theorem d_FC_tangent_4 : decode prog_1_method_24_code 4 = .ok (.iload_n 1, 1) := by decide +kernel
theorem d_FC_tangent_5 : decode prog_1_method_24_code 5 = .ok (.bipush 10, 2) := by decide +kernel
theorem d_FC_tangent_7 : decode prog_1_method_24_code 7 = .ok (.if_icmp .le 7, 3) := by decide +kernel
theorem d_FC_tangent_10 : decode prog_1_method_24_code 10 = .ok (.ldc2_w 139, 3) := by decide +kernel
theorem d_FC_tangent_13 : decode prog_1_method_24_code 13 = .ok (.lreturn, 1) := by decide +kernel
theorem d_FC_tangent_14 : decode prog_1_method_24_code 14 = .ok (.aload_n 0, 1) := by decide +kernel
theorem d_FC_tangent_15 : decode prog_1_method_24_code 15 = .ok (.getfield 43, 3) := by decide +kernel
theorem d_FC_tangent_18 : decode prog_1_method_24_code 18 = .ok (.invokevirtual 209, 3) := by decide +kernel
theorem d_FC_tangent_21 : decode prog_1_method_24_code 21 = .ok (.ifCond .ne 7, 3) := by decide +kernel
theorem d_FC_tangent_24 : decode prog_1_method_24_code 24 = .ok (.ldc2_w 149, 3) := by decide +kernel
theorem d_FC_tangent_27 : decode prog_1_method_24_code 27 = .ok (.lreturn, 1) := by decide +kernel
theorem d_FC_tangent_28 : decode prog_1_method_24_code 28 = .ok (.aload_n 0, 1) := by decide +kernel
theorem d_FC_tangent_29 : decode prog_1_method_24_code 29 = .ok (.getfield 50, 3) := by decide +kernel
theorem d_FC_tangent_32 : decode prog_1_method_24_code 32 = .ok (.aload_n 0, 1) := by decide +kernel
theorem d_FC_tangent_33 : decode prog_1_method_24_code 33 = .ok (.getfield 43, 3) := by decide +kernel
theorem d_FC_tangent_36 : decode prog_1_method_24_code 36 = .ok (.invokevirtual 209, 3) := by decide +kernel
theorem d_FC_tangent_39 : decode prog_1_method_24_code 39 = .ok (.iload_n 1, 1) := by decide +kernel
theorem d_FC_tangent_40 : decode prog_1_method_24_code 40 = .ok (.invokevirtual 220, 3) := by decide +kernel
theorem d_FC_tangent_43 : decode prog_1_method_24_code 43 = .ok (.lreturn, 1) := by decide +kernel
theorem d_FC_has_0 : decode prog_1_method_25_code 0 = .ok (.iload_n 1, 1) := by decide +kernel
theorem d_FC_has_1 : decode prog_1_method_25_code 1 = .ok (.ifCond .lt 18, 3) := by decide +kernel
theorem d_FC_has_4 : decode prog_1_method_25_code 4 = .ok (.iload_n 1, 1) := by decide +kernel
theorem d_FC_has_5 : decode prog_1_method_25_code 5 = .ok (.iconst 1, 1) := by decide +kernel
theorem d_FC_has_6 : decode prog_1_method_25_code 6 = .ok (.if_icmp .gt 13, 3) := by decide +kernel
theorem d_FC_has_9 : decode prog_1_method_25_code 9 = .ok (.iload_n 2, 1) := by decide +kernel
theorem d_FC_has_10 : decode prog_1_method_25_code 10 = .ok (.iconst 1, 1) := by decide +kernel
theorem d_FC_has_11 : decode prog_1_method_25_code 11 = .ok (.if_icmp .lt 8, 3) := by decide +kernel
theorem d_FC_has_14 : decode prog_1_method_25_code 14 = .ok (.iload_n 2, 1) := by decide +kernel
theorem d_FC_has_15 : decode prog_1_method_25_code 15 = .ok (.iconst 5, 1) := by decide +kernel
theorem d_FC_has_16 : decode prog_1_method_25_code 16 = .ok (.if_icmp .le 5, 3) := by decide +kernel
theorem d_FC_has_19 : decode prog_1_method_25_code 19 = .ok (.iconst (-1), 1) := by decide +kernel
theorem d_FC_has_20 : decode prog_1_method_25_code 20 = .ok (.ireturn, 1) := by decide +kernel
theorem d_FC_has_21 : decode prog_1_method_25_code 21 = .ok (.aload_n 0, 1) := by decide +kernel
theorem d_FC_has_22 : decode prog_1_method_25_code 22 = .ok (.getfield 43, 3) := by decide +kernel
theorem d_FC_has_25 : decode prog_1_method_25_code 25 = .ok (.invokevirtual 209, 3) := by decide +kernel
theorem d_FC_has_28 : decode prog_1_method_25_code 28 = .ok (.ifCond .ne 6, 3) := by decide +kernel
theorem d_FC_has_31 : decode prog_1_method_25_code 31 = .ok (.bipush (-2), 2) := by decide +kernel
theorem d_FC_has_33 : decode prog_1_method_25_code 33 = .ok (.ireturn, 1) := by decide +kernel
theorem d_FC_has_34 : decode prog_1_method_25_code 34 = .ok (.aload_n 0, 1) := by decide +kernel
theorem d_FC_has_35 : decode prog_1_method_25_code 35 = .ok (.getfield 43, 3) := by decide +kernel
theorem d_FC_has_38 : decode prog_1_method_25_code 38 = .ok (.invokevirtual 209, 3) := by decide +kernel
theorem d_FC_has_41 : decode prog_1_method_25_code 41 = .ok (.iload_n 1, 1) := by decide +kernel
theorem d_FC_has_42 : decode prog_1_method_25_code 42 = .ok (.iload_n 2, 1) := by decide +kernel
theorem d_FC_has_43 : decode prog_1_method_25_code 43 = .ok (.invokestatic 223, 3) := by decide +kernel
theorem d_FC_has_46 : decode prog_1_method_25_code 46 = .ok (.ireturn, 1) := by decide +kernel
theorem d_FC_rational_0 : decode prog_1_method_26_code 0 = .ok (.iload_n 1, 1) := by decide +kernel
theorem d_FC_rational_1 : decode prog_1_method_26_code 1 = .ok (.iconst 1, 1) := by decide +kernel
theorem d_FC_rational_2 : decode prog_1_method_26_code 2 = .ok (.if_icmp .lt 9, 3) := by decide +kernel
theorem d_FC_rational_5 : decode prog_1_method_26_code 5 = .ok (.iload_n 1, 1) := by decide +kernel
theorem d_FC_rational_6 : decode prog_1_method_26_code 6 = .ok (.bipush 7, 2) := by decide +kernel
theorem d_FC_rational_8 : decode prog_1_method_26_code 8 = .ok (.if_icmp .le 7, 3) := by decide +kernel
theorem d_FC_rational_11 : decode prog_1_method_26_code 11 = .ok (.ldc2_w 139, 3) := by decide +kernel
theorem d_FC_rational_14 : decode prog_1_method_26_code 14 = .ok (.lreturn, 1) := by decide +kernel
theorem d_FC_rational_15 : decode prog_1_method_26_code 15 = .ok (.aload_n 0, 1) := by decide +kernel
theorem d_FC_rational_16 : decode prog_1_method_26_code 16 = .ok (.getfield 54, 3) := by decide +kernel
theorem d_FC_rational_19 : decode prog_1_method_26_code 19 = .ok (.iconst 1, 1) := by decide +kernel
theorem d_FC_rational_20 : decode prog_1_method_26_code 20 = .ok (.lconst 1, 1) := by decide +kernel
theorem d_FC_rational_21 : decode prog_1_method_26_code 21 = .ok (.lastore, 1) := by decide +kernel
theorem d_FC_rational_22 : decode prog_1_method_26_code 22 = .ok (.iconst 2, 1) := by decide +kernel
theorem d_FC_rational_23 : decode prog_1_method_26_code 23 = .ok (.istore_n 2, 1) := by decide +kernel
theorem d_FC_rational_24 : decode prog_1_method_26_code 24 = .ok (.iload_n 2, 1) := by decide +kernel
theorem d_FC_rational_25 : decode prog_1_method_26_code 25 = .ok (.iload_n 1, 1) := by decide +kernel
theorem d_FC_rational_26 : decode prog_1_method_26_code 26 = .ok (.if_icmp .gt 63, 3) := by decide +kernel
theorem d_FC_rational_29 : decode prog_1_method_26_code 29 = .ok (.lconst 0, 1) := by decide +kernel
theorem d_FC_rational_30 : decode prog_1_method_26_code 30 = .ok (.lstore_n 3, 1) := by decide +kernel
theorem d_FC_rational_31 : decode prog_1_method_26_code 31 = .ok (.iconst 1, 1) := by decide +kernel
theorem d_FC_rational_32 : decode prog_1_method_26_code 32 = .ok (.istore 5, 2) := by decide +kernel
theorem d_FC_rational_34 : decode prog_1_method_26_code 34 = .ok (.iload 5, 2) := by decide +kernel
theorem d_FC_rational_36 : decode prog_1_method_26_code 36 = .ok (.iload_n 2, 1) := by decide +kernel
theorem d_FC_rational_37 : decode prog_1_method_26_code 37 = .ok (.if_icmp .ge 39, 3) := by decide +kernel
theorem d_FC_rational_40 : decode prog_1_method_26_code 40 = .ok (.lload_n 3, 1) := by decide +kernel
theorem d_FC_rational_41 : decode prog_1_method_26_code 41 = .ok (.aload_n 0, 1) := by decide +kernel
theorem d_FC_rational_42 : decode prog_1_method_26_code 42 = .ok (.getfield 54, 3) := by decide +kernel
theorem d_FC_rational_45 : decode prog_1_method_26_code 45 = .ok (.iload 5, 2) := by decide +kernel
theorem d_FC_rational_47 : decode prog_1_method_26_code 47 = .ok (.laload, 1) := by decide +kernel
theorem d_FC_rational_48 : decode prog_1_method_26_code 48 = .ok (.aload_n 0, 1) := by decide +kernel
theorem d_FC_rational_49 : decode prog_1_method_26_code 49 = .ok (.getfield 54, 3) := by decide +kernel
theorem d_FC_rational_52 : decode prog_1_method_26_code 52 = .ok (.iload_n 2, 1) := by decide +kernel
theorem d_FC_rational_53 : decode prog_1_method_26_code 53 = .ok (.iload 5, 2) := by decide +kernel
theorem d_FC_rational_55 : decode prog_1_method_26_code 55 = .ok (.isub, 1) := by decide +kernel
theorem d_FC_rational_56 : decode prog_1_method_26_code 56 = .ok (.laload, 1) := by decide +kernel
theorem d_FC_rational_57 : decode prog_1_method_26_code 57 = .ok (.lmul, 1) := by decide +kernel
theorem d_FC_rational_58 : decode prog_1_method_26_code 58 = .ok (.iload 5, 2) := by decide +kernel
theorem d_FC_rational_60 : decode prog_1_method_26_code 60 = .ok (.iload_n 2, 1) := by decide +kernel
theorem d_FC_rational_61 : decode prog_1_method_26_code 61 = .ok (.iload 5, 2) := by decide +kernel
theorem d_FC_rational_63 : decode prog_1_method_26_code 63 = .ok (.isub, 1) := by decide +kernel
theorem d_FC_rational_64 : decode prog_1_method_26_code 64 = .ok (.invokestatic 226, 3) := by decide +kernel
theorem d_FC_rational_67 : decode prog_1_method_26_code 67 = .ok (.lmul, 1) := by decide +kernel
theorem d_FC_rational_68 : decode prog_1_method_26_code 68 = .ok (.ladd, 1) := by decide +kernel
theorem d_FC_rational_69 : decode prog_1_method_26_code 69 = .ok (.lstore_n 3, 1) := by decide +kernel
theorem d_FC_rational_70 : decode prog_1_method_26_code 70 = .ok (.iinc 5 1, 3) := by decide +kernel
theorem d_FC_rational_73 : decode prog_1_method_26_code 73 = .ok (.goto (-39), 3) := by decide +kernel
theorem d_FC_rational_76 : decode prog_1_method_26_code 76 = .ok (.aload_n 0, 1) := by decide +kernel
theorem d_FC_rational_77 : decode prog_1_method_26_code 77 = .ok (.getfield 54, 3) := by decide +kernel
theorem d_FC_rational_80 : decode prog_1_method_26_code 80 = .ok (.iload_n 2, 1) := by decide +kernel
theorem d_FC_rational_81 : decode prog_1_method_26_code 81 = .ok (.lload_n 3, 1) := by decide +kernel
theorem d_FC_rational_82 : decode prog_1_method_26_code 82 = .ok (.lastore, 1) := by decide +kernel
theorem d_FC_rational_83 : decode prog_1_method_26_code 83 = .ok (.iinc 2 1, 3) := by decide +kernel
theorem d_FC_rational_86 : decode prog_1_method_26_code 86 = .ok (.goto (-62), 3) := by decide +kernel
theorem d_FC_rational_89 : decode prog_1_method_26_code 89 = .ok (.aload_n 0, 1) := by decide +kernel
theorem d_FC_rational_90 : decode prog_1_method_26_code 90 = .ok (.getfield 54, 3) := by decide +kernel
theorem d_FC_rational_93 : decode prog_1_method_26_code 93 = .ok (.iload_n 1, 1) := by decide +kernel
theorem d_FC_rational_94 : decode prog_1_method_26_code 94 = .ok (.laload, 1) := by decide +kernel
theorem d_FC_rational_95 : decode prog_1_method_26_code 95 = .ok (.lreturn, 1) := by decide +kernel
theorem d_FC_sheet_0 : decode prog_1_method_27_code 0 = .ok (.aload_n 0, 1) := by decide +kernel
theorem d_FC_sheet_1 : decode prog_1_method_27_code 1 = .ok (.iload_n 1, 1) := by decide +kernel
theorem d_FC_sheet_2 : decode prog_1_method_27_code 2 = .ok (.invokevirtual 229, 3) := by decide +kernel
theorem d_FC_sheet_5 : decode prog_1_method_27_code 5 = .ok (.astore 4, 2) := by decide +kernel
theorem d_FC_sheet_7 : decode prog_1_method_27_code 7 = .ok (.aload 4, 2) := by decide +kernel
theorem d_FC_sheet_9 : decode prog_1_method_27_code 9 = .ok (.ifnull 16, 3) := by decide +kernel
theorem d_FC_sheet_12 : decode prog_1_method_27_code 12 = .ok (.iload_n 2, 1) := by decide +kernel
theorem d_FC_sheet_13 : decode prog_1_method_27_code 13 = .ok (.invokestatic 233, 3) := by decide +kernel
theorem d_FC_sheet_16 : decode prog_1_method_27_code 16 = .ok (.ifCond .eq 9, 3) := by decide +kernel
theorem d_FC_sheet_19 : decode prog_1_method_27_code 19 = .ok (.iload_n 3, 1) := by decide +kernel
theorem d_FC_sheet_20 : decode prog_1_method_27_code 20 = .ok (.bipush 60, 2) := by decide +kernel
theorem d_FC_sheet_22 : decode prog_1_method_27_code 22 = .ok (.if_icmp .le 5, 3) := by decide +kernel
theorem d_FC_sheet_25 : decode prog_1_method_27_code 25 = .ok (.iconst (-1), 1) := by decide +kernel
theorem d_FC_sheet_26 : decode prog_1_method_27_code 26 = .ok (.ireturn, 1) := by decide +kernel
theorem d_FC_sheet_27 : decode prog_1_method_27_code 27 = .ok (.iload_n 3, 1) := by decide +kernel
theorem d_FC_sheet_28 : decode prog_1_method_27_code 28 = .ok (.ifCond .ge 6, 3) := by decide +kernel
theorem d_FC_sheet_31 : decode prog_1_method_27_code 31 = .ok (.bipush (-14), 2) := by decide +kernel
theorem d_FC_sheet_33 : decode prog_1_method_27_code 33 = .ok (.ireturn, 1) := by decide +kernel
theorem d_FC_sheet_34 : decode prog_1_method_27_code 34 = .ok (.aload 4, 2) := by decide +kernel
theorem d_FC_sheet_36 : decode prog_1_method_27_code 36 = .ok (.iload_n 2, 1) := by decide +kernel
theorem d_FC_sheet_37 : decode prog_1_method_27_code 37 = .ok (.iload_n 3, 1) := by decide +kernel
theorem d_FC_sheet_38 : decode prog_1_method_27_code 38 = .ok (.invokevirtual 236, 3) := by decide +kernel
theorem d_FC_sheet_41 : decode prog_1_method_27_code 41 = .ok (.iconst 1, 1) := by decide +kernel
theorem d_FC_sheet_42 : decode prog_1_method_27_code 42 = .ok (.ireturn, 1) := by decide +kernel
theorem d_FC_lay_0 : decode prog_1_method_28_code 0 = .ok (.aload_n 0, 1) := by decide +kernel
theorem d_FC_lay_1 : decode prog_1_method_28_code 1 = .ok (.iload_n 1, 1) := by decide +kernel
theorem d_FC_lay_2 : decode prog_1_method_28_code 2 = .ok (.invokevirtual 229, 3) := by decide +kernel
theorem d_FC_lay_5 : decode prog_1_method_28_code 5 = .ok (.astore 4, 2) := by decide +kernel
theorem d_FC_lay_7 : decode prog_1_method_28_code 7 = .ok (.aload 4, 2) := by decide +kernel
theorem d_FC_lay_9 : decode prog_1_method_28_code 9 = .ok (.ifnonnull 5, 3) := by decide +kernel
theorem d_FC_lay_12 : decode prog_1_method_28_code 12 = .ok (.iconst (-1), 1) := by decide +kernel
theorem d_FC_lay_13 : decode prog_1_method_28_code 13 = .ok (.ireturn, 1) := by decide +kernel
theorem d_FC_lay_14 : decode prog_1_method_28_code 14 = .ok (.aload 4, 2) := by decide +kernel
theorem d_FC_lay_16 : decode prog_1_method_28_code 16 = .ok (.invokevirtual 240, 3) := by decide +kernel
theorem d_FC_lay_19 : decode prog_1_method_28_code 19 = .ok (.ifCond .eq 6, 3) := by decide +kernel
theorem d_FC_lay_22 : decode prog_1_method_28_code 22 = .ok (.bipush (-11), 2) := by decide +kernel
theorem d_FC_lay_24 : decode prog_1_method_28_code 24 = .ok (.ireturn, 1) := by decide +kernel
theorem d_FC_lay_25 : decode prog_1_method_28_code 25 = .ok (.aload 4, 2) := by decide +kernel
theorem d_FC_lay_27 : decode prog_1_method_28_code 27 = .ok (.iload_n 2, 1) := by decide +kernel
theorem d_FC_lay_28 : decode prog_1_method_28_code 28 = .ok (.invokevirtual 243, 3) := by decide +kernel
theorem d_FC_lay_31 : decode prog_1_method_28_code 31 = .ok (.ifCond .ne 6, 3) := by decide +kernel
theorem d_FC_lay_34 : decode prog_1_method_28_code 34 = .ok (.bipush (-12), 2) := by decide +kernel
theorem d_FC_lay_36 : decode prog_1_method_28_code 36 = .ok (.ireturn, 1) := by decide +kernel
theorem d_FC_lay_37 : decode prog_1_method_28_code 37 = .ok (.aload 4, 2) := by decide +kernel
theorem d_FC_lay_39 : decode prog_1_method_28_code 39 = .ok (.iload_n 2, 1) := by decide +kernel
theorem d_FC_lay_40 : decode prog_1_method_28_code 40 = .ok (.iload_n 3, 1) := by decide +kernel
theorem d_FC_lay_41 : decode prog_1_method_28_code 41 = .ok (.invokevirtual 246, 3) := by decide +kernel
theorem d_FC_lay_44 : decode prog_1_method_28_code 44 = .ok (.iconst 1, 1) := by decide +kernel
theorem d_FC_lay_45 : decode prog_1_method_28_code 45 = .ok (.ireturn, 1) := by decide +kernel
theorem d_FC_draw_0 : decode prog_1_method_29_code 0 = .ok (.aload_n 0, 1) := by decide +kernel
theorem d_FC_draw_1 : decode prog_1_method_29_code 1 = .ok (.iload_n 1, 1) := by decide +kernel
theorem d_FC_draw_2 : decode prog_1_method_29_code 2 = .ok (.invokevirtual 229, 3) := by decide +kernel
theorem d_FC_draw_5 : decode prog_1_method_29_code 5 = .ok (.astore 6, 2) := by decide +kernel
theorem d_FC_draw_7 : decode prog_1_method_29_code 7 = .ok (.aload 6, 2) := by decide +kernel
theorem d_FC_draw_9 : decode prog_1_method_29_code 9 = .ok (.ifnull 30, 3) := by decide +kernel
theorem d_FC_draw_12 : decode prog_1_method_29_code 12 = .ok (.iload_n 2, 1) := by decide +kernel
theorem d_FC_draw_13 : decode prog_1_method_29_code 13 = .ok (.invokestatic 233, 3) := by decide +kernel
theorem d_FC_draw_16 : decode prog_1_method_29_code 16 = .ok (.ifCond .eq 23, 3) := by decide +kernel
theorem d_FC_draw_19 : decode prog_1_method_29_code 19 = .ok (.iload 5, 2) := by decide +kernel
theorem d_FC_draw_21 : decode prog_1_method_29_code 21 = .ok (.ifCond .lt 18, 3) := by decide +kernel
theorem d_FC_draw_24 : decode prog_1_method_29_code 24 = .ok (.iload 5, 2) := by decide +kernel
theorem d_FC_draw_26 : decode prog_1_method_29_code 26 = .ok (.bipush 6, 2) := by decide +kernel
theorem d_FC_draw_28 : decode prog_1_method_29_code 28 = .ok (.if_icmp .gt 11, 3) := by decide +kernel
theorem d_FC_draw_31 : decode prog_1_method_29_code 31 = .ok (.iload 4, 2) := by decide +kernel
theorem d_FC_draw_33 : decode prog_1_method_29_code 33 = .ok (.invokestatic 65, 3) := by decide +kernel
theorem d_FC_draw_36 : decode prog_1_method_29_code 36 = .ok (.ifCond .ne 5, 3) := by decide +kernel
theorem d_FC_draw_39 : decode prog_1_method_29_code 39 = .ok (.iconst (-1), 1) := by decide +kernel
theorem d_FC_draw_40 : decode prog_1_method_29_code 40 = .ok (.ireturn, 1) := by decide +kernel
theorem d_FC_draw_41 : decode prog_1_method_29_code 41 = .ok (.aload 6, 2) := by decide +kernel
theorem d_FC_draw_43 : decode prog_1_method_29_code 43 = .ok (.invokevirtual 240, 3) := by decide +kernel
theorem d_FC_draw_46 : decode prog_1_method_29_code 46 = .ok (.ifCond .eq 6, 3) := by decide +kernel
theorem d_FC_draw_49 : decode prog_1_method_29_code 49 = .ok (.bipush (-11), 2) := by decide +kernel
theorem d_FC_draw_51 : decode prog_1_method_29_code 51 = .ok (.ireturn, 1) := by decide +kernel
theorem d_FC_draw_52 : decode prog_1_method_29_code 52 = .ok (.aload 6, 2) := by decide +kernel
theorem d_FC_draw_54 : decode prog_1_method_29_code 54 = .ok (.iload_n 2, 1) := by decide +kernel
theorem d_FC_draw_55 : decode prog_1_method_29_code 55 = .ok (.invokevirtual 249, 3) := by decide +kernel
theorem d_FC_draw_58 : decode prog_1_method_29_code 58 = .ok (.ifCond .ne 6, 3) := by decide +kernel
theorem d_FC_draw_61 : decode prog_1_method_29_code 61 = .ok (.bipush (-13), 2) := by decide +kernel
theorem d_FC_draw_63 : decode prog_1_method_29_code 63 = .ok (.ireturn, 1) := by decide +kernel
theorem d_FC_draw_64 : decode prog_1_method_29_code 64 = .ok (.aload_n 0, 1) := by decide +kernel
theorem d_FC_draw_65 : decode prog_1_method_29_code 65 = .ok (.getfield 16, 3) := by decide +kernel
theorem d_FC_draw_68 : decode prog_1_method_29_code 68 = .ok (.iload 4, 2) := by decide +kernel
theorem d_FC_draw_70 : decode prog_1_method_29_code 70 = .ok (.invokevirtual 69, 3) := by decide +kernel
theorem d_FC_draw_73 : decode prog_1_method_29_code 73 = .ok (.iload_n 3, 1) := by decide +kernel
theorem d_FC_draw_74 : decode prog_1_method_29_code 74 = .ok (.istore 7, 2) := by decide +kernel
theorem d_FC_draw_76 : decode prog_1_method_29_code 76 = .ok (.iconst 0, 1) := by decide +kernel
theorem d_FC_draw_77 : decode prog_1_method_29_code 77 = .ok (.istore 8, 2) := by decide +kernel
theorem d_FC_draw_79 : decode prog_1_method_29_code 79 = .ok (.iload 8, 2) := by decide +kernel
theorem d_FC_draw_81 : decode prog_1_method_29_code 81 = .ok (.iload 5, 2) := by decide +kernel
theorem d_FC_draw_83 : decode prog_1_method_29_code 83 = .ok (.if_icmp .ge 79, 3) := by decide +kernel
theorem d_FC_draw_86 : decode prog_1_method_29_code 86 = .ok (.aload 6, 2) := by decide +kernel
theorem d_FC_draw_88 : decode prog_1_method_29_code 88 = .ok (.iload 7, 2) := by decide +kernel
theorem d_FC_draw_90 : decode prog_1_method_29_code 90 = .ok (.invokevirtual 252, 3) := by decide +kernel
theorem d_FC_draw_93 : decode prog_1_method_29_code 93 = .ok (.ifCond .ne 6, 3) := by decide +kernel
theorem d_FC_draw_96 : decode prog_1_method_29_code 96 = .ok (.bipush (-12), 2) := by decide +kernel
theorem d_FC_draw_98 : decode prog_1_method_29_code 98 = .ok (.ireturn, 1) := by decide +kernel
theorem d_FC_draw_99 : decode prog_1_method_29_code 99 = .ok (.aload_n 0, 1) := by decide +kernel
theorem d_FC_draw_100 : decode prog_1_method_29_code 100 = .ok (.getfield 16, 3) := by decide +kernel
theorem d_FC_draw_103 : decode prog_1_method_29_code 103 = .ok (.aload 6, 2) := by decide +kernel
theorem d_FC_draw_105 : decode prog_1_method_29_code 105 = .ok (.iload 7, 2) := by decide +kernel
theorem d_FC_draw_107 : decode prog_1_method_29_code 107 = .ok (.invokevirtual 255, 3) := by decide +kernel
theorem d_FC_draw_110 : decode prog_1_method_29_code 110 = .ok (.aload 6, 2) := by decide +kernel
theorem d_FC_draw_112 : decode prog_1_method_29_code 112 = .ok (.iload 7, 2) := by decide +kernel
theorem d_FC_draw_114 : decode prog_1_method_29_code 114 = .ok (.iconst 1, 1) := by decide +kernel
theorem d_FC_draw_115 : decode prog_1_method_29_code 115 = .ok (.iadd, 1) := by decide +kernel
theorem d_FC_draw_116 : decode prog_1_method_29_code 116 = .ok (.invokevirtual 255, 3) := by decide +kernel
theorem d_FC_draw_119 : decode prog_1_method_29_code 119 = .ok (.aload 6, 2) := by decide +kernel
theorem d_FC_draw_121 : decode prog_1_method_29_code 121 = .ok (.iload 7, 2) := by decide +kernel
theorem d_FC_draw_123 : decode prog_1_method_29_code 123 = .ok (.iconst 2, 1) := by decide +kernel
theorem d_FC_draw_124 : decode prog_1_method_29_code 124 = .ok (.iadd, 1) := by decide +kernel
theorem d_FC_draw_125 : decode prog_1_method_29_code 125 = .ok (.invokevirtual 255, 3) := by decide +kernel
theorem d_FC_draw_128 : decode prog_1_method_29_code 128 = .ok (.invokevirtual 81, 3) := by decide +kernel
theorem d_FC_draw_131 : decode prog_1_method_29_code 131 = .ok (.istore 9, 2) := by decide +kernel
theorem d_FC_draw_133 : decode prog_1_method_29_code 133 = .ok (.iload 9, 2) := by decide +kernel
theorem d_FC_draw_135 : decode prog_1_method_29_code 135 = .ok (.ifCond .ge 9, 3) := by decide +kernel
theorem d_FC_draw_138 : decode prog_1_method_29_code 138 = .ok (.bipush (-20), 2) := by decide +kernel
theorem d_FC_draw_140 : decode prog_1_method_29_code 140 = .ok (.iload 8, 2) := by decide +kernel
theorem d_FC_draw_142 : decode prog_1_method_29_code 142 = .ok (.isub, 1) := by decide +kernel
theorem d_FC_draw_143 : decode prog_1_method_29_code 143 = .ok (.ireturn, 1) := by decide +kernel
theorem d_FC_draw_144 : decode prog_1_method_29_code 144 = .ok (.aload_n 0, 1) := by decide +kernel
theorem d_FC_draw_145 : decode prog_1_method_29_code 145 = .ok (.getfield 16, 3) := by decide +kernel
theorem d_FC_draw_148 : decode prog_1_method_29_code 148 = .ok (.iload 9, 2) := by decide +kernel
theorem d_FC_draw_150 : decode prog_1_method_29_code 150 = .ok (.invokevirtual 88, 3) := by decide +kernel
theorem d_FC_draw_153 : decode prog_1_method_29_code 153 = .ok (.iinc 7 3, 3) := by decide +kernel
theorem d_FC_draw_156 : decode prog_1_method_29_code 156 = .ok (.iinc 8 1, 3) := by decide +kernel
theorem d_FC_draw_159 : decode prog_1_method_29_code 159 = .ok (.goto (-80), 3) := by decide +kernel
theorem d_FC_draw_162 : decode prog_1_method_29_code 162 = .ok (.aload_n 0, 1) := by decide +kernel
theorem d_FC_draw_163 : decode prog_1_method_29_code 163 = .ok (.invokevirtual 73, 3) := by decide +kernel
theorem d_FC_draw_166 : decode prog_1_method_29_code 166 = .ok (.ireturn, 1) := by decide +kernel
theorem d_FC_many_0 : decode prog_1_method_30_code 0 = .ok (.iload_n 1, 1) := by decide +kernel
theorem d_FC_many_1 : decode prog_1_method_30_code 1 = .ok (.tableswitch 54 0 3 #[31, 36, 41, 49], 31) := by decide +kernel
theorem d_FC_many_32 : decode prog_1_method_30_code 32 = .ok (.aload_n 0, 1) := by decide +kernel
theorem d_FC_many_33 : decode prog_1_method_30_code 33 = .ok (.getfield 98, 3) := by decide +kernel
theorem d_FC_many_36 : decode prog_1_method_30_code 36 = .ok (.ireturn, 1) := by decide +kernel
theorem d_FC_many_37 : decode prog_1_method_30_code 37 = .ok (.aload_n 0, 1) := by decide +kernel
theorem d_FC_many_38 : decode prog_1_method_30_code 38 = .ok (.invokevirtual 257, 3) := by decide +kernel
theorem d_FC_many_41 : decode prog_1_method_30_code 41 = .ok (.ireturn, 1) := by decide +kernel
theorem d_FC_many_42 : decode prog_1_method_30_code 42 = .ok (.aload_n 0, 1) := by decide +kernel
theorem d_FC_many_43 : decode prog_1_method_30_code 43 = .ok (.getfield 43, 3) := by decide +kernel
theorem d_FC_many_46 : decode prog_1_method_30_code 46 = .ok (.invokevirtual 200, 3) := by decide +kernel
theorem d_FC_many_49 : decode prog_1_method_30_code 49 = .ok (.ireturn, 1) := by decide +kernel
theorem d_FC_many_50 : decode prog_1_method_30_code 50 = .ok (.aload_n 0, 1) := by decide +kernel
theorem d_FC_many_51 : decode prog_1_method_30_code 51 = .ok (.invokevirtual 260, 3) := by decide +kernel
theorem d_FC_many_54 : decode prog_1_method_30_code 54 = .ok (.ireturn, 1) := by decide +kernel
theorem d_FC_many_55 : decode prog_1_method_30_code 55 = .ok (.iconst (-1), 1) := by decide +kernel
theorem d_FC_many_56 : decode prog_1_method_30_code 56 = .ok (.ireturn, 1) := by decide +kernel
theorem d_FC_isDegree_0 : decode prog_1_method_31_code 0 = .ok (.iload_n 0, 1) := by decide +kernel
theorem d_FC_isDegree_1 : decode prog_1_method_31_code 1 = .ok (.iconst 1, 1) := by decide +kernel
theorem d_FC_isDegree_2 : decode prog_1_method_31_code 2 = .ok (.if_icmp .lt 12, 3) := by decide +kernel
theorem d_FC_isDegree_5 : decode prog_1_method_31_code 5 = .ok (.iload_n 0, 1) := by decide +kernel
theorem d_FC_isDegree_6 : decode prog_1_method_31_code 6 = .ok (.iconst 4, 1) := by decide +kernel
theorem d_FC_isDegree_7 : decode prog_1_method_31_code 7 = .ok (.if_icmp .gt 7, 3) := by decide +kernel
theorem d_FC_isDegree_10 : decode prog_1_method_31_code 10 = .ok (.iconst 1, 1) := by decide +kernel
theorem d_FC_isDegree_11 : decode prog_1_method_31_code 11 = .ok (.goto 4, 3) := by decide +kernel
theorem d_FC_isDegree_14 : decode prog_1_method_31_code 14 = .ok (.iconst 0, 1) := by decide +kernel
theorem d_FC_isDegree_15 : decode prog_1_method_31_code 15 = .ok (.ireturn, 1) := by decide +kernel
theorem d_FC_pictureAt_0 : decode prog_1_method_32_code 0 = .ok (.iload_n 1, 1) := by decide +kernel
theorem d_FC_pictureAt_1 : decode prog_1_method_32_code 1 = .ok (.ifCond .lt 26, 3) := by decide +kernel
theorem d_FC_pictureAt_4 : decode prog_1_method_32_code 4 = .ok (.iload_n 1, 1) := by decide +kernel
theorem d_FC_pictureAt_5 : decode prog_1_method_32_code 5 = .ok (.aload_n 0, 1) := by decide +kernel
theorem d_FC_pictureAt_6 : decode prog_1_method_32_code 6 = .ok (.getfield 98, 3) := by decide +kernel
theorem d_FC_pictureAt_9 : decode prog_1_method_32_code 9 = .ok (.if_icmp .ge 18, 3) := by decide +kernel
theorem d_FC_pictureAt_12 : decode prog_1_method_32_code 12 = .ok (.iload_n 1, 1) := by decide +kernel
theorem d_FC_pictureAt_13 : decode prog_1_method_32_code 13 = .ok (.bipush 8, 2) := by decide +kernel
theorem d_FC_pictureAt_15 : decode prog_1_method_32_code 15 = .ok (.if_icmp .ge 12, 3) := by decide +kernel
theorem d_FC_pictureAt_18 : decode prog_1_method_32_code 18 = .ok (.aload_n 0, 1) := by decide +kernel
theorem d_FC_pictureAt_19 : decode prog_1_method_32_code 19 = .ok (.getfield 11, 3) := by decide +kernel
theorem d_FC_pictureAt_22 : decode prog_1_method_32_code 22 = .ok (.iload_n 1, 1) := by decide +kernel
theorem d_FC_pictureAt_23 : decode prog_1_method_32_code 23 = .ok (.aaload, 1) := by decide +kernel
theorem d_FC_pictureAt_24 : decode prog_1_method_32_code 24 = .ok (.goto 4, 3) := by decide +kernel
theorem d_FC_pictureAt_27 : decode prog_1_method_32_code 27 = .ok (.aconst_null, 1) := by decide +kernel
theorem d_FC_pictureAt_28 : decode prog_1_method_32_code 28 = .ok (.areturn, 1) := by decide +kernel
theorem d_FC_sheetAt_0 : decode prog_1_method_33_code 0 = .ok (.iload_n 1, 1) := by decide +kernel
theorem d_FC_sheetAt_1 : decode prog_1_method_33_code 1 = .ok (.ifCond .lt 17, 3) := by decide +kernel
theorem d_FC_sheetAt_4 : decode prog_1_method_33_code 4 = .ok (.iload_n 1, 1) := by decide +kernel
theorem d_FC_sheetAt_5 : decode prog_1_method_33_code 5 = .ok (.iconst 4, 1) := by decide +kernel
theorem d_FC_sheetAt_6 : decode prog_1_method_33_code 6 = .ok (.if_icmp .ge 12, 3) := by decide +kernel
theorem d_FC_sheetAt_9 : decode prog_1_method_33_code 9 = .ok (.aload_n 0, 1) := by decide +kernel
theorem d_FC_sheetAt_10 : decode prog_1_method_33_code 10 = .ok (.getfield 60, 3) := by decide +kernel
theorem d_FC_sheetAt_13 : decode prog_1_method_33_code 13 = .ok (.iload_n 1, 1) := by decide +kernel
theorem d_FC_sheetAt_14 : decode prog_1_method_33_code 14 = .ok (.aaload, 1) := by decide +kernel
theorem d_FC_sheetAt_15 : decode prog_1_method_33_code 15 = .ok (.goto 4, 3) := by decide +kernel
theorem d_FC_sheetAt_18 : decode prog_1_method_33_code 18 = .ok (.aconst_null, 1) := by decide +kernel
theorem d_FC_sheetAt_19 : decode prog_1_method_33_code 19 = .ok (.areturn, 1) := by decide +kernel
theorem d_FC_keepDraft_0 : decode prog_1_method_34_code 0 = .ok (.aload_n 0, 1) := by decide +kernel
theorem d_FC_keepDraft_1 : decode prog_1_method_34_code 1 = .ok (.getfield 98, 3) := by decide +kernel
theorem d_FC_keepDraft_4 : decode prog_1_method_34_code 4 = .ok (.ifCond .lt 24, 3) := by decide +kernel
theorem d_FC_keepDraft_7 : decode prog_1_method_34_code 7 = .ok (.aload_n 0, 1) := by decide +kernel
theorem d_FC_keepDraft_8 : decode prog_1_method_34_code 8 = .ok (.getfield 98, 3) := by decide +kernel
theorem d_FC_keepDraft_11 : decode prog_1_method_34_code 11 = .ok (.bipush 8, 2) := by decide +kernel
theorem d_FC_keepDraft_13 : decode prog_1_method_34_code 13 = .ok (.if_icmp .ge 15, 3) := by decide +kernel
theorem d_FC_keepDraft_16 : decode prog_1_method_34_code 16 = .ok (.aload_n 0, 1) := by decide +kernel
theorem d_FC_keepDraft_17 : decode prog_1_method_34_code 17 = .ok (.getfield 11, 3) := by decide +kernel
theorem d_FC_keepDraft_20 : decode prog_1_method_34_code 20 = .ok (.aload_n 0, 1) := by decide +kernel
theorem d_FC_keepDraft_21 : decode prog_1_method_34_code 21 = .ok (.getfield 98, 3) := by decide +kernel
theorem d_FC_keepDraft_24 : decode prog_1_method_34_code 24 = .ok (.aaload, 1) := by decide +kernel
theorem d_FC_keepDraft_25 : decode prog_1_method_34_code 25 = .ok (.goto 4, 3) := by decide +kernel
theorem d_FC_keepDraft_28 : decode prog_1_method_34_code 28 = .ok (.aconst_null, 1) := by decide +kernel
theorem d_FC_keepDraft_29 : decode prog_1_method_34_code 29 = .ok (.astore_n 1, 1) := by decide +kernel
theorem d_FC_keepDraft_30 : decode prog_1_method_34_code 30 = .ok (.aload_n 1, 1) := by decide +kernel
theorem d_FC_keepDraft_31 : decode prog_1_method_34_code 31 = .ok (.ifnonnull 6, 3) := by decide +kernel
theorem d_FC_keepDraft_34 : decode prog_1_method_34_code 34 = .ok (.bipush (-3), 2) := by decide +kernel
theorem d_FC_keepDraft_36 : decode prog_1_method_34_code 36 = .ok (.ireturn, 1) := by decide +kernel
theorem d_FC_keepDraft_37 : decode prog_1_method_34_code 37 = .ok (.aload_n 1, 1) := by decide +kernel
theorem d_FC_keepDraft_38 : decode prog_1_method_34_code 38 = .ok (.aload_n 0, 1) := by decide +kernel
theorem d_FC_keepDraft_39 : decode prog_1_method_34_code 39 = .ok (.getfield 16, 3) := by decide +kernel
theorem d_FC_keepDraft_42 : decode prog_1_method_34_code 42 = .ok (.invokevirtual 263, 3) := by decide +kernel
theorem d_FC_keepDraft_45 : decode prog_1_method_34_code 45 = .ok (.aload_n 0, 1) := by decide +kernel
theorem d_FC_keepDraft_46 : decode prog_1_method_34_code 46 = .ok (.dup, 1) := by decide +kernel
theorem d_FC_keepDraft_47 : decode prog_1_method_34_code 47 = .ok (.getfield 98, 3) := by decide +kernel
theorem d_FC_keepDraft_50 : decode prog_1_method_34_code 50 = .ok (.iconst 1, 1) := by decide +kernel
theorem d_FC_keepDraft_51 : decode prog_1_method_34_code 51 = .ok (.iadd, 1) := by decide +kernel
theorem d_FC_keepDraft_52 : decode prog_1_method_34_code 52 = .ok (.putfield 98, 3) := by decide +kernel
theorem d_FC_keepDraft_55 : decode prog_1_method_34_code 55 = .ok (.aload_n 0, 1) := by decide +kernel
theorem d_FC_keepDraft_56 : decode prog_1_method_34_code 56 = .ok (.getfield 98, 3) := by decide +kernel
theorem d_FC_keepDraft_59 : decode prog_1_method_34_code 59 = .ok (.iconst 1, 1) := by decide +kernel
theorem d_FC_keepDraft_60 : decode prog_1_method_34_code 60 = .ok (.isub, 1) := by decide +kernel
theorem d_FC_keepDraft_61 : decode prog_1_method_34_code 61 = .ok (.ireturn, 1) := by decide +kernel
theorem d_FC_catalogueOf_0 : decode prog_1_method_35_code 0 = .ok (.iload_n 1, 1) := by decide +kernel
theorem d_FC_catalogueOf_1 : decode prog_1_method_35_code 1 = .ok (.invokestatic 65, 3) := by decide +kernel
theorem d_FC_catalogueOf_4 : decode prog_1_method_35_code 4 = .ok (.ifCond .eq 13, 3) := by decide +kernel
theorem d_FC_catalogueOf_7 : decode prog_1_method_35_code 7 = .ok (.iload_n 2, 1) := by decide +kernel
theorem d_FC_catalogueOf_8 : decode prog_1_method_35_code 8 = .ok (.ifCond .lt 9, 3) := by decide +kernel
theorem d_FC_catalogueOf_11 : decode prog_1_method_35_code 11 = .ok (.iload_n 2, 1) := by decide +kernel
theorem d_FC_catalogueOf_12 : decode prog_1_method_35_code 12 = .ok (.bipush 6, 2) := by decide +kernel
theorem d_FC_catalogueOf_14 : decode prog_1_method_35_code 14 = .ok (.if_icmp .le 5, 3) := by decide +kernel
theorem d_FC_catalogueOf_17 : decode prog_1_method_35_code 17 = .ok (.aconst_null, 1) := by decide +kernel
theorem d_FC_catalogueOf_18 : decode prog_1_method_35_code 18 = .ok (.areturn, 1) := by decide +kernel
theorem d_FC_catalogueOf_19 : decode prog_1_method_35_code 19 = .ok (.aload_n 0, 1) := by decide +kernel
theorem d_FC_catalogueOf_20 : decode prog_1_method_35_code 20 = .ok (.getfield 36, 3) := by decide +kernel
theorem d_FC_catalogueOf_23 : decode prog_1_method_35_code 23 = .ok (.iload_n 1, 1) := by decide +kernel
theorem d_FC_catalogueOf_24 : decode prog_1_method_35_code 24 = .ok (.aaload, 1) := by decide +kernel
theorem d_FC_catalogueOf_25 : decode prog_1_method_35_code 25 = .ok (.ifnonnull 17, 3) := by decide +kernel
theorem d_FC_catalogueOf_28 : decode prog_1_method_35_code 28 = .ok (.aload_n 0, 1) := by decide +kernel
theorem d_FC_catalogueOf_29 : decode prog_1_method_35_code 29 = .ok (.getfield 36, 3) := by decide +kernel
theorem d_FC_catalogueOf_32 : decode prog_1_method_35_code 32 = .ok (.iload_n 1, 1) := by decide +kernel
theorem d_FC_catalogueOf_33 : decode prog_1_method_35_code 33 = .ok (.new 34, 3) := by decide +kernel
theorem d_FC_catalogueOf_36 : decode prog_1_method_35_code 36 = .ok (.dup, 1) := by decide +kernel
theorem d_FC_catalogueOf_37 : decode prog_1_method_35_code 37 = .ok (.iload_n 1, 1) := by decide +kernel
theorem d_FC_catalogueOf_38 : decode prog_1_method_35_code 38 = .ok (.invokespecial 266, 3) := by decide +kernel
theorem d_FC_catalogueOf_41 : decode prog_1_method_35_code 41 = .ok (.aastore, 1) := by decide +kernel
theorem d_FC_catalogueOf_42 : decode prog_1_method_35_code 42 = .ok (.aload_n 0, 1) := by decide +kernel
theorem d_FC_catalogueOf_43 : decode prog_1_method_35_code 43 = .ok (.getfield 36, 3) := by decide +kernel
theorem d_FC_catalogueOf_46 : decode prog_1_method_35_code 46 = .ok (.iload_n 1, 1) := by decide +kernel
theorem d_FC_catalogueOf_47 : decode prog_1_method_35_code 47 = .ok (.aaload, 1) := by decide +kernel
theorem d_FC_catalogueOf_48 : decode prog_1_method_35_code 48 = .ok (.areturn, 1) := by decide +kernel
theorem d_FC_cellsOfFirstSheet_0 : decode prog_1_method_36_code 0 = .ok (.aload_n 0, 1) := by decide +kernel
theorem d_FC_cellsOfFirstSheet_1 : decode prog_1_method_36_code 1 = .ok (.iconst 0, 1) := by decide +kernel
theorem d_FC_cellsOfFirstSheet_2 : decode prog_1_method_36_code 2 = .ok (.invokevirtual 229, 3) := by decide +kernel
theorem d_FC_cellsOfFirstSheet_5 : decode prog_1_method_36_code 5 = .ok (.astore_n 1, 1) := by decide +kernel
theorem d_FC_cellsOfFirstSheet_6 : decode prog_1_method_36_code 6 = .ok (.aload_n 1, 1) := by decide +kernel
theorem d_FC_cellsOfFirstSheet_7 : decode prog_1_method_36_code 7 = .ok (.ifnull 10, 3) := by decide +kernel
theorem d_FC_cellsOfFirstSheet_10 : decode prog_1_method_36_code 10 = .ok (.aload_n 1, 1) := by decide +kernel
theorem d_FC_cellsOfFirstSheet_11 : decode prog_1_method_36_code 11 = .ok (.invokevirtual 240, 3) := by decide +kernel
theorem d_FC_cellsOfFirstSheet_14 : decode prog_1_method_36_code 14 = .ok (.ifCond .eq 8, 3) := by decide +kernel
theorem d_FC_cellsOfFirstSheet_17 : decode prog_1_method_36_code 17 = .ok (.bipush (-4), 2) := by decide +kernel
theorem d_FC_cellsOfFirstSheet_19 : decode prog_1_method_36_code 19 = .ok (.goto 7, 3) := by decide +kernel
theorem d_FC_cellsOfFirstSheet_22 : decode prog_1_method_36_code 22 = .ok (.aload_n 1, 1) := by decide +kernel
theorem d_FC_cellsOfFirstSheet_23 : decode prog_1_method_36_code 23 = .ok (.invokevirtual 268, 3) := by decide +kernel
theorem d_FC_cellsOfFirstSheet_26 : decode prog_1_method_36_code 26 = .ok (.ireturn, 1) := by decide +kernel
theorem d_FC_stairsOfAll_0 : decode prog_1_method_37_code 0 = .ok (.iconst 0, 1) := by decide +kernel
theorem d_FC_stairsOfAll_1 : decode prog_1_method_37_code 1 = .ok (.istore_n 1, 1) := by decide +kernel
theorem d_FC_stairsOfAll_2 : decode prog_1_method_37_code 2 = .ok (.iconst 0, 1) := by decide +kernel
theorem d_FC_stairsOfAll_3 : decode prog_1_method_37_code 3 = .ok (.istore_n 2, 1) := by decide +kernel
theorem d_FC_stairsOfAll_4 : decode prog_1_method_37_code 4 = .ok (.iload_n 2, 1) := by decide +kernel
theorem d_FC_stairsOfAll_5 : decode prog_1_method_37_code 5 = .ok (.aload_n 0, 1) := by decide +kernel
theorem d_FC_stairsOfAll_6 : decode prog_1_method_37_code 6 = .ok (.getfield 98, 3) := by decide +kernel
theorem d_FC_stairsOfAll_9 : decode prog_1_method_37_code 9 = .ok (.if_icmp .ge 30, 3) := by decide +kernel
theorem d_FC_stairsOfAll_12 : decode prog_1_method_37_code 12 = .ok (.aload_n 0, 1) := by decide +kernel
theorem d_FC_stairsOfAll_13 : decode prog_1_method_37_code 13 = .ok (.iload_n 2, 1) := by decide +kernel
theorem d_FC_stairsOfAll_14 : decode prog_1_method_37_code 14 = .ok (.invokevirtual 77, 3) := by decide +kernel
theorem d_FC_stairsOfAll_17 : decode prog_1_method_37_code 17 = .ok (.astore_n 3, 1) := by decide +kernel
theorem d_FC_stairsOfAll_18 : decode prog_1_method_37_code 18 = .ok (.iload_n 1, 1) := by decide +kernel
theorem d_FC_stairsOfAll_19 : decode prog_1_method_37_code 19 = .ok (.aload_n 3, 1) := by decide +kernel
theorem d_FC_stairsOfAll_20 : decode prog_1_method_37_code 20 = .ok (.ifnonnull 7, 3) := by decide +kernel
theorem d_FC_stairsOfAll_23 : decode prog_1_method_37_code 23 = .ok (.iconst 0, 1) := by decide +kernel
theorem d_FC_stairsOfAll_24 : decode prog_1_method_37_code 24 = .ok (.goto 7, 3) := by decide +kernel
theorem d_FC_stairsOfAll_27 : decode prog_1_method_37_code 27 = .ok (.aload_n 3, 1) := by decide +kernel
theorem d_FC_stairsOfAll_28 : decode prog_1_method_37_code 28 = .ok (.invokevirtual 85, 3) := by decide +kernel
theorem d_FC_stairsOfAll_31 : decode prog_1_method_37_code 31 = .ok (.iadd, 1) := by decide +kernel
theorem d_FC_stairsOfAll_32 : decode prog_1_method_37_code 32 = .ok (.istore_n 1, 1) := by decide +kernel
theorem d_FC_stairsOfAll_33 : decode prog_1_method_37_code 33 = .ok (.iinc 2 1, 3) := by decide +kernel
theorem d_FC_stairsOfAll_36 : decode prog_1_method_37_code 36 = .ok (.goto (-32), 3) := by decide +kernel
theorem d_FC_stairsOfAll_39 : decode prog_1_method_37_code 39 = .ok (.iload_n 1, 1) := by decide +kernel
theorem d_FC_stairsOfAll_40 : decode prog_1_method_37_code 40 = .ok (.ireturn, 1) := by decide +kernel
theorem d_FC_splitsOf_0 : decode prog_1_method_38_code 0 = .ok (.iconst 3, 1) := by decide +kernel
theorem d_FC_splitsOf_1 : decode prog_1_method_38_code 1 = .ok (.iload_n 0, 1) := by decide +kernel
theorem d_FC_splitsOf_2 : decode prog_1_method_38_code 2 = .ok (.iload_n 1, 1) := by decide +kernel
theorem d_FC_splitsOf_3 : decode prog_1_method_38_code 3 = .ok (.iadd, 1) := by decide +kernel
theorem d_FC_splitsOf_4 : decode prog_1_method_38_code 4 = .ok (.imul, 1) := by decide +kernel
theorem d_FC_splitsOf_5 : decode prog_1_method_38_code 5 = .ok (.iconst 4, 1) := by decide +kernel
theorem d_FC_splitsOf_6 : decode prog_1_method_38_code 6 = .ok (.isub, 1) := by decide +kernel
theorem d_FC_splitsOf_7 : decode prog_1_method_38_code 7 = .ok (.istore_n 2, 1) := by decide +kernel
theorem d_FC_splitsOf_8 : decode prog_1_method_38_code 8 = .ok (.iload_n 1, 1) := by decide +kernel
theorem d_FC_splitsOf_9 : decode prog_1_method_38_code 9 = .ok (.i2l, 1) := by decide +kernel
theorem d_FC_splitsOf_10 : decode prog_1_method_38_code 10 = .ok (.iload_n 2, 1) := by decide +kernel
theorem d_FC_splitsOf_11 : decode prog_1_method_38_code 11 = .ok (.iconst 3, 1) := by decide +kernel
theorem d_FC_splitsOf_12 : decode prog_1_method_38_code 12 = .ok (.iload_n 0, 1) := by decide +kernel
theorem d_FC_splitsOf_13 : decode prog_1_method_38_code 13 = .ok (.imul, 1) := by decide +kernel
theorem d_FC_splitsOf_14 : decode prog_1_method_38_code 14 = .ok (.iconst 2, 1) := by decide +kernel
theorem d_FC_splitsOf_15 : decode prog_1_method_38_code 15 = .ok (.isub, 1) := by decide +kernel
theorem d_FC_splitsOf_16 : decode prog_1_method_38_code 16 = .ok (.invokestatic 269, 3) := by decide +kernel
theorem d_FC_splitsOf_19 : decode prog_1_method_38_code 19 = .ok (.lmul, 1) := by decide +kernel
theorem d_FC_splitsOf_20 : decode prog_1_method_38_code 20 = .ok (.iload_n 0, 1) := by decide +kernel
theorem d_FC_splitsOf_21 : decode prog_1_method_38_code 21 = .ok (.i2l, 1) := by decide +kernel
theorem d_FC_splitsOf_22 : decode prog_1_method_38_code 22 = .ok (.iload_n 2, 1) := by decide +kernel
theorem d_FC_splitsOf_23 : decode prog_1_method_38_code 23 = .ok (.iconst 3, 1) := by decide +kernel
theorem d_FC_splitsOf_24 : decode prog_1_method_38_code 24 = .ok (.iload_n 0, 1) := by decide +kernel
theorem d_FC_splitsOf_25 : decode prog_1_method_38_code 25 = .ok (.imul, 1) := by decide +kernel
theorem d_FC_splitsOf_26 : decode prog_1_method_38_code 26 = .ok (.iconst 1, 1) := by decide +kernel
theorem d_FC_splitsOf_27 : decode prog_1_method_38_code 27 = .ok (.isub, 1) := by decide +kernel
theorem d_FC_splitsOf_28 : decode prog_1_method_38_code 28 = .ok (.invokestatic 269, 3) := by decide +kernel
theorem d_FC_splitsOf_31 : decode prog_1_method_38_code 31 = .ok (.lmul, 1) := by decide +kernel
theorem d_FC_splitsOf_32 : decode prog_1_method_38_code 32 = .ok (.lsub, 1) := by decide +kernel
theorem d_FC_splitsOf_33 : decode prog_1_method_38_code 33 = .ok (.lstore_n 3, 1) := by decide +kernel
theorem d_FC_splitsOf_34 : decode prog_1_method_38_code 34 = .ok (.lload_n 3, 1) := by decide +kernel
theorem d_FC_splitsOf_35 : decode prog_1_method_38_code 35 = .ok (.iload_n 0, 1) := by decide +kernel
theorem d_FC_splitsOf_36 : decode prog_1_method_38_code 36 = .ok (.i2l, 1) := by decide +kernel
theorem d_FC_splitsOf_37 : decode prog_1_method_38_code 37 = .ok (.lmul, 1) := by decide +kernel
theorem d_FC_splitsOf_38 : decode prog_1_method_38_code 38 = .ok (.iload_n 0, 1) := by decide +kernel
theorem d_FC_splitsOf_39 : decode prog_1_method_38_code 39 = .ok (.i2l, 1) := by decide +kernel
theorem d_FC_splitsOf_40 : decode prog_1_method_38_code 40 = .ok (.lmul, 1) := by decide +kernel
theorem d_FC_splitsOf_41 : decode prog_1_method_38_code 41 = .ok (.iload_n 1, 1) := by decide +kernel
theorem d_FC_splitsOf_42 : decode prog_1_method_38_code 42 = .ok (.i2l, 1) := by decide +kernel
theorem d_FC_splitsOf_43 : decode prog_1_method_38_code 43 = .ok (.lmul, 1) := by decide +kernel
theorem d_FC_splitsOf_44 : decode prog_1_method_38_code 44 = .ok (.lreturn, 1) := by decide +kernel
theorem d_FC_choose_0 : decode prog_1_method_39_code 0 = .ok (.iload_n 1, 1) := by decide +kernel
theorem d_FC_choose_1 : decode prog_1_method_39_code 1 = .ok (.ifCond .lt 8, 3) := by decide +kernel
theorem d_FC_choose_4 : decode prog_1_method_39_code 4 = .ok (.iload_n 1, 1) := by decide +kernel
theorem d_FC_choose_5 : decode prog_1_method_39_code 5 = .ok (.iload_n 0, 1) := by decide +kernel
theorem d_FC_choose_6 : decode prog_1_method_39_code 6 = .ok (.if_icmp .le 5, 3) := by decide +kernel
theorem d_FC_choose_9 : decode prog_1_method_39_code 9 = .ok (.lconst 0, 1) := by decide +kernel
theorem d_FC_choose_10 : decode prog_1_method_39_code 10 = .ok (.lreturn, 1) := by decide +kernel
theorem d_FC_choose_11 : decode prog_1_method_39_code 11 = .ok (.lconst 1, 1) := by decide +kernel
theorem d_FC_choose_12 : decode prog_1_method_39_code 12 = .ok (.lstore_n 2, 1) := by decide +kernel
theorem d_FC_choose_13 : decode prog_1_method_39_code 13 = .ok (.iconst 1, 1) := by decide +kernel
theorem d_FC_choose_14 : decode prog_1_method_39_code 14 = .ok (.istore 4, 2) := by decide +kernel
theorem d_FC_choose_16 : decode prog_1_method_39_code 16 = .ok (.iload 4, 2) := by decide +kernel
theorem d_FC_choose_18 : decode prog_1_method_39_code 18 = .ok (.iload_n 1, 1) := by decide +kernel
theorem d_FC_choose_19 : decode prog_1_method_39_code 19 = .ok (.if_icmp .gt 23, 3) := by decide +kernel
theorem d_FC_choose_22 : decode prog_1_method_39_code 22 = .ok (.lload_n 2, 1) := by decide +kernel
theorem d_FC_choose_23 : decode prog_1_method_39_code 23 = .ok (.iload_n 0, 1) := by decide +kernel
theorem d_FC_choose_24 : decode prog_1_method_39_code 24 = .ok (.iload_n 1, 1) := by decide +kernel
theorem d_FC_choose_25 : decode prog_1_method_39_code 25 = .ok (.isub, 1) := by decide +kernel
theorem d_FC_choose_26 : decode prog_1_method_39_code 26 = .ok (.iload 4, 2) := by decide +kernel
theorem d_FC_choose_28 : decode prog_1_method_39_code 28 = .ok (.iadd, 1) := by decide +kernel
theorem d_FC_choose_29 : decode prog_1_method_39_code 29 = .ok (.i2l, 1) := by decide +kernel
theorem d_FC_choose_30 : decode prog_1_method_39_code 30 = .ok (.lmul, 1) := by decide +kernel
theorem d_FC_choose_31 : decode prog_1_method_39_code 31 = .ok (.iload 4, 2) := by decide +kernel
theorem d_FC_choose_33 : decode prog_1_method_39_code 33 = .ok (.i2l, 1) := by decide +kernel
theorem d_FC_choose_34 : decode prog_1_method_39_code 34 = .ok (.ldiv, 1) := by decide +kernel
theorem d_FC_choose_35 : decode prog_1_method_39_code 35 = .ok (.lstore_n 2, 1) := by decide +kernel
theorem d_FC_choose_36 : decode prog_1_method_39_code 36 = .ok (.iinc 4 1, 3) := by decide +kernel
theorem d_FC_choose_39 : decode prog_1_method_39_code 39 = .ok (.goto (-23), 3) := by decide +kernel
theorem d_FC_choose_42 : decode prog_1_method_39_code 42 = .ok (.lload_n 2, 1) := by decide +kernel
theorem d_FC_choose_43 : decode prog_1_method_39_code 43 = .ok (.lreturn, 1) := by decide +kernel
theorem d_FC_fromOf_0 : decode prog_1_method_40_code 0 = .ok (.iload_n 0, 1) := by decide +kernel
theorem d_FC_fromOf_1 : decode prog_1_method_40_code 1 = .ok (.ifCond .lt 19, 3) := by decide +kernel
theorem d_FC_fromOf_4 : decode prog_1_method_40_code 4 = .ok (.iload_n 0, 1) := by decide +kernel
theorem d_FC_fromOf_5 : decode prog_1_method_40_code 5 = .ok (.bipush 24, 2) := by decide +kernel
theorem d_FC_fromOf_7 : decode prog_1_method_40_code 7 = .ok (.if_icmp .ge 13, 3) := by decide +kernel
theorem d_FC_fromOf_10 : decode prog_1_method_40_code 10 = .ok (.getstatic 272, 3) := by decide +kernel
theorem d_FC_fromOf_13 : decode prog_1_method_40_code 13 = .ok (.iload_n 0, 1) := by decide +kernel
theorem d_FC_fromOf_14 : decode prog_1_method_40_code 14 = .ok (.iconst 4, 1) := by decide +kernel
theorem d_FC_fromOf_15 : decode prog_1_method_40_code 15 = .ok (.idiv, 1) := by decide +kernel
theorem d_FC_fromOf_16 : decode prog_1_method_40_code 16 = .ok (.iaload, 1) := by decide +kernel
theorem d_FC_fromOf_17 : decode prog_1_method_40_code 17 = .ok (.goto 4, 3) := by decide +kernel
theorem d_FC_fromOf_20 : decode prog_1_method_40_code 20 = .ok (.iconst 0, 1) := by decide +kernel
theorem d_FC_fromOf_21 : decode prog_1_method_40_code 21 = .ok (.ireturn, 1) := by decide +kernel
theorem d_FC_toOf_0 : decode prog_1_method_41_code 0 = .ok (.iload_n 0, 1) := by decide +kernel
theorem d_FC_toOf_1 : decode prog_1_method_41_code 1 = .ok (.ifCond .lt 19, 3) := by decide +kernel
theorem d_FC_toOf_4 : decode prog_1_method_41_code 4 = .ok (.iload_n 0, 1) := by decide +kernel
theorem d_FC_toOf_5 : decode prog_1_method_41_code 5 = .ok (.bipush 24, 2) := by decide +kernel
theorem d_FC_toOf_7 : decode prog_1_method_41_code 7 = .ok (.if_icmp .ge 13, 3) := by decide +kernel
theorem d_FC_toOf_10 : decode prog_1_method_41_code 10 = .ok (.getstatic 276, 3) := by decide +kernel
theorem d_FC_toOf_13 : decode prog_1_method_41_code 13 = .ok (.iload_n 0, 1) := by decide +kernel
theorem d_FC_toOf_14 : decode prog_1_method_41_code 14 = .ok (.iconst 4, 1) := by decide +kernel
theorem d_FC_toOf_15 : decode prog_1_method_41_code 15 = .ok (.idiv, 1) := by decide +kernel
theorem d_FC_toOf_16 : decode prog_1_method_41_code 16 = .ok (.iaload, 1) := by decide +kernel
theorem d_FC_toOf_17 : decode prog_1_method_41_code 17 = .ok (.goto 4, 3) := by decide +kernel
theorem d_FC_toOf_20 : decode prog_1_method_41_code 20 = .ok (.iconst 0, 1) := by decide +kernel
theorem d_FC_toOf_21 : decode prog_1_method_41_code 21 = .ok (.ireturn, 1) := by decide +kernel
theorem d_FC_weightOf_0 : decode prog_1_method_42_code 0 = .ok (.iload_n 0, 1) := by decide +kernel
theorem d_FC_weightOf_1 : decode prog_1_method_42_code 1 = .ok (.ifCond .lt 17, 3) := by decide +kernel
theorem d_FC_weightOf_4 : decode prog_1_method_42_code 4 = .ok (.iload_n 0, 1) := by decide +kernel
theorem d_FC_weightOf_5 : decode prog_1_method_42_code 5 = .ok (.bipush 24, 2) := by decide +kernel
theorem d_FC_weightOf_7 : decode prog_1_method_42_code 7 = .ok (.if_icmp .ge 11, 3) := by decide +kernel
theorem d_FC_weightOf_10 : decode prog_1_method_42_code 10 = .ok (.iload_n 0, 1) := by decide +kernel
theorem d_FC_weightOf_11 : decode prog_1_method_42_code 11 = .ok (.iconst 4, 1) := by decide +kernel
theorem d_FC_weightOf_12 : decode prog_1_method_42_code 12 = .ok (.irem, 1) := by decide +kernel
theorem d_FC_weightOf_13 : decode prog_1_method_42_code 13 = .ok (.iconst 1, 1) := by decide +kernel
theorem d_FC_weightOf_14 : decode prog_1_method_42_code 14 = .ok (.iadd, 1) := by decide +kernel
theorem d_FC_weightOf_15 : decode prog_1_method_42_code 15 = .ok (.goto 4, 3) := by decide +kernel
theorem d_FC_weightOf_18 : decode prog_1_method_42_code 18 = .ok (.iconst 1, 1) := by decide +kernel
theorem d_FC_weightOf_19 : decode prog_1_method_42_code 19 = .ok (.ireturn, 1) := by decide +kernel
