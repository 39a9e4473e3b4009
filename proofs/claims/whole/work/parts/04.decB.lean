theorem dX7_init_0 : decode cX7_init 0 = .ok (.aload_n 0, 1) := by decide +kernel
theorem dX7_init_1 : decode cX7_init 1 = .ok (.invokespecial 1, 3) := by decide +kernel
theorem dX7_init_4 : decode cX7_init 4 = .ok (.aload_n 0, 1) := by decide +kernel
theorem dX7_init_5 : decode cX7_init 5 = .ok (.new 7, 3) := by decide +kernel
theorem dX7_init_8 : decode cX7_init 8 = .ok (.dup, 1) := by decide +kernel
theorem dX7_init_9 : decode cX7_init 9 = .ok (.bipush 6, 2) := by decide +kernel
theorem dX7_init_11 : decode cX7_init 11 = .ok (.bipush 40, 2) := by decide +kernel
theorem dX7_init_13 : decode cX7_init 13 = .ok (.invokespecial 11, 3) := by decide +kernel
theorem dX7_init_16 : decode cX7_init 16 = .ok (.putfield 14, 3) := by decide +kernel
theorem dX7_init_19 : decode cX7_init 19 = .ok (.aload_n 0, 1) := by decide +kernel
theorem dX7_init_20 : decode cX7_init 20 = .ok (.new 7, 3) := by decide +kernel
theorem dX7_init_23 : decode cX7_init 23 = .ok (.dup, 1) := by decide +kernel
theorem dX7_init_24 : decode cX7_init 24 = .ok (.iconst 4, 1) := by decide +kernel
theorem dX7_init_25 : decode cX7_init 25 = .ok (.bipush 120, 2) := by decide +kernel
theorem dX7_init_27 : decode cX7_init 27 = .ok (.invokespecial 11, 3) := by decide +kernel
theorem dX7_init_30 : decode cX7_init 30 = .ok (.putfield 18, 3) := by decide +kernel
theorem dX7_init_33 : decode cX7_init 33 = .ok (.aload_n 0, 1) := by decide +kernel
theorem dX7_init_34 : decode cX7_init 34 = .ok (.new 21, 3) := by decide +kernel
theorem dX7_init_37 : decode cX7_init 37 = .ok (.dup, 1) := by decide +kernel
theorem dX7_init_38 : decode cX7_init 38 = .ok (.invokespecial 23, 3) := by decide +kernel
theorem dX7_init_41 : decode cX7_init 41 = .ok (.putfield 24, 3) := by decide +kernel
theorem dX7_init_44 : decode cX7_init 44 = .ok (.aload_n 0, 1) := by decide +kernel
theorem dX7_init_45 : decode cX7_init 45 = .ok (.new 21, 3) := by decide +kernel
theorem dX7_init_48 : decode cX7_init 48 = .ok (.dup, 1) := by decide +kernel
theorem dX7_init_49 : decode cX7_init 49 = .ok (.invokespecial 23, 3) := by decide +kernel
theorem dX7_init_52 : decode cX7_init 52 = .ok (.putfield 28, 3) := by decide +kernel
theorem dX7_init_55 : decode cX7_init 55 = .ok (.aload_n 0, 1) := by decide +kernel
theorem dX7_init_56 : decode cX7_init 56 = .ok (.new 31, 3) := by decide +kernel
theorem dX7_init_59 : decode cX7_init 59 = .ok (.dup, 1) := by decide +kernel
theorem dX7_init_60 : decode cX7_init 60 = .ok (.invokespecial 33, 3) := by decide +kernel
theorem dX7_init_63 : decode cX7_init 63 = .ok (.putfield 34, 3) := by decide +kernel
theorem dX7_init_66 : decode cX7_init 66 = .ok (.aload_n 0, 1) := by decide +kernel
theorem dX7_init_67 : decode cX7_init 67 = .ok (.new 38, 3) := by decide +kernel
theorem dX7_init_70 : decode cX7_init 70 = .ok (.dup, 1) := by decide +kernel
theorem dX7_init_71 : decode cX7_init 71 = .ok (.invokespecial 40, 3) := by decide +kernel
theorem dX7_init_74 : decode cX7_init 74 = .ok (.putfield 41, 3) := by decide +kernel
theorem dX7_init_77 : decode cX7_init 77 = .ok (.aload_n 0, 1) := by decide +kernel
theorem dX7_init_78 : decode cX7_init 78 = .ok (.new 45, 3) := by decide +kernel
theorem dX7_init_81 : decode cX7_init 81 = .ok (.dup, 1) := by decide +kernel
theorem dX7_init_82 : decode cX7_init 82 = .ok (.invokespecial 47, 3) := by decide +kernel
theorem dX7_init_85 : decode cX7_init 85 = .ok (.putfield 48, 3) := by decide +kernel
theorem dX7_init_88 : decode cX7_init 88 = .ok (.aload_n 0, 1) := by decide +kernel
theorem dX7_init_89 : decode cX7_init 89 = .ok (.new 52, 3) := by decide +kernel
theorem dX7_init_92 : decode cX7_init 92 = .ok (.dup, 1) := by decide +kernel
theorem dX7_init_93 : decode cX7_init 93 = .ok (.invokespecial 54, 3) := by decide +kernel
theorem dX7_init_96 : decode cX7_init 96 = .ok (.putfield 55, 3) := by decide +kernel
theorem dX7_init_99 : decode cX7_init 99 = .ok (.aload_n 0, 1) := by decide +kernel
theorem dX7_init_100 : decode cX7_init 100 = .ok (.bipush 6, 2) := by decide +kernel
theorem dX7_init_102 : decode cX7_init 102 = .ok (.newarray .int, 2) := by decide +kernel
theorem dX7_init_104 : decode cX7_init 104 = .ok (.putfield 59, 3) := by decide +kernel
theorem dX7_init_107 : decode cX7_init 107 = .ok (.aload_n 0, 1) := by decide +kernel
theorem dX7_init_108 : decode cX7_init 108 = .ok (.new 63, 3) := by decide +kernel
theorem dX7_init_111 : decode cX7_init 111 = .ok (.dup, 1) := by decide +kernel
theorem dX7_init_112 : decode cX7_init 112 = .ok (.invokespecial 65, 3) := by decide +kernel
theorem dX7_init_115 : decode cX7_init 115 = .ok (.putfield 66, 3) := by decide +kernel
theorem dX7_init_118 : decode cX7_init 118 = .ok (.aload_n 0, 1) := by decide +kernel
theorem dX7_init_119 : decode cX7_init 119 = .ok (.new 63, 3) := by decide +kernel
theorem dX7_init_122 : decode cX7_init 122 = .ok (.dup, 1) := by decide +kernel
theorem dX7_init_123 : decode cX7_init 123 = .ok (.invokespecial 65, 3) := by decide +kernel
theorem dX7_init_126 : decode cX7_init 126 = .ok (.putfield 70, 3) := by decide +kernel
theorem dX7_init_129 : decode cX7_init 129 = .ok (.aload_n 0, 1) := by decide +kernel
theorem dX7_init_130 : decode cX7_init 130 = .ok (.iconst 0, 1) := by decide +kernel
theorem dX7_init_131 : decode cX7_init 131 = .ok (.putfield 73, 3) := by decide +kernel
theorem dX7_init_134 : decode cX7_init 134 = .ok (.aload_n 0, 1) := by decide +kernel
theorem dX7_init_135 : decode cX7_init 135 = .ok (.iconst 0, 1) := by decide +kernel
theorem dX7_init_136 : decode cX7_init 136 = .ok (.putfield 77, 3) := by decide +kernel
theorem dX7_init_139 : decode cX7_init 139 = .ok (.aload_n 0, 1) := by decide +kernel
theorem dX7_init_140 : decode cX7_init 140 = .ok (.lconst 0, 1) := by decide +kernel
theorem dX7_init_141 : decode cX7_init 141 = .ok (.putfield 80, 3) := by decide +kernel
theorem dX7_init_144 : decode cX7_init 144 = .ok (.aload_n 0, 1) := by decide +kernel
theorem dX7_init_145 : decode cX7_init 145 = .ok (.lconst 1, 1) := by decide +kernel
theorem dX7_init_146 : decode cX7_init 146 = .ok (.putfield 84, 3) := by decide +kernel
theorem dX7_init_149 : decode cX7_init 149 = .ok (.return_, 1) := by decide +kernel
theorem dX7_row_0 : decode cX7_row 0 = .ok (.aload_n 0, 1) := by decide +kernel
theorem dX7_row_1 : decode cX7_row 1 = .ok (.aload_n 0, 1) := by decide +kernel
theorem dX7_row_2 : decode cX7_row 2 = .ok (.getfield 14, 3) := by decide +kernel
theorem dX7_row_5 : decode cX7_row 5 = .ok (.iload_n 1, 1) := by decide +kernel
theorem dX7_row_6 : decode cX7_row 6 = .ok (.iload_n 2, 1) := by decide +kernel
theorem dX7_row_7 : decode cX7_row 7 = .ok (.iconst 0, 1) := by decide +kernel
theorem dX7_row_8 : decode cX7_row 8 = .ok (.invokevirtual 87, 3) := by decide +kernel
theorem dX7_row_11 : decode cX7_row 11 = .ok (.ireturn, 1) := by decide +kernel
theorem dX7_lay_0 : decode cX7_lay 0 = .ok (.aload_n 0, 1) := by decide +kernel
theorem dX7_lay_1 : decode cX7_lay 1 = .ok (.aload_n 0, 1) := by decide +kernel
theorem dX7_lay_2 : decode cX7_lay 2 = .ok (.getfield 14, 3) := by decide +kernel
theorem dX7_lay_5 : decode cX7_lay 5 = .ok (.iload_n 1, 1) := by decide +kernel
theorem dX7_lay_6 : decode cX7_lay 6 = .ok (.iload_n 2, 1) := by decide +kernel
theorem dX7_lay_7 : decode cX7_lay 7 = .ok (.invokevirtual 91, 3) := by decide +kernel
theorem dX7_lay_10 : decode cX7_lay 10 = .ok (.istore 4, 2) := by decide +kernel
theorem dX7_lay_12 : decode cX7_lay 12 = .ok (.iload 4, 2) := by decide +kernel
theorem dX7_lay_14 : decode cX7_lay 14 = .ok (.ifCond .eq 6, 3) := by decide +kernel
theorem dX7_lay_17 : decode cX7_lay 17 = .ok (.iload 4, 2) := by decide +kernel
theorem dX7_lay_19 : decode cX7_lay 19 = .ok (.ireturn, 1) := by decide +kernel
theorem dX7_lay_20 : decode cX7_lay 20 = .ok (.aload_n 0, 1) := by decide +kernel
theorem dX7_lay_21 : decode cX7_lay 21 = .ok (.getfield 14, 3) := by decide +kernel
theorem dX7_lay_24 : decode cX7_lay 24 = .ok (.iload_n 1, 1) := by decide +kernel
theorem dX7_lay_25 : decode cX7_lay 25 = .ok (.iload_n 2, 1) := by decide +kernel
theorem dX7_lay_26 : decode cX7_lay 26 = .ok (.invokevirtual 95, 3) := by decide +kernel
theorem dX7_lay_29 : decode cX7_lay 29 = .ok (.istore 5, 2) := by decide +kernel
theorem dX7_lay_31 : decode cX7_lay 31 = .ok (.aload_n 0, 1) := by decide +kernel
theorem dX7_lay_32 : decode cX7_lay 32 = .ok (.getfield 14, 3) := by decide +kernel
theorem dX7_lay_35 : decode cX7_lay 35 = .ok (.iload_n 1, 1) := by decide +kernel
theorem dX7_lay_36 : decode cX7_lay 36 = .ok (.iload_n 2, 1) := by decide +kernel
theorem dX7_lay_37 : decode cX7_lay 37 = .ok (.iload_n 3, 1) := by decide +kernel
theorem dX7_lay_38 : decode cX7_lay 38 = .ok (.invokevirtual 99, 3) := by decide +kernel
theorem dX7_lay_41 : decode cX7_lay 41 = .ok (.aload_n 0, 1) := by decide +kernel
theorem dX7_lay_42 : decode cX7_lay 42 = .ok (.iload 5, 2) := by decide +kernel
theorem dX7_lay_44 : decode cX7_lay 44 = .ok (.invokevirtual 103, 3) := by decide +kernel
theorem dX7_lay_47 : decode cX7_lay 47 = .ok (.ireturn, 1) := by decide +kernel
theorem dX7_at_0 : decode cX7_at 0 = .ok (.aload_n 0, 1) := by decide +kernel
theorem dX7_at_1 : decode cX7_at 1 = .ok (.aload_n 0, 1) := by decide +kernel
theorem dX7_at_2 : decode cX7_at 2 = .ok (.getfield 14, 3) := by decide +kernel
theorem dX7_at_5 : decode cX7_at 5 = .ok (.iload_n 1, 1) := by decide +kernel
theorem dX7_at_6 : decode cX7_at 6 = .ok (.iload_n 2, 1) := by decide +kernel
theorem dX7_at_7 : decode cX7_at 7 = .ok (.invokevirtual 91, 3) := by decide +kernel
theorem dX7_at_10 : decode cX7_at 10 = .ok (.istore_n 3, 1) := by decide +kernel
theorem dX7_at_11 : decode cX7_at 11 = .ok (.iload_n 3, 1) := by decide +kernel
theorem dX7_at_12 : decode cX7_at 12 = .ok (.ifCond .eq 7, 3) := by decide +kernel
theorem dX7_at_15 : decode cX7_at 15 = .ok (.iload_n 3, 1) := by decide +kernel
theorem dX7_at_16 : decode cX7_at 16 = .ok (.goto 16, 3) := by decide +kernel
theorem dX7_at_19 : decode cX7_at 19 = .ok (.aload_n 0, 1) := by decide +kernel
theorem dX7_at_20 : decode cX7_at 20 = .ok (.aload_n 0, 1) := by decide +kernel
theorem dX7_at_21 : decode cX7_at 21 = .ok (.getfield 14, 3) := by decide +kernel
theorem dX7_at_24 : decode cX7_at 24 = .ok (.iload_n 1, 1) := by decide +kernel
theorem dX7_at_25 : decode cX7_at 25 = .ok (.iload_n 2, 1) := by decide +kernel
theorem dX7_at_26 : decode cX7_at 26 = .ok (.invokevirtual 95, 3) := by decide +kernel
theorem dX7_at_29 : decode cX7_at 29 = .ok (.invokevirtual 103, 3) := by decide +kernel
theorem dX7_at_32 : decode cX7_at 32 = .ok (.ireturn, 1) := by decide +kernel
theorem dX7_tear_0 : decode cX7_tear 0 = .ok (.aload_n 0, 1) := by decide +kernel
theorem dX7_tear_1 : decode cX7_tear 1 = .ok (.aload_n 0, 1) := by decide +kernel
theorem dX7_tear_2 : decode cX7_tear 2 = .ok (.getfield 14, 3) := by decide +kernel
theorem dX7_tear_5 : decode cX7_tear 5 = .ok (.iload_n 1, 1) := by decide +kernel
theorem dX7_tear_6 : decode cX7_tear 6 = .ok (.invokevirtual 107, 3) := by decide +kernel
theorem dX7_tear_9 : decode cX7_tear 9 = .ok (.istore_n 2, 1) := by decide +kernel
theorem dX7_tear_10 : decode cX7_tear 10 = .ok (.iload_n 2, 1) := by decide +kernel
theorem dX7_tear_11 : decode cX7_tear 11 = .ok (.ifCond .eq 5, 3) := by decide +kernel
theorem dX7_tear_14 : decode cX7_tear 14 = .ok (.iload_n 2, 1) := by decide +kernel
theorem dX7_tear_15 : decode cX7_tear 15 = .ok (.ireturn, 1) := by decide +kernel
theorem dX7_tear_16 : decode cX7_tear 16 = .ok (.aload_n 0, 1) := by decide +kernel
theorem dX7_tear_17 : decode cX7_tear 17 = .ok (.getfield 14, 3) := by decide +kernel
theorem dX7_tear_20 : decode cX7_tear 20 = .ok (.iload_n 1, 1) := by decide +kernel
theorem dX7_tear_21 : decode cX7_tear 21 = .ok (.invokevirtual 111, 3) := by decide +kernel
theorem dX7_tear_24 : decode cX7_tear 24 = .ok (.iconst 1, 1) := by decide +kernel
theorem dX7_tear_25 : decode cX7_tear 25 = .ok (.ireturn, 1) := by decide +kernel
theorem dX7_copy_0 : decode cX7_copy 0 = .ok (.aload_n 0, 1) := by decide +kernel
theorem dX7_copy_1 : decode cX7_copy 1 = .ok (.getfield 14, 3) := by decide +kernel
theorem dX7_copy_4 : decode cX7_copy 4 = .ok (.iload_n 1, 1) := by decide +kernel
theorem dX7_copy_5 : decode cX7_copy 5 = .ok (.invokevirtual 115, 3) := by decide +kernel
theorem dX7_copy_8 : decode cX7_copy 8 = .ok (.ifCond .eq 14, 3) := by decide +kernel
theorem dX7_copy_11 : decode cX7_copy 11 = .ok (.aload_n 0, 1) := by decide +kernel
theorem dX7_copy_12 : decode cX7_copy 12 = .ok (.getfield 14, 3) := by decide +kernel
theorem dX7_copy_15 : decode cX7_copy 15 = .ok (.iload_n 3, 1) := by decide +kernel
theorem dX7_copy_16 : decode cX7_copy 16 = .ok (.invokevirtual 115, 3) := by decide +kernel
theorem dX7_copy_19 : decode cX7_copy 19 = .ok (.ifCond .ne 5, 3) := by decide +kernel
theorem dX7_copy_22 : decode cX7_copy 22 = .ok (.iconst (-1), 1) := by decide +kernel
theorem dX7_copy_23 : decode cX7_copy 23 = .ok (.ireturn, 1) := by decide +kernel
theorem dX7_copy_24 : decode cX7_copy 24 = .ok (.iload 5, 2) := by decide +kernel
theorem dX7_copy_26 : decode cX7_copy 26 = .ok (.ifCond .ge 9, 3) := by decide +kernel
theorem dX7_copy_29 : decode cX7_copy 29 = .ok (.aload_n 0, 1) := by decide +kernel
theorem dX7_copy_30 : decode cX7_copy 30 = .ok (.iconst 5, 1) := by decide +kernel
theorem dX7_copy_31 : decode cX7_copy 31 = .ok (.invokevirtual 119, 3) := by decide +kernel
theorem dX7_copy_34 : decode cX7_copy 34 = .ok (.ireturn, 1) := by decide +kernel
theorem dX7_copy_35 : decode cX7_copy 35 = .ok (.aload_n 0, 1) := by decide +kernel
theorem dX7_copy_36 : decode cX7_copy 36 = .ok (.getfield 14, 3) := by decide +kernel
theorem dX7_copy_39 : decode cX7_copy 39 = .ok (.iload_n 1, 1) := by decide +kernel
theorem dX7_copy_40 : decode cX7_copy 40 = .ok (.invokevirtual 122, 3) := by decide +kernel
theorem dX7_copy_43 : decode cX7_copy 43 = .ok (.ifCond .eq 14, 3) := by decide +kernel
theorem dX7_copy_46 : decode cX7_copy 46 = .ok (.aload_n 0, 1) := by decide +kernel
theorem dX7_copy_47 : decode cX7_copy 47 = .ok (.getfield 14, 3) := by decide +kernel
theorem dX7_copy_50 : decode cX7_copy 50 = .ok (.iload_n 3, 1) := by decide +kernel
theorem dX7_copy_51 : decode cX7_copy 51 = .ok (.invokevirtual 122, 3) := by decide +kernel
theorem dX7_copy_54 : decode cX7_copy 54 = .ok (.ifCond .ne 9, 3) := by decide +kernel
theorem dX7_copy_57 : decode cX7_copy 57 = .ok (.aload_n 0, 1) := by decide +kernel
theorem dX7_copy_58 : decode cX7_copy 58 = .ok (.iconst 1, 1) := by decide +kernel
theorem dX7_copy_59 : decode cX7_copy 59 = .ok (.invokevirtual 119, 3) := by decide +kernel
theorem dX7_copy_62 : decode cX7_copy 62 = .ok (.ireturn, 1) := by decide +kernel
theorem dX7_copy_63 : decode cX7_copy 63 = .ok (.aload_n 0, 1) := by decide +kernel
theorem dX7_copy_64 : decode cX7_copy 64 = .ok (.getfield 14, 3) := by decide +kernel
theorem dX7_copy_67 : decode cX7_copy 67 = .ok (.iload_n 1, 1) := by decide +kernel
theorem dX7_copy_68 : decode cX7_copy 68 = .ok (.iload_n 2, 1) := by decide +kernel
theorem dX7_copy_69 : decode cX7_copy 69 = .ok (.iload 5, 2) := by decide +kernel
theorem dX7_copy_71 : decode cX7_copy 71 = .ok (.invokevirtual 125, 3) := by decide +kernel
theorem dX7_copy_74 : decode cX7_copy 74 = .ok (.ifCond .eq 18, 3) := by decide +kernel
theorem dX7_copy_77 : decode cX7_copy 77 = .ok (.aload_n 0, 1) := by decide +kernel
theorem dX7_copy_78 : decode cX7_copy 78 = .ok (.getfield 14, 3) := by decide +kernel
theorem dX7_copy_81 : decode cX7_copy 81 = .ok (.iload_n 3, 1) := by decide +kernel
theorem dX7_copy_82 : decode cX7_copy 82 = .ok (.iload 4, 2) := by decide +kernel
theorem dX7_copy_84 : decode cX7_copy 84 = .ok (.iload 5, 2) := by decide +kernel
theorem dX7_copy_86 : decode cX7_copy 86 = .ok (.invokevirtual 125, 3) := by decide +kernel
theorem dX7_copy_89 : decode cX7_copy 89 = .ok (.ifCond .ne 9, 3) := by decide +kernel
theorem dX7_copy_92 : decode cX7_copy 92 = .ok (.aload_n 0, 1) := by decide +kernel
theorem dX7_copy_93 : decode cX7_copy 93 = .ok (.iconst 2, 1) := by decide +kernel
theorem dX7_copy_94 : decode cX7_copy 94 = .ok (.invokevirtual 119, 3) := by decide +kernel
theorem dX7_copy_97 : decode cX7_copy 97 = .ok (.ireturn, 1) := by decide +kernel
theorem dX7_copy_98 : decode cX7_copy 98 = .ok (.aload_n 0, 1) := by decide +kernel
theorem dX7_copy_99 : decode cX7_copy 99 = .ok (.getfield 14, 3) := by decide +kernel
theorem dX7_copy_102 : decode cX7_copy 102 = .ok (.iload_n 1, 1) := by decide +kernel
theorem dX7_copy_103 : decode cX7_copy 103 = .ok (.iload_n 2, 1) := by decide +kernel
theorem dX7_copy_104 : decode cX7_copy 104 = .ok (.iload_n 3, 1) := by decide +kernel
theorem dX7_copy_105 : decode cX7_copy 105 = .ok (.iload 4, 2) := by decide +kernel
theorem dX7_copy_107 : decode cX7_copy 107 = .ok (.iload 5, 2) := by decide +kernel
theorem dX7_copy_109 : decode cX7_copy 109 = .ok (.invokevirtual 129, 3) := by decide +kernel
theorem dX7_copy_112 : decode cX7_copy 112 = .ok (.iconst 1, 1) := by decide +kernel
theorem dX7_copy_113 : decode cX7_copy 113 = .ok (.ireturn, 1) := by decide +kernel
theorem dX7_mean_0 : decode cX7_mean 0 = .ok (.aload_n 0, 1) := by decide +kernel
theorem dX7_mean_1 : decode cX7_mean 1 = .ok (.aload_n 0, 1) := by decide +kernel
theorem dX7_mean_2 : decode cX7_mean 2 = .ok (.getfield 14, 3) := by decide +kernel
theorem dX7_mean_5 : decode cX7_mean 5 = .ok (.iload_n 1, 1) := by decide +kernel
theorem dX7_mean_6 : decode cX7_mean 6 = .ok (.invokevirtual 107, 3) := by decide +kernel
theorem dX7_mean_9 : decode cX7_mean 9 = .ok (.istore_n 2, 1) := by decide +kernel
theorem dX7_mean_10 : decode cX7_mean 10 = .ok (.iload_n 2, 1) := by decide +kernel
theorem dX7_mean_11 : decode cX7_mean 11 = .ok (.ifCond .eq 5, 3) := by decide +kernel
theorem dX7_mean_14 : decode cX7_mean 14 = .ok (.iload_n 2, 1) := by decide +kernel
theorem dX7_mean_15 : decode cX7_mean 15 = .ok (.ireturn, 1) := by decide +kernel
theorem dX7_mean_16 : decode cX7_mean 16 = .ok (.aload_n 0, 1) := by decide +kernel
theorem dX7_mean_17 : decode cX7_mean 17 = .ok (.getfield 14, 3) := by decide +kernel
theorem dX7_mean_20 : decode cX7_mean 20 = .ok (.iload_n 1, 1) := by decide +kernel
theorem dX7_mean_21 : decode cX7_mean 21 = .ok (.invokevirtual 133, 3) := by decide +kernel
theorem dX7_mean_24 : decode cX7_mean 24 = .ok (.istore_n 3, 1) := by decide +kernel
theorem dX7_mean_25 : decode cX7_mean 25 = .ok (.iload_n 3, 1) := by decide +kernel
theorem dX7_mean_26 : decode cX7_mean 26 = .ok (.ifCond .gt 9, 3) := by decide +kernel
theorem dX7_mean_29 : decode cX7_mean 29 = .ok (.aload_n 0, 1) := by decide +kernel
theorem dX7_mean_30 : decode cX7_mean 30 = .ok (.iconst 4, 1) := by decide +kernel
theorem dX7_mean_31 : decode cX7_mean 31 = .ok (.invokevirtual 119, 3) := by decide +kernel
theorem dX7_mean_34 : decode cX7_mean 34 = .ok (.ireturn, 1) := by decide +kernel
theorem dX7_mean_35 : decode cX7_mean 35 = .ok (.aload_n 0, 1) := by decide +kernel
theorem dX7_mean_36 : decode cX7_mean 36 = .ok (.aload_n 0, 1) := by decide +kernel
theorem dX7_mean_37 : decode cX7_mean 37 = .ok (.getfield 14, 3) := by decide +kernel
theorem dX7_mean_40 : decode cX7_mean 40 = .ok (.iload_n 1, 1) := by decide +kernel
theorem dX7_mean_41 : decode cX7_mean 41 = .ok (.invokevirtual 136, 3) := by decide +kernel
theorem dX7_mean_44 : decode cX7_mean 44 = .ok (.iload_n 3, 1) := by decide +kernel
theorem dX7_mean_45 : decode cX7_mean 45 = .ok (.i2l, 1) := by decide +kernel
theorem dX7_mean_46 : decode cX7_mean 46 = .ok (.ldiv, 1) := by decide +kernel
theorem dX7_mean_47 : decode cX7_mean 47 = .ok (.l2i, 1) := by decide +kernel
theorem dX7_mean_48 : decode cX7_mean 48 = .ok (.invokevirtual 103, 3) := by decide +kernel
theorem dX7_mean_51 : decode cX7_mean 51 = .ok (.ireturn, 1) := by decide +kernel
theorem dX7_text_0 : decode cX7_text 0 = .ok (.aload_n 0, 1) := by decide +kernel
theorem dX7_text_1 : decode cX7_text 1 = .ok (.aload_n 0, 1) := by decide +kernel
theorem dX7_text_2 : decode cX7_text 2 = .ok (.getfield 18, 3) := by decide +kernel
theorem dX7_text_5 : decode cX7_text 5 = .ok (.iload_n 1, 1) := by decide +kernel
theorem dX7_text_6 : decode cX7_text 6 = .ok (.iload_n 2, 1) := by decide +kernel
theorem dX7_text_7 : decode cX7_text 7 = .ok (.bipush 32, 2) := by decide +kernel
theorem dX7_text_9 : decode cX7_text 9 = .ok (.invokevirtual 87, 3) := by decide +kernel
theorem dX7_text_12 : decode cX7_text 12 = .ok (.ireturn, 1) := by decide +kernel
theorem dX7_put_0 : decode cX7_put 0 = .ok (.aload_n 0, 1) := by decide +kernel
theorem dX7_put_1 : decode cX7_put 1 = .ok (.aload_n 0, 1) := by decide +kernel
theorem dX7_put_2 : decode cX7_put 2 = .ok (.getfield 18, 3) := by decide +kernel
theorem dX7_put_5 : decode cX7_put 5 = .ok (.iload_n 1, 1) := by decide +kernel
theorem dX7_put_6 : decode cX7_put 6 = .ok (.iload_n 2, 1) := by decide +kernel
theorem dX7_put_7 : decode cX7_put 7 = .ok (.invokevirtual 91, 3) := by decide +kernel
theorem dX7_put_10 : decode cX7_put 10 = .ok (.istore 4, 2) := by decide +kernel
theorem dX7_put_12 : decode cX7_put 12 = .ok (.iload 4, 2) := by decide +kernel
theorem dX7_put_14 : decode cX7_put 14 = .ok (.ifCond .eq 6, 3) := by decide +kernel
theorem dX7_put_17 : decode cX7_put 17 = .ok (.iload 4, 2) := by decide +kernel
theorem dX7_put_19 : decode cX7_put 19 = .ok (.ireturn, 1) := by decide +kernel
theorem dX7_put_20 : decode cX7_put 20 = .ok (.aload_n 0, 1) := by decide +kernel
theorem dX7_put_21 : decode cX7_put 21 = .ok (.getfield 18, 3) := by decide +kernel
theorem dX7_put_24 : decode cX7_put 24 = .ok (.iload_n 1, 1) := by decide +kernel
theorem dX7_put_25 : decode cX7_put 25 = .ok (.iload_n 2, 1) := by decide +kernel
theorem dX7_put_26 : decode cX7_put 26 = .ok (.invokevirtual 95, 3) := by decide +kernel
theorem dX7_put_29 : decode cX7_put 29 = .ok (.istore 5, 2) := by decide +kernel
theorem dX7_put_31 : decode cX7_put 31 = .ok (.aload_n 0, 1) := by decide +kernel
theorem dX7_put_32 : decode cX7_put 32 = .ok (.getfield 18, 3) := by decide +kernel
theorem dX7_put_35 : decode cX7_put 35 = .ok (.iload_n 1, 1) := by decide +kernel
theorem dX7_put_36 : decode cX7_put 36 = .ok (.iload_n 2, 1) := by decide +kernel
theorem dX7_put_37 : decode cX7_put 37 = .ok (.iload_n 3, 1) := by decide +kernel
theorem dX7_put_38 : decode cX7_put 38 = .ok (.i2b, 1) := by decide +kernel
theorem dX7_put_39 : decode cX7_put 39 = .ok (.invokevirtual 99, 3) := by decide +kernel
theorem dX7_put_42 : decode cX7_put 42 = .ok (.iload 5, 2) := by decide +kernel
theorem dX7_put_44 : decode cX7_put 44 = .ok (.sipush 1000, 3) := by decide +kernel
theorem dX7_put_47 : decode cX7_put 47 = .ok (.iadd, 1) := by decide +kernel
theorem dX7_put_48 : decode cX7_put 48 = .ok (.ireturn, 1) := by decide +kernel
theorem dX7_fault_0 : decode cX7_fault 0 = .ok (.aload_n 0, 1) := by decide +kernel
theorem dX7_fault_1 : decode cX7_fault 1 = .ok (.aload_n 0, 1) := by decide +kernel
theorem dX7_fault_2 : decode cX7_fault 2 = .ok (.getfield 18, 3) := by decide +kernel
theorem dX7_fault_5 : decode cX7_fault 5 = .ok (.iload_n 1, 1) := by decide +kernel
theorem dX7_fault_6 : decode cX7_fault 6 = .ok (.invokevirtual 107, 3) := by decide +kernel
theorem dX7_fault_9 : decode cX7_fault 9 = .ok (.istore_n 3, 1) := by decide +kernel
theorem dX7_fault_10 : decode cX7_fault 10 = .ok (.iload_n 3, 1) := by decide +kernel
theorem dX7_fault_11 : decode cX7_fault 11 = .ok (.ifCond .eq 5, 3) := by decide +kernel
theorem dX7_fault_14 : decode cX7_fault 14 = .ok (.iload_n 3, 1) := by decide +kernel
theorem dX7_fault_15 : decode cX7_fault 15 = .ok (.ireturn, 1) := by decide +kernel
theorem dX7_fault_16 : decode cX7_fault 16 = .ok (.iload_n 2, 1) := by decide +kernel
theorem dX7_fault_17 : decode cX7_fault 17 = .ok (.ifCond .eq 11, 3) := by decide +kernel
theorem dX7_fault_20 : decode cX7_fault 20 = .ok (.aload_n 0, 1) := by decide +kernel
theorem dX7_fault_21 : decode cX7_fault 21 = .ok (.iload_n 1, 1) := by decide +kernel
theorem dX7_fault_22 : decode cX7_fault 22 = .ok (.invokevirtual 140, 3) := by decide +kernel
theorem dX7_fault_25 : decode cX7_fault 25 = .ok (.goto 8, 3) := by decide +kernel
theorem dX7_fault_28 : decode cX7_fault 28 = .ok (.aload_n 0, 1) := by decide +kernel
theorem dX7_fault_29 : decode cX7_fault 29 = .ok (.iload_n 1, 1) := by decide +kernel
theorem dX7_fault_30 : decode cX7_fault 30 = .ok (.invokevirtual 143, 3) := by decide +kernel
theorem dX7_fault_33 : decode cX7_fault 33 = .ok (.ireturn, 1) := by decide +kernel
theorem dX7_street_0 : decode cX7_street 0 = .ok (.aload_n 0, 1) := by decide +kernel
theorem dX7_street_1 : decode cX7_street 1 = .ok (.aload_n 0, 1) := by decide +kernel
theorem dX7_street_2 : decode cX7_street 2 = .ok (.getfield 18, 3) := by decide +kernel
theorem dX7_street_5 : decode cX7_street 5 = .ok (.iload_n 1, 1) := by decide +kernel
theorem dX7_street_6 : decode cX7_street 6 = .ok (.invokevirtual 107, 3) := by decide +kernel
theorem dX7_street_9 : decode cX7_street 9 = .ok (.istore_n 2, 1) := by decide +kernel
theorem dX7_street_10 : decode cX7_street 10 = .ok (.iload_n 2, 1) := by decide +kernel
theorem dX7_street_11 : decode cX7_street 11 = .ok (.ifCond .eq 5, 3) := by decide +kernel
theorem dX7_street_14 : decode cX7_street 14 = .ok (.iload_n 2, 1) := by decide +kernel
theorem dX7_street_15 : decode cX7_street 15 = .ok (.ireturn, 1) := by decide +kernel
theorem dX7_street_16 : decode cX7_street 16 = .ok (.aload_n 0, 1) := by decide +kernel
theorem dX7_street_17 : decode cX7_street 17 = .ok (.iload_n 1, 1) := by decide +kernel
theorem dX7_street_18 : decode cX7_street 18 = .ok (.invokevirtual 143, 3) := by decide +kernel
theorem dX7_street_21 : decode cX7_street 21 = .ok (.bipush (-9), 2) := by decide +kernel
theorem dX7_street_23 : decode cX7_street 23 = .ok (.if_icmp .eq 6, 3) := by decide +kernel
theorem dX7_street_26 : decode cX7_street 26 = .ok (.bipush (-4), 2) := by decide +kernel
theorem dX7_street_28 : decode cX7_street 28 = .ok (.ireturn, 1) := by decide +kernel
theorem dX7_street_29 : decode cX7_street 29 = .ok (.aload_n 0, 1) := by decide +kernel
theorem dX7_street_30 : decode cX7_street 30 = .ok (.getfield 66, 3) := by decide +kernel
theorem dX7_street_33 : decode cX7_street 33 = .ok (.astore_n 3, 1) := by decide +kernel
theorem dX7_street_34 : decode cX7_street 34 = .ok (.aload_n 0, 1) := by decide +kernel
theorem dX7_street_35 : decode cX7_street 35 = .ok (.aload_n 0, 1) := by decide +kernel
theorem dX7_street_36 : decode cX7_street 36 = .ok (.getfield 70, 3) := by decide +kernel
theorem dX7_street_39 : decode cX7_street 39 = .ok (.putfield 66, 3) := by decide +kernel
theorem dX7_street_42 : decode cX7_street 42 = .ok (.aload_n 0, 1) := by decide +kernel
theorem dX7_street_43 : decode cX7_street 43 = .ok (.aload_n 3, 1) := by decide +kernel
theorem dX7_street_44 : decode cX7_street 44 = .ok (.putfield 70, 3) := by decide +kernel
theorem dX7_street_47 : decode cX7_street 47 = .ok (.aload_n 0, 1) := by decide +kernel
theorem dX7_street_48 : decode cX7_street 48 = .ok (.getfield 24, 3) := by decide +kernel
theorem dX7_street_51 : decode cX7_street 51 = .ok (.iconst 0, 1) := by decide +kernel
theorem dX7_street_52 : decode cX7_street 52 = .ok (.invokevirtual 146, 3) := by decide +kernel
theorem dX7_street_55 : decode cX7_street 55 = .ok (.aload_n 0, 1) := by decide +kernel
theorem dX7_street_56 : decode cX7_street 56 = .ok (.getfield 34, 3) := by decide +kernel
theorem dX7_street_59 : decode cX7_street 59 = .ok (.aload_n 0, 1) := by decide +kernel
theorem dX7_street_60 : decode cX7_street 60 = .ok (.getfield 24, 3) := by decide +kernel
theorem dX7_street_63 : decode cX7_street 63 = .ok (.invokevirtual 149, 3) := by decide +kernel
theorem dX7_street_66 : decode cX7_street 66 = .ok (.aload_n 0, 1) := by decide +kernel
theorem dX7_street_67 : decode cX7_street 67 = .ok (.getfield 66, 3) := by decide +kernel
theorem dX7_street_70 : decode cX7_street 70 = .ok (.getfield 153, 3) := by decide +kernel
theorem dX7_street_73 : decode cX7_street 73 = .ok (.ireturn, 1) := by decide +kernel
theorem dX7_year_0 : decode cX7_year 0 = .ok (.aload_n 0, 1) := by decide +kernel
theorem dX7_year_1 : decode cX7_year 1 = .ok (.aload_n 0, 1) := by decide +kernel
theorem dX7_year_2 : decode cX7_year 2 = .ok (.getfield 18, 3) := by decide +kernel
theorem dX7_year_5 : decode cX7_year 5 = .ok (.iload_n 1, 1) := by decide +kernel
theorem dX7_year_6 : decode cX7_year 6 = .ok (.invokevirtual 107, 3) := by decide +kernel
theorem dX7_year_9 : decode cX7_year 9 = .ok (.istore_n 2, 1) := by decide +kernel
theorem dX7_year_10 : decode cX7_year 10 = .ok (.iload_n 2, 1) := by decide +kernel
theorem dX7_year_11 : decode cX7_year 11 = .ok (.ifCond .eq 5, 3) := by decide +kernel
theorem dX7_year_14 : decode cX7_year 14 = .ok (.iload_n 2, 1) := by decide +kernel
theorem dX7_year_15 : decode cX7_year 15 = .ok (.ireturn, 1) := by decide +kernel
theorem dX7_year_16 : decode cX7_year 16 = .ok (.aload_n 0, 1) := by decide +kernel
theorem dX7_year_17 : decode cX7_year 17 = .ok (.iload_n 1, 1) := by decide +kernel
theorem dX7_year_18 : decode cX7_year 18 = .ok (.invokevirtual 140, 3) := by decide +kernel
theorem dX7_year_21 : decode cX7_year 21 = .ok (.bipush (-9), 2) := by decide +kernel
theorem dX7_year_23 : decode cX7_year 23 = .ok (.if_icmp .eq 6, 3) := by decide +kernel
theorem dX7_year_26 : decode cX7_year 26 = .ok (.bipush (-4), 2) := by decide +kernel
theorem dX7_year_28 : decode cX7_year 28 = .ok (.ireturn, 1) := by decide +kernel
theorem dX7_year_29 : decode cX7_year 29 = .ok (.aload_n 0, 1) := by decide +kernel
theorem dX7_year_30 : decode cX7_year 30 = .ok (.getfield 24, 3) := by decide +kernel
theorem dX7_year_33 : decode cX7_year 33 = .ok (.aload_n 0, 1) := by decide +kernel
theorem dX7_year_34 : decode cX7_year 34 = .ok (.getfield 28, 3) := by decide +kernel
theorem dX7_year_37 : decode cX7_year 37 = .ok (.invokevirtual 156, 3) := by decide +kernel
theorem dX7_year_40 : decode cX7_year 40 = .ok (.aload_n 0, 1) := by decide +kernel
theorem dX7_year_41 : decode cX7_year 41 = .ok (.getfield 34, 3) := by decide +kernel
theorem dX7_year_44 : decode cX7_year 44 = .ok (.aload_n 0, 1) := by decide +kernel
theorem dX7_year_45 : decode cX7_year 45 = .ok (.getfield 24, 3) := by decide +kernel
theorem dX7_year_48 : decode cX7_year 48 = .ok (.invokevirtual 149, 3) := by decide +kernel
theorem dX7_year_51 : decode cX7_year 51 = .ok (.aload_n 0, 1) := by decide +kernel
theorem dX7_year_52 : decode cX7_year 52 = .ok (.getfield 28, 3) := by decide +kernel
theorem dX7_year_55 : decode cX7_year 55 = .ok (.getfield 159, 3) := by decide +kernel
theorem dX7_year_58 : decode cX7_year 58 = .ok (.ireturn, 1) := by decide +kernel
theorem dX7_event_0 : decode cX7_event 0 = .ok (.aload_n 0, 1) := by decide +kernel
theorem dX7_event_1 : decode cX7_event 1 = .ok (.iload_n 1, 1) := by decide +kernel
theorem dX7_event_2 : decode cX7_event 2 = .ok (.iload_n 2, 1) := by decide +kernel
theorem dX7_event_3 : decode cX7_event 3 = .ok (.iload_n 3, 1) := by decide +kernel
theorem dX7_event_4 : decode cX7_event 4 = .ok (.invokevirtual 162, 3) := by decide +kernel
theorem dX7_event_7 : decode cX7_event 7 = .ok (.ifCond .ne 5, 3) := by decide +kernel
theorem dX7_event_10 : decode cX7_event 10 = .ok (.iconst (-1), 1) := by decide +kernel
theorem dX7_event_11 : decode cX7_event 11 = .ok (.ireturn, 1) := by decide +kernel
theorem dX7_event_12 : decode cX7_event 12 = .ok (.aload_n 0, 1) := by decide +kernel
theorem dX7_event_13 : decode cX7_event 13 = .ok (.getfield 24, 3) := by decide +kernel
theorem dX7_event_16 : decode cX7_event 16 = .ok (.getfield 159, 3) := by decide +kernel
theorem dX7_event_19 : decode cX7_event 19 = .ok (.bipush 40, 2) := by decide +kernel
theorem dX7_event_21 : decode cX7_event 21 = .ok (.if_icmp .ge 22, 3) := by decide +kernel
theorem dX7_event_24 : decode cX7_event 24 = .ok (.iload_n 1, 1) := by decide +kernel
theorem dX7_event_25 : decode cX7_event 25 = .ok (.invokestatic 165, 3) := by decide +kernel
theorem dX7_event_28 : decode cX7_event 28 = .ok (.ifCond .eq 18, 3) := by decide +kernel
theorem dX7_event_31 : decode cX7_event 31 = .ok (.aload_n 0, 1) := by decide +kernel
theorem dX7_event_32 : decode cX7_event 32 = .ok (.getfield 34, 3) := by decide +kernel
theorem dX7_event_35 : decode cX7_event 35 = .ok (.getfield 168, 3) := by decide +kernel
theorem dX7_event_38 : decode cX7_event 38 = .ok (.bipush 24, 2) := by decide +kernel
theorem dX7_event_40 : decode cX7_event 40 = .ok (.if_icmp .lt 6, 3) := by decide +kernel
theorem dX7_event_43 : decode cX7_event 43 = .ok (.bipush (-2), 2) := by decide +kernel
theorem dX7_event_45 : decode cX7_event 45 = .ok (.ireturn, 1) := by decide +kernel
theorem dX7_event_46 : decode cX7_event 46 = .ok (.iload_n 1, 1) := by decide +kernel
theorem dX7_event_47 : decode cX7_event 47 = .ok (.bipush 7, 2) := by decide +kernel
theorem dX7_event_49 : decode cX7_event 49 = .ok (.if_icmp .eq 7, 3) := by decide +kernel
theorem dX7_event_52 : decode cX7_event 52 = .ok (.iconst 0, 1) := by decide +kernel
theorem dX7_event_53 : decode cX7_event 53 = .ok (.goto 13, 3) := by decide +kernel
theorem dX7_event_56 : decode cX7_event 56 = .ok (.iload 4, 2) := by decide +kernel
theorem dX7_event_58 : decode cX7_event 58 = .ok (.ifCond .eq 7, 3) := by decide +kernel
theorem dX7_event_61 : decode cX7_event 61 = .ok (.iconst 1, 1) := by decide +kernel
theorem dX7_event_62 : decode cX7_event 62 = .ok (.goto 4, 3) := by decide +kernel
theorem dX7_event_65 : decode cX7_event 65 = .ok (.iconst (-1), 1) := by decide +kernel
theorem dX7_event_66 : decode cX7_event 66 = .ok (.istore 5, 2) := by decide +kernel
theorem dX7_event_68 : decode cX7_event 68 = .ok (.aload_n 0, 1) := by decide +kernel
theorem dX7_event_69 : decode cX7_event 69 = .ok (.getfield 24, 3) := by decide +kernel
theorem dX7_event_72 : decode cX7_event 72 = .ok (.iload_n 1, 1) := by decide +kernel
theorem dX7_event_73 : decode cX7_event 73 = .ok (.iload_n 2, 1) := by decide +kernel
theorem dX7_event_74 : decode cX7_event 74 = .ok (.iload_n 1, 1) := by decide +kernel
theorem dX7_event_75 : decode cX7_event 75 = .ok (.bipush 6, 2) := by decide +kernel
theorem dX7_event_77 : decode cX7_event 77 = .ok (.if_icmp .ne 7, 3) := by decide +kernel
theorem dX7_event_80 : decode cX7_event 80 = .ok (.iconst 0, 1) := by decide +kernel
theorem dX7_event_81 : decode cX7_event 81 = .ok (.goto 4, 3) := by decide +kernel
theorem dX7_event_84 : decode cX7_event 84 = .ok (.iload_n 3, 1) := by decide +kernel
theorem dX7_event_85 : decode cX7_event 85 = .ok (.iload 5, 2) := by decide +kernel
theorem dX7_event_87 : decode cX7_event 87 = .ok (.invokevirtual 171, 3) := by decide +kernel
theorem dX7_event_90 : decode cX7_event 90 = .ok (.aload_n 0, 1) := by decide +kernel
theorem dX7_event_91 : decode cX7_event 91 = .ok (.getfield 34, 3) := by decide +kernel
theorem dX7_event_94 : decode cX7_event 94 = .ok (.aload_n 0, 1) := by decide +kernel
theorem dX7_event_95 : decode cX7_event 95 = .ok (.getfield 24, 3) := by decide +kernel
theorem dX7_event_98 : decode cX7_event 98 = .ok (.invokevirtual 149, 3) := by decide +kernel
theorem dX7_event_101 : decode cX7_event 101 = .ok (.aload_n 0, 1) := by decide +kernel
theorem dX7_event_102 : decode cX7_event 102 = .ok (.getfield 24, 3) := by decide +kernel
theorem dX7_event_105 : decode cX7_event 105 = .ok (.getfield 159, 3) := by decide +kernel
theorem dX7_event_108 : decode cX7_event 108 = .ok (.iconst 1, 1) := by decide +kernel
theorem dX7_event_109 : decode cX7_event 109 = .ok (.isub, 1) := by decide +kernel
theorem dX7_event_110 : decode cX7_event 110 = .ok (.ireturn, 1) := by decide +kernel
theorem dX7_back_0 : decode cX7_back 0 = .ok (.iload_n 1, 1) := by decide +kernel
theorem dX7_back_1 : decode cX7_back 1 = .ok (.ifCond .lt 14, 3) := by decide +kernel
theorem dX7_back_4 : decode cX7_back 4 = .ok (.iload_n 1, 1) := by decide +kernel
theorem dX7_back_5 : decode cX7_back 5 = .ok (.aload_n 0, 1) := by decide +kernel
theorem dX7_back_6 : decode cX7_back 6 = .ok (.getfield 24, 3) := by decide +kernel
theorem dX7_back_9 : decode cX7_back 9 = .ok (.getfield 159, 3) := by decide +kernel
theorem dX7_back_12 : decode cX7_back 12 = .ok (.if_icmp .le 5, 3) := by decide +kernel
theorem dX7_back_15 : decode cX7_back 15 = .ok (.iconst (-1), 1) := by decide +kernel
theorem dX7_back_16 : decode cX7_back 16 = .ok (.ireturn, 1) := by decide +kernel
theorem dX7_back_17 : decode cX7_back 17 = .ok (.aload_n 0, 1) := by decide +kernel
theorem dX7_back_18 : decode cX7_back 18 = .ok (.getfield 24, 3) := by decide +kernel
theorem dX7_back_21 : decode cX7_back 21 = .ok (.getfield 159, 3) := by decide +kernel
theorem dX7_back_24 : decode cX7_back 24 = .ok (.iload_n 1, 1) := by decide +kernel
theorem dX7_back_25 : decode cX7_back 25 = .ok (.isub, 1) := by decide +kernel
theorem dX7_back_26 : decode cX7_back 26 = .ok (.istore_n 2, 1) := by decide +kernel
theorem dX7_back_27 : decode cX7_back 27 = .ok (.aload_n 0, 1) := by decide +kernel
theorem dX7_back_28 : decode cX7_back 28 = .ok (.getfield 24, 3) := by decide +kernel
theorem dX7_back_31 : decode cX7_back 31 = .ok (.iload_n 1, 1) := by decide +kernel
theorem dX7_back_32 : decode cX7_back 32 = .ok (.invokevirtual 146, 3) := by decide +kernel
theorem dX7_back_35 : decode cX7_back 35 = .ok (.aload_n 0, 1) := by decide +kernel
theorem dX7_back_36 : decode cX7_back 36 = .ok (.getfield 34, 3) := by decide +kernel
theorem dX7_back_39 : decode cX7_back 39 = .ok (.aload_n 0, 1) := by decide +kernel
theorem dX7_back_40 : decode cX7_back 40 = .ok (.getfield 24, 3) := by decide +kernel
theorem dX7_back_43 : decode cX7_back 43 = .ok (.invokevirtual 149, 3) := by decide +kernel
theorem dX7_back_46 : decode cX7_back 46 = .ok (.iload_n 2, 1) := by decide +kernel
theorem dX7_back_47 : decode cX7_back 47 = .ok (.ireturn, 1) := by decide +kernel
theorem dX7_told_0 : decode cX7_told 0 = .ok (.aload_n 0, 1) := by decide +kernel
theorem dX7_told_1 : decode cX7_told 1 = .ok (.getfield 24, 3) := by decide +kernel
theorem dX7_told_4 : decode cX7_told 4 = .ok (.iload_n 1, 1) := by decide +kernel
theorem dX7_told_5 : decode cX7_told 5 = .ok (.invokevirtual 175, 3) := by decide +kernel
theorem dX7_told_8 : decode cX7_told 8 = .ok (.ifCond .eq 12, 3) := by decide +kernel
theorem dX7_told_11 : decode cX7_told 11 = .ok (.iload_n 2, 1) := by decide +kernel
theorem dX7_told_12 : decode cX7_told 12 = .ok (.ifCond .lt 8, 3) := by decide +kernel
theorem dX7_told_15 : decode cX7_told 15 = .ok (.iload_n 2, 1) := by decide +kernel
theorem dX7_told_16 : decode cX7_told 16 = .ok (.iconst 3, 1) := by decide +kernel
theorem dX7_told_17 : decode cX7_told 17 = .ok (.if_icmp .le 5, 3) := by decide +kernel
theorem dX7_told_20 : decode cX7_told 20 = .ok (.iconst (-1), 1) := by decide +kernel
theorem dX7_told_21 : decode cX7_told 21 = .ok (.ireturn, 1) := by decide +kernel
theorem dX7_told_22 : decode cX7_told 22 = .ok (.aload_n 0, 1) := by decide +kernel
theorem dX7_told_23 : decode cX7_told 23 = .ok (.aload_n 0, 1) := by decide +kernel
theorem dX7_told_24 : decode cX7_told 24 = .ok (.getfield 24, 3) := by decide +kernel
theorem dX7_told_27 : decode cX7_told 27 = .ok (.iload_n 1, 1) := by decide +kernel
theorem dX7_told_28 : decode cX7_told 28 = .ok (.iload_n 2, 1) := by decide +kernel
theorem dX7_told_29 : decode cX7_told 29 = .ok (.invokevirtual 176, 3) := by decide +kernel
theorem dX7_told_32 : decode cX7_told 32 = .ok (.invokevirtual 103, 3) := by decide +kernel
theorem dX7_told_35 : decode cX7_told 35 = .ok (.ireturn, 1) := by decide +kernel
theorem dX7_mark_0 : decode cX7_mark 0 = .ok (.aload_n 0, 1) := by decide +kernel
theorem dX7_mark_1 : decode cX7_mark 1 = .ok (.getfield 24, 3) := by decide +kernel
theorem dX7_mark_4 : decode cX7_mark 4 = .ok (.iload_n 1, 1) := by decide +kernel
theorem dX7_mark_5 : decode cX7_mark 5 = .ok (.invokevirtual 175, 3) := by decide +kernel
theorem dX7_mark_8 : decode cX7_mark 8 = .ok (.ifCond .eq 14, 3) := by decide +kernel
theorem dX7_mark_11 : decode cX7_mark 11 = .ok (.iload_n 2, 1) := by decide +kernel
theorem dX7_mark_12 : decode cX7_mark 12 = .ok (.iconst 1, 1) := by decide +kernel
theorem dX7_mark_13 : decode cX7_mark 13 = .ok (.if_icmp .lt 9, 3) := by decide +kernel
theorem dX7_mark_16 : decode cX7_mark 16 = .ok (.iload_n 2, 1) := by decide +kernel
theorem dX7_mark_17 : decode cX7_mark 17 = .ok (.bipush 7, 2) := by decide +kernel
theorem dX7_mark_19 : decode cX7_mark 19 = .ok (.if_icmp .le 5, 3) := by decide +kernel
theorem dX7_mark_22 : decode cX7_mark 22 = .ok (.iconst (-1), 1) := by decide +kernel
theorem dX7_mark_23 : decode cX7_mark 23 = .ok (.ireturn, 1) := by decide +kernel
theorem dX7_mark_24 : decode cX7_mark 24 = .ok (.aload_n 0, 1) := by decide +kernel
theorem dX7_mark_25 : decode cX7_mark 25 = .ok (.getfield 24, 3) := by decide +kernel
theorem dX7_mark_28 : decode cX7_mark 28 = .ok (.getfield 179, 3) := by decide +kernel
theorem dX7_mark_31 : decode cX7_mark 31 = .ok (.iload_n 1, 1) := by decide +kernel
theorem dX7_mark_32 : decode cX7_mark 32 = .ok (.iaload, 1) := by decide +kernel
theorem dX7_mark_33 : decode cX7_mark 33 = .ok (.iload_n 2, 1) := by decide +kernel
theorem dX7_mark_34 : decode cX7_mark 34 = .ok (.invokestatic 182, 3) := by decide +kernel
theorem dX7_mark_37 : decode cX7_mark 37 = .ok (.ifCond .ne 9, 3) := by decide +kernel
theorem dX7_mark_40 : decode cX7_mark 40 = .ok (.aload_n 0, 1) := by decide +kernel
theorem dX7_mark_41 : decode cX7_mark 41 = .ok (.iconst 3, 1) := by decide +kernel
theorem dX7_mark_42 : decode cX7_mark 42 = .ok (.invokevirtual 119, 3) := by decide +kernel
theorem dX7_mark_45 : decode cX7_mark 45 = .ok (.ireturn, 1) := by decide +kernel
theorem dX7_mark_46 : decode cX7_mark 46 = .ok (.iload_n 2, 1) := by decide +kernel
theorem dX7_mark_47 : decode cX7_mark 47 = .ok (.tableswitch 48 1 4 #[29, 48, 38, 38], 29) := by decide +kernel
theorem dX7_mark_76 : decode cX7_mark 76 = .ok (.aload_n 0, 1) := by decide +kernel
theorem dX7_mark_77 : decode cX7_mark 77 = .ok (.getfield 24, 3) := by decide +kernel
theorem dX7_mark_80 : decode cX7_mark 80 = .ok (.iload_n 1, 1) := by decide +kernel
theorem dX7_mark_81 : decode cX7_mark 81 = .ok (.invokevirtual 186, 3) := by decide +kernel
theorem dX7_mark_84 : decode cX7_mark 84 = .ok (.ireturn, 1) := by decide +kernel
theorem dX7_mark_85 : decode cX7_mark 85 = .ok (.aload_n 0, 1) := by decide +kernel
theorem dX7_mark_86 : decode cX7_mark 86 = .ok (.getfield 24, 3) := by decide +kernel
theorem dX7_mark_89 : decode cX7_mark 89 = .ok (.getfield 189, 3) := by decide +kernel
theorem dX7_mark_92 : decode cX7_mark 92 = .ok (.iload_n 1, 1) := by decide +kernel
theorem dX7_mark_93 : decode cX7_mark 93 = .ok (.iaload, 1) := by decide +kernel
theorem dX7_mark_94 : decode cX7_mark 94 = .ok (.ireturn, 1) := by decide +kernel
theorem dX7_mark_95 : decode cX7_mark 95 = .ok (.aload_n 0, 1) := by decide +kernel
theorem dX7_mark_96 : decode cX7_mark 96 = .ok (.getfield 24, 3) := by decide +kernel
theorem dX7_mark_99 : decode cX7_mark 99 = .ok (.getfield 192, 3) := by decide +kernel
theorem dX7_mark_102 : decode cX7_mark 102 = .ok (.iload_n 1, 1) := by decide +kernel
theorem dX7_mark_103 : decode cX7_mark 103 = .ok (.iaload, 1) := by decide +kernel
theorem dX7_mark_104 : decode cX7_mark 104 = .ok (.ireturn, 1) := by decide +kernel
theorem dX7_house_0 : decode cX7_house 0 = .ok (.aload_n 0, 1) := by decide +kernel
theorem dX7_house_1 : decode cX7_house 1 = .ok (.iload_n 1, 1) := by decide +kernel
theorem dX7_house_2 : decode cX7_house 2 = .ok (.invokevirtual 195, 3) := by decide +kernel
theorem dX7_house_5 : decode cX7_house 5 = .ok (.ifCond .eq 12, 3) := by decide +kernel
theorem dX7_house_8 : decode cX7_house 8 = .ok (.iload_n 2, 1) := by decide +kernel
theorem dX7_house_9 : decode cX7_house 9 = .ok (.ifCond .lt 8, 3) := by decide +kernel
theorem dX7_house_12 : decode cX7_house 12 = .ok (.iload_n 2, 1) := by decide +kernel
theorem dX7_house_13 : decode cX7_house 13 = .ok (.iconst 3, 1) := by decide +kernel
theorem dX7_house_14 : decode cX7_house 14 = .ok (.if_icmp .le 5, 3) := by decide +kernel
theorem dX7_house_17 : decode cX7_house 17 = .ok (.iconst (-1), 1) := by decide +kernel
theorem dX7_house_18 : decode cX7_house 18 = .ok (.ireturn, 1) := by decide +kernel
theorem dX7_house_19 : decode cX7_house 19 = .ok (.aload_n 0, 1) := by decide +kernel
theorem dX7_house_20 : decode cX7_house 20 = .ok (.aload_n 0, 1) := by decide +kernel
theorem dX7_house_21 : decode cX7_house 21 = .ok (.iload_n 1, 1) := by decide +kernel
theorem dX7_house_22 : decode cX7_house 22 = .ok (.iload_n 2, 1) := by decide +kernel
theorem dX7_house_23 : decode cX7_house 23 = .ok (.invokevirtual 198, 3) := by decide +kernel
theorem dX7_house_26 : decode cX7_house 26 = .ok (.invokevirtual 103, 3) := by decide +kernel
theorem dX7_house_29 : decode cX7_house 29 = .ok (.ireturn, 1) := by decide +kernel
theorem dX7_person_0 : decode cX7_person 0 = .ok (.aload_n 0, 1) := by decide +kernel
theorem dX7_person_1 : decode cX7_person 1 = .ok (.iload_n 1, 1) := by decide +kernel
theorem dX7_person_2 : decode cX7_person 2 = .ok (.invokevirtual 201, 3) := by decide +kernel
theorem dX7_person_5 : decode cX7_person 5 = .ok (.ifCond .eq 12, 3) := by decide +kernel
theorem dX7_person_8 : decode cX7_person 8 = .ok (.iload_n 2, 1) := by decide +kernel
theorem dX7_person_9 : decode cX7_person 9 = .ok (.ifCond .lt 8, 3) := by decide +kernel
theorem dX7_person_12 : decode cX7_person 12 = .ok (.iload_n 2, 1) := by decide +kernel
theorem dX7_person_13 : decode cX7_person 13 = .ok (.iconst 2, 1) := by decide +kernel
theorem dX7_person_14 : decode cX7_person 14 = .ok (.if_icmp .le 5, 3) := by decide +kernel
theorem dX7_person_17 : decode cX7_person 17 = .ok (.iconst (-1), 1) := by decide +kernel
theorem dX7_person_18 : decode cX7_person 18 = .ok (.ireturn, 1) := by decide +kernel
theorem dX7_person_19 : decode cX7_person 19 = .ok (.aload_n 0, 1) := by decide +kernel
theorem dX7_person_20 : decode cX7_person 20 = .ok (.aload_n 0, 1) := by decide +kernel
theorem dX7_person_21 : decode cX7_person 21 = .ok (.iload_n 1, 1) := by decide +kernel
theorem dX7_person_22 : decode cX7_person 22 = .ok (.iload_n 2, 1) := by decide +kernel
theorem dX7_person_23 : decode cX7_person 23 = .ok (.invokevirtual 204, 3) := by decide +kernel
theorem dX7_person_26 : decode cX7_person 26 = .ok (.invokevirtual 103, 3) := by decide +kernel
theorem dX7_person_29 : decode cX7_person 29 = .ok (.ireturn, 1) := by decide +kernel
theorem dX7_key_0 : decode cX7_key 0 = .ok (.aload_n 0, 1) := by decide +kernel
theorem dX7_key_1 : decode cX7_key 1 = .ok (.getfield 34, 3) := by decide +kernel
theorem dX7_key_4 : decode cX7_key 4 = .ok (.iload_n 1, 1) := by decide +kernel
theorem dX7_key_5 : decode cX7_key 5 = .ok (.invokevirtual 207, 3) := by decide +kernel
theorem dX7_key_8 : decode cX7_key 8 = .ok (.ifCond .eq 12, 3) := by decide +kernel
theorem dX7_key_11 : decode cX7_key 11 = .ok (.iload_n 2, 1) := by decide +kernel
theorem dX7_key_12 : decode cX7_key 12 = .ok (.ifCond .lt 8, 3) := by decide +kernel
theorem dX7_key_15 : decode cX7_key 15 = .ok (.iload_n 2, 1) := by decide +kernel
theorem dX7_key_16 : decode cX7_key 16 = .ok (.iconst 4, 1) := by decide +kernel
theorem dX7_key_17 : decode cX7_key 17 = .ok (.if_icmp .le 5, 3) := by decide +kernel
theorem dX7_key_20 : decode cX7_key 20 = .ok (.iconst (-1), 1) := by decide +kernel
theorem dX7_key_21 : decode cX7_key 21 = .ok (.ireturn, 1) := by decide +kernel
theorem dX7_key_22 : decode cX7_key 22 = .ok (.aload_n 0, 1) := by decide +kernel
theorem dX7_key_23 : decode cX7_key 23 = .ok (.aload_n 0, 1) := by decide +kernel
theorem dX7_key_24 : decode cX7_key 24 = .ok (.getfield 34, 3) := by decide +kernel
theorem dX7_key_27 : decode cX7_key 27 = .ok (.iload_n 1, 1) := by decide +kernel
theorem dX7_key_28 : decode cX7_key 28 = .ok (.iload_n 2, 1) := by decide +kernel
theorem dX7_key_29 : decode cX7_key 29 = .ok (.invokevirtual 210, 3) := by decide +kernel
theorem dX7_key_32 : decode cX7_key 32 = .ok (.invokevirtual 103, 3) := by decide +kernel
theorem dX7_key_35 : decode cX7_key 35 = .ok (.ireturn, 1) := by decide +kernel
theorem dX7_trust_0 : decode cX7_trust 0 = .ok (.aload_n 0, 1) := by decide +kernel
theorem dX7_trust_1 : decode cX7_trust 1 = .ok (.iload_n 1, 1) := by decide +kernel
theorem dX7_trust_2 : decode cX7_trust 2 = .ok (.invokevirtual 201, 3) := by decide +kernel
theorem dX7_trust_5 : decode cX7_trust 5 = .ok (.ifCond .eq 16, 3) := by decide +kernel
theorem dX7_trust_8 : decode cX7_trust 8 = .ok (.aload_n 0, 1) := by decide +kernel
theorem dX7_trust_9 : decode cX7_trust 9 = .ok (.iload_n 2, 1) := by decide +kernel
theorem dX7_trust_10 : decode cX7_trust 10 = .ok (.invokevirtual 201, 3) := by decide +kernel
theorem dX7_trust_13 : decode cX7_trust 13 = .ok (.ifCond .eq 8, 3) := by decide +kernel
theorem dX7_trust_16 : decode cX7_trust 16 = .ok (.iload_n 1, 1) := by decide +kernel
theorem dX7_trust_17 : decode cX7_trust 17 = .ok (.iload_n 2, 1) := by decide +kernel
theorem dX7_trust_18 : decode cX7_trust 18 = .ok (.if_icmp .ne 5, 3) := by decide +kernel
theorem dX7_trust_21 : decode cX7_trust 21 = .ok (.iconst (-1), 1) := by decide +kernel
theorem dX7_trust_22 : decode cX7_trust 22 = .ok (.ireturn, 1) := by decide +kernel
theorem dX7_trust_23 : decode cX7_trust 23 = .ok (.aload_n 0, 1) := by decide +kernel
theorem dX7_trust_24 : decode cX7_trust 24 = .ok (.aload_n 0, 1) := by decide +kernel
theorem dX7_trust_25 : decode cX7_trust 25 = .ok (.getfield 34, 3) := by decide +kernel
theorem dX7_trust_28 : decode cX7_trust 28 = .ok (.iload_n 1, 1) := by decide +kernel
theorem dX7_trust_29 : decode cX7_trust 29 = .ok (.iload_n 2, 1) := by decide +kernel
theorem dX7_trust_30 : decode cX7_trust 30 = .ok (.invokevirtual 213, 3) := by decide +kernel
theorem dX7_trust_33 : decode cX7_trust 33 = .ok (.invokevirtual 103, 3) := by decide +kernel
theorem dX7_trust_36 : decode cX7_trust 36 = .ok (.ireturn, 1) := by decide +kernel
theorem dX7_alone_0 : decode cX7_alone 0 = .ok (.aload_n 0, 1) := by decide +kernel
theorem dX7_alone_1 : decode cX7_alone 1 = .ok (.iload_n 1, 1) := by decide +kernel
theorem dX7_alone_2 : decode cX7_alone 2 = .ok (.invokevirtual 201, 3) := by decide +kernel
theorem dX7_alone_5 : decode cX7_alone 5 = .ok (.ifCond .eq 11, 3) := by decide +kernel
theorem dX7_alone_8 : decode cX7_alone 8 = .ok (.aload_n 0, 1) := by decide +kernel
theorem dX7_alone_9 : decode cX7_alone 9 = .ok (.iload_n 1, 1) := by decide +kernel
theorem dX7_alone_10 : decode cX7_alone 10 = .ok (.invokevirtual 216, 3) := by decide +kernel
theorem dX7_alone_13 : decode cX7_alone 13 = .ok (.goto 4, 3) := by decide +kernel
theorem dX7_alone_16 : decode cX7_alone 16 = .ok (.iconst (-1), 1) := by decide +kernel
theorem dX7_alone_17 : decode cX7_alone 17 = .ok (.ireturn, 1) := by decide +kernel
theorem dX7_wake_0 : decode cX7_wake 0 = .ok (.aload_n 0, 1) := by decide +kernel
theorem dX7_wake_1 : decode cX7_wake 1 = .ok (.iload_n 1, 1) := by decide +kernel
theorem dX7_wake_2 : decode cX7_wake 2 = .ok (.invokevirtual 201, 3) := by decide +kernel
theorem dX7_wake_5 : decode cX7_wake 5 = .ok (.ifCond .eq 11, 3) := by decide +kernel
theorem dX7_wake_8 : decode cX7_wake 8 = .ok (.aload_n 0, 1) := by decide +kernel
theorem dX7_wake_9 : decode cX7_wake 9 = .ok (.iload_n 2, 1) := by decide +kernel
theorem dX7_wake_10 : decode cX7_wake 10 = .ok (.invokevirtual 195, 3) := by decide +kernel
theorem dX7_wake_13 : decode cX7_wake 13 = .ok (.ifCond .ne 5, 3) := by decide +kernel
theorem dX7_wake_16 : decode cX7_wake 16 = .ok (.iconst (-1), 1) := by decide +kernel
theorem dX7_wake_17 : decode cX7_wake 17 = .ok (.ireturn, 1) := by decide +kernel
theorem dX7_wake_18 : decode cX7_wake 18 = .ok (.aload_n 0, 1) := by decide +kernel
theorem dX7_wake_19 : decode cX7_wake 19 = .ok (.iload_n 1, 1) := by decide +kernel
theorem dX7_wake_20 : decode cX7_wake 20 = .ok (.iload_n 3, 1) := by decide +kernel
theorem dX7_wake_21 : decode cX7_wake 21 = .ok (.invokevirtual 219, 3) := by decide +kernel
theorem dX7_wake_24 : decode cX7_wake 24 = .ok (.iload_n 2, 1) := by decide +kernel
theorem dX7_wake_25 : decode cX7_wake 25 = .ok (.invokestatic 223, 3) := by decide +kernel
theorem dX7_wake_28 : decode cX7_wake 28 = .ok (.ifCond .eq 11, 3) := by decide +kernel
theorem dX7_wake_31 : decode cX7_wake 31 = .ok (.aload_n 0, 1) := by decide +kernel
theorem dX7_wake_32 : decode cX7_wake 32 = .ok (.iconst 0, 1) := by decide +kernel
theorem dX7_wake_33 : decode cX7_wake 33 = .ok (.invokevirtual 103, 3) := by decide +kernel
theorem dX7_wake_36 : decode cX7_wake 36 = .ok (.pop, 1) := by decide +kernel
theorem dX7_wake_37 : decode cX7_wake 37 = .ok (.iconst 0, 1) := by decide +kernel
theorem dX7_wake_38 : decode cX7_wake 38 = .ok (.ireturn, 1) := by decide +kernel
theorem dX7_wake_39 : decode cX7_wake 39 = .ok (.iconst 0, 1) := by decide +kernel
theorem dX7_wake_40 : decode cX7_wake 40 = .ok (.istore 4, 2) := by decide +kernel
theorem dX7_wake_42 : decode cX7_wake 42 = .ok (.iload 4, 2) := by decide +kernel
theorem dX7_wake_44 : decode cX7_wake 44 = .ok (.aload_n 0, 1) := by decide +kernel
theorem dX7_wake_45 : decode cX7_wake 45 = .ok (.getfield 66, 3) := by decide +kernel
theorem dX7_wake_48 : decode cX7_wake 48 = .ok (.getfield 226, 3) := by decide +kernel
theorem dX7_wake_51 : decode cX7_wake 51 = .ok (.if_icmp .ge 43, 3) := by decide +kernel
theorem dX7_wake_54 : decode cX7_wake 54 = .ok (.aload_n 0, 1) := by decide +kernel
theorem dX7_wake_55 : decode cX7_wake 55 = .ok (.iload_n 1, 1) := by decide +kernel
theorem dX7_wake_56 : decode cX7_wake 56 = .ok (.iload 4, 2) := by decide +kernel
theorem dX7_wake_58 : decode cX7_wake 58 = .ok (.invokevirtual 229, 3) := by decide +kernel
theorem dX7_wake_61 : decode cX7_wake 61 = .ok (.ifCond .eq 27, 3) := by decide +kernel
theorem dX7_wake_64 : decode cX7_wake 64 = .ok (.aload_n 0, 1) := by decide +kernel
theorem dX7_wake_65 : decode cX7_wake 65 = .ok (.iload 4, 2) := by decide +kernel
theorem dX7_wake_67 : decode cX7_wake 67 = .ok (.invokevirtual 232, 3) := by decide +kernel
theorem dX7_wake_70 : decode cX7_wake 70 = .ok (.iload_n 2, 1) := by decide +kernel
theorem dX7_wake_71 : decode cX7_wake 71 = .ok (.invokestatic 223, 3) := by decide +kernel
theorem dX7_wake_74 : decode cX7_wake 74 = .ok (.ifCond .eq 14, 3) := by decide +kernel
theorem dX7_wake_77 : decode cX7_wake 77 = .ok (.aload_n 0, 1) := by decide +kernel
theorem dX7_wake_78 : decode cX7_wake 78 = .ok (.iconst 1, 1) := by decide +kernel
theorem dX7_wake_79 : decode cX7_wake 79 = .ok (.iload 4, 2) := by decide +kernel
theorem dX7_wake_81 : decode cX7_wake 81 = .ok (.ishl, 1) := by decide +kernel
theorem dX7_wake_82 : decode cX7_wake 82 = .ok (.invokevirtual 103, 3) := by decide +kernel
theorem dX7_wake_85 : decode cX7_wake 85 = .ok (.pop, 1) := by decide +kernel
theorem dX7_wake_86 : decode cX7_wake 86 = .ok (.iconst 1, 1) := by decide +kernel
theorem dX7_wake_87 : decode cX7_wake 87 = .ok (.ireturn, 1) := by decide +kernel
theorem dX7_wake_88 : decode cX7_wake 88 = .ok (.iinc 4 1, 3) := by decide +kernel
theorem dX7_wake_91 : decode cX7_wake 91 = .ok (.goto (-49), 3) := by decide +kernel
theorem dX7_wake_94 : decode cX7_wake 94 = .ok (.bipush (-9), 2) := by decide +kernel
theorem dX7_wake_96 : decode cX7_wake 96 = .ok (.ireturn, 1) := by decide +kernel
theorem dX7_odds_0 : decode cX7_odds 0 = .ok (.aload_n 0, 1) := by decide +kernel
theorem dX7_odds_1 : decode cX7_odds 1 = .ok (.iload_n 1, 1) := by decide +kernel
theorem dX7_odds_2 : decode cX7_odds 2 = .ok (.invokevirtual 201, 3) := by decide +kernel
theorem dX7_odds_5 : decode cX7_odds 5 = .ok (.ifCond .eq 11, 3) := by decide +kernel
theorem dX7_odds_8 : decode cX7_odds 8 = .ok (.aload_n 0, 1) := by decide +kernel
theorem dX7_odds_9 : decode cX7_odds 9 = .ok (.iload_n 2, 1) := by decide +kernel
theorem dX7_odds_10 : decode cX7_odds 10 = .ok (.invokevirtual 195, 3) := by decide +kernel
theorem dX7_odds_13 : decode cX7_odds 13 = .ok (.ifCond .ne 5, 3) := by decide +kernel
theorem dX7_odds_16 : decode cX7_odds 16 = .ok (.iconst (-1), 1) := by decide +kernel
theorem dX7_odds_17 : decode cX7_odds 17 = .ok (.ireturn, 1) := by decide +kernel
theorem dX7_odds_18 : decode cX7_odds 18 = .ok (.iconst 0, 1) := by decide +kernel
theorem dX7_odds_19 : decode cX7_odds 19 = .ok (.istore 4, 2) := by decide +kernel
theorem dX7_odds_21 : decode cX7_odds 21 = .ok (.lconst 1, 1) := by decide +kernel
theorem dX7_odds_22 : decode cX7_odds 22 = .ok (.lstore 5, 2) := by decide +kernel
theorem dX7_odds_24 : decode cX7_odds 24 = .ok (.aload_n 0, 1) := by decide +kernel
theorem dX7_odds_25 : decode cX7_odds 25 = .ok (.iload_n 1, 1) := by decide +kernel
theorem dX7_odds_26 : decode cX7_odds 26 = .ok (.iload_n 3, 1) := by decide +kernel
theorem dX7_odds_27 : decode cX7_odds 27 = .ok (.invokevirtual 219, 3) := by decide +kernel
theorem dX7_odds_30 : decode cX7_odds 30 = .ok (.iload_n 2, 1) := by decide +kernel
theorem dX7_odds_31 : decode cX7_odds 31 = .ok (.invokestatic 223, 3) := by decide +kernel
theorem dX7_odds_34 : decode cX7_odds 34 = .ok (.ifCond .eq 7, 3) := by decide +kernel
theorem dX7_odds_37 : decode cX7_odds 37 = .ok (.lconst 0, 1) := by decide +kernel
theorem dX7_odds_38 : decode cX7_odds 38 = .ok (.goto 4, 3) := by decide +kernel
theorem dX7_odds_41 : decode cX7_odds 41 = .ok (.lconst 1, 1) := by decide +kernel
theorem dX7_odds_42 : decode cX7_odds 42 = .ok (.lstore 7, 2) := by decide +kernel
theorem dX7_odds_44 : decode cX7_odds 44 = .ok (.iconst 0, 1) := by decide +kernel
theorem dX7_odds_45 : decode cX7_odds 45 = .ok (.istore 9, 2) := by decide +kernel
theorem dX7_odds_47 : decode cX7_odds 47 = .ok (.iload 9, 2) := by decide +kernel
theorem dX7_odds_49 : decode cX7_odds 49 = .ok (.aload_n 0, 1) := by decide +kernel
theorem dX7_odds_50 : decode cX7_odds 50 = .ok (.getfield 66, 3) := by decide +kernel
theorem dX7_odds_53 : decode cX7_odds 53 = .ok (.getfield 226, 3) := by decide +kernel
theorem dX7_odds_56 : decode cX7_odds 56 = .ok (.if_icmp .ge 61, 3) := by decide +kernel
theorem dX7_odds_59 : decode cX7_odds 59 = .ok (.aload_n 0, 1) := by decide +kernel
theorem dX7_odds_60 : decode cX7_odds 60 = .ok (.iload_n 1, 1) := by decide +kernel
theorem dX7_odds_61 : decode cX7_odds 61 = .ok (.iload 9, 2) := by decide +kernel
theorem dX7_odds_63 : decode cX7_odds 63 = .ok (.invokevirtual 229, 3) := by decide +kernel
theorem dX7_odds_66 : decode cX7_odds 66 = .ok (.ifCond .eq 45, 3) := by decide +kernel
theorem dX7_odds_69 : decode cX7_odds 69 = .ok (.iinc 4 1, 3) := by decide +kernel
theorem dX7_odds_72 : decode cX7_odds 72 = .ok (.aload_n 0, 1) := by decide +kernel
theorem dX7_odds_73 : decode cX7_odds 73 = .ok (.iload 9, 2) := by decide +kernel
theorem dX7_odds_75 : decode cX7_odds 75 = .ok (.invokevirtual 232, 3) := by decide +kernel
theorem dX7_odds_78 : decode cX7_odds 78 = .ok (.iload_n 2, 1) := by decide +kernel
theorem dX7_odds_79 : decode cX7_odds 79 = .ok (.invokestatic 223, 3) := by decide +kernel
theorem dX7_odds_82 : decode cX7_odds 82 = .ok (.ifCond .eq 29, 3) := by decide +kernel
theorem dX7_odds_85 : decode cX7_odds 85 = .ok (.lload 5, 2) := by decide +kernel
theorem dX7_odds_87 : decode cX7_odds 87 = .ok (.ldc2_w 235, 3) := by decide +kernel
theorem dX7_odds_90 : decode cX7_odds 90 = .ok (.lmul, 1) := by decide +kernel
theorem dX7_odds_91 : decode cX7_odds 91 = .ok (.lstore 5, 2) := by decide +kernel
theorem dX7_odds_93 : decode cX7_odds 93 = .ok (.lload 7, 2) := by decide +kernel
theorem dX7_odds_95 : decode cX7_odds 95 = .ok (.bipush 12, 2) := by decide +kernel
theorem dX7_odds_97 : decode cX7_odds 97 = .ok (.aload_n 0, 1) := by decide +kernel
theorem dX7_odds_98 : decode cX7_odds 98 = .ok (.getfield 66, 3) := by decide +kernel
theorem dX7_odds_101 : decode cX7_odds 101 = .ok (.iload 9, 2) := by decide +kernel
theorem dX7_odds_103 : decode cX7_odds 103 = .ok (.invokevirtual 237, 3) := by decide +kernel
theorem dX7_odds_106 : decode cX7_odds 106 = .ok (.isub, 1) := by decide +kernel
theorem dX7_odds_107 : decode cX7_odds 107 = .ok (.i2l, 1) := by decide +kernel
theorem dX7_odds_108 : decode cX7_odds 108 = .ok (.lmul, 1) := by decide +kernel
theorem dX7_odds_109 : decode cX7_odds 109 = .ok (.lstore 7, 2) := by decide +kernel
theorem dX7_odds_111 : decode cX7_odds 111 = .ok (.iinc 9 1, 3) := by decide +kernel
theorem dX7_odds_114 : decode cX7_odds 114 = .ok (.goto (-67), 3) := by decide +kernel
theorem dX7_odds_117 : decode cX7_odds 117 = .ok (.aload_n 0, 1) := by decide +kernel
theorem dX7_odds_118 : decode cX7_odds 118 = .ok (.lload 5, 2) := by decide +kernel
theorem dX7_odds_120 : decode cX7_odds 120 = .ok (.lload 7, 2) := by decide +kernel
theorem dX7_odds_122 : decode cX7_odds 122 = .ok (.lsub, 1) := by decide +kernel
theorem dX7_odds_123 : decode cX7_odds 123 = .ok (.lload 5, 2) := by decide +kernel
theorem dX7_odds_125 : decode cX7_odds 125 = .ok (.invokevirtual 240, 3) := by decide +kernel
theorem dX7_odds_128 : decode cX7_odds 128 = .ok (.iload 4, 2) := by decide +kernel
theorem dX7_odds_130 : decode cX7_odds 130 = .ok (.ireturn, 1) := by decide +kernel
theorem dX7_soonest_0 : decode cX7_soonest 0 = .ok (.aload_n 0, 1) := by decide +kernel
theorem dX7_soonest_1 : decode cX7_soonest 1 = .ok (.iload_n 1, 1) := by decide +kernel
theorem dX7_soonest_2 : decode cX7_soonest 2 = .ok (.invokevirtual 201, 3) := by decide +kernel
theorem dX7_soonest_5 : decode cX7_soonest 5 = .ok (.ifCond .eq 11, 3) := by decide +kernel
theorem dX7_soonest_8 : decode cX7_soonest 8 = .ok (.aload_n 0, 1) := by decide +kernel
theorem dX7_soonest_9 : decode cX7_soonest 9 = .ok (.iload_n 2, 1) := by decide +kernel
theorem dX7_soonest_10 : decode cX7_soonest 10 = .ok (.invokevirtual 195, 3) := by decide +kernel
theorem dX7_soonest_13 : decode cX7_soonest 13 = .ok (.ifCond .ne 5, 3) := by decide +kernel
theorem dX7_soonest_16 : decode cX7_soonest 16 = .ok (.iconst (-1), 1) := by decide +kernel
theorem dX7_soonest_17 : decode cX7_soonest 17 = .ok (.ireturn, 1) := by decide +kernel
theorem dX7_soonest_18 : decode cX7_soonest 18 = .ok (.aload_n 0, 1) := by decide +kernel
theorem dX7_soonest_19 : decode cX7_soonest 19 = .ok (.iload_n 1, 1) := by decide +kernel
theorem dX7_soonest_20 : decode cX7_soonest 20 = .ok (.invokevirtual 244, 3) := by decide +kernel
theorem dX7_soonest_23 : decode cX7_soonest 23 = .ok (.aload_n 0, 1) := by decide +kernel
theorem dX7_soonest_24 : decode cX7_soonest 24 = .ok (.getfield 48, 3) := by decide +kernel
theorem dX7_soonest_27 : decode cX7_soonest 27 = .ok (.iload_n 3, 1) := by decide +kernel
theorem dX7_soonest_28 : decode cX7_soonest 28 = .ok (.ifCond .eq 15, 3) := by decide +kernel
theorem dX7_soonest_31 : decode cX7_soonest 31 = .ok (.aload_n 0, 1) := by decide +kernel
theorem dX7_soonest_32 : decode cX7_soonest 32 = .ok (.getfield 34, 3) := by decide +kernel
theorem dX7_soonest_35 : decode cX7_soonest 35 = .ok (.iconst 0, 1) := by decide +kernel
theorem dX7_soonest_36 : decode cX7_soonest 36 = .ok (.iload_n 1, 1) := by decide +kernel
theorem dX7_soonest_37 : decode cX7_soonest 37 = .ok (.invokevirtual 247, 3) := by decide +kernel
theorem dX7_soonest_40 : decode cX7_soonest 40 = .ok (.goto 4, 3) := by decide +kernel
theorem dX7_soonest_43 : decode cX7_soonest 43 = .ok (.iconst 0, 1) := by decide +kernel
theorem dX7_soonest_44 : decode cX7_soonest 44 = .ok (.iconst 1, 1) := by decide +kernel
theorem dX7_soonest_45 : decode cX7_soonest 45 = .ok (.iload_n 2, 1) := by decide +kernel
theorem dX7_soonest_46 : decode cX7_soonest 46 = .ok (.ishl, 1) := by decide +kernel
theorem dX7_soonest_47 : decode cX7_soonest 47 = .ok (.iconst 0, 1) := by decide +kernel
theorem dX7_soonest_48 : decode cX7_soonest 48 = .ok (.invokevirtual 250, 3) := by decide +kernel
theorem dX7_soonest_51 : decode cX7_soonest 51 = .ok (.ireturn, 1) := by decide +kernel
theorem dX7_round_0 : decode cX7_round 0 = .ok (.aload_n 0, 1) := by decide +kernel
theorem dX7_round_1 : decode cX7_round 1 = .ok (.iload_n 1, 1) := by decide +kernel
theorem dX7_round_2 : decode cX7_round 2 = .ok (.invokevirtual 201, 3) := by decide +kernel
theorem dX7_round_5 : decode cX7_round 5 = .ok (.ifCond .eq 18, 3) := by decide +kernel
theorem dX7_round_8 : decode cX7_round 8 = .ok (.iload_n 2, 1) := by decide +kernel
theorem dX7_round_9 : decode cX7_round 9 = .ok (.ifCond .lt 14, 3) := by decide +kernel
theorem dX7_round_12 : decode cX7_round 12 = .ok (.iload_n 2, 1) := by decide +kernel
theorem dX7_round_13 : decode cX7_round 13 = .ok (.aload_n 0, 1) := by decide +kernel
theorem dX7_round_14 : decode cX7_round 14 = .ok (.getfield 66, 3) := by decide +kernel
theorem dX7_round_17 : decode cX7_round 17 = .ok (.invokevirtual 254, 3) := by decide +kernel
theorem dX7_round_20 : decode cX7_round 20 = .ok (.if_icmp .le 5, 3) := by decide +kernel
theorem dX7_round_23 : decode cX7_round 23 = .ok (.iconst (-1), 1) := by decide +kernel
theorem dX7_round_24 : decode cX7_round 24 = .ok (.ireturn, 1) := by decide +kernel
theorem dX7_round_25 : decode cX7_round 25 = .ok (.aload_n 0, 1) := by decide +kernel
theorem dX7_round_26 : decode cX7_round 26 = .ok (.iload_n 1, 1) := by decide +kernel
theorem dX7_round_27 : decode cX7_round 27 = .ok (.invokevirtual 244, 3) := by decide +kernel
theorem dX7_round_30 : decode cX7_round 30 = .ok (.aload_n 0, 1) := by decide +kernel
theorem dX7_round_31 : decode cX7_round 31 = .ok (.getfield 48, 3) := by decide +kernel
theorem dX7_round_34 : decode cX7_round 34 = .ok (.iload_n 3, 1) := by decide +kernel
theorem dX7_round_35 : decode cX7_round 35 = .ok (.ifCond .eq 15, 3) := by decide +kernel
theorem dX7_round_38 : decode cX7_round 38 = .ok (.aload_n 0, 1) := by decide +kernel
theorem dX7_round_39 : decode cX7_round 39 = .ok (.getfield 34, 3) := by decide +kernel
theorem dX7_round_42 : decode cX7_round 42 = .ok (.iconst 0, 1) := by decide +kernel
theorem dX7_round_43 : decode cX7_round 43 = .ok (.iload_n 1, 1) := by decide +kernel
theorem dX7_round_44 : decode cX7_round 44 = .ok (.invokevirtual 247, 3) := by decide +kernel
theorem dX7_round_47 : decode cX7_round 47 = .ok (.goto 4, 3) := by decide +kernel
theorem dX7_round_50 : decode cX7_round 50 = .ok (.iconst 0, 1) := by decide +kernel
theorem dX7_round_51 : decode cX7_round 51 = .ok (.iload_n 2, 1) := by decide +kernel
theorem dX7_round_52 : decode cX7_round 52 = .ok (.iconst 1, 1) := by decide +kernel
theorem dX7_round_53 : decode cX7_round 53 = .ok (.invokevirtual 250, 3) := by decide +kernel
theorem dX7_round_56 : decode cX7_round 56 = .ok (.ireturn, 1) := by decide +kernel
theorem dX7_stuck_0 : decode cX7_stuck 0 = .ok (.aload_n 0, 1) := by decide +kernel
theorem dX7_stuck_1 : decode cX7_stuck 1 = .ok (.getfield 34, 3) := by decide +kernel
theorem dX7_stuck_4 : decode cX7_stuck 4 = .ok (.iconst 0, 1) := by decide +kernel
theorem dX7_stuck_5 : decode cX7_stuck 5 = .ok (.iconst (-1), 1) := by decide +kernel
theorem dX7_stuck_6 : decode cX7_stuck 6 = .ok (.invokevirtual 247, 3) := by decide +kernel
theorem dX7_stuck_9 : decode cX7_stuck 9 = .ok (.aload_n 0, 1) := by decide +kernel
theorem dX7_stuck_10 : decode cX7_stuck 10 = .ok (.getfield 34, 3) := by decide +kernel
theorem dX7_stuck_13 : decode cX7_stuck 13 = .ok (.iconst 1, 1) := by decide +kernel
theorem dX7_stuck_14 : decode cX7_stuck 14 = .ok (.iconst (-1), 1) := by decide +kernel
theorem dX7_stuck_15 : decode cX7_stuck 15 = .ok (.invokevirtual 247, 3) := by decide +kernel
theorem dX7_stuck_18 : decode cX7_stuck 18 = .ok (.ior, 1) := by decide +kernel
theorem dX7_stuck_19 : decode cX7_stuck 19 = .ok (.istore_n 1, 1) := by decide +kernel
theorem dX7_stuck_20 : decode cX7_stuck 20 = .ok (.aload_n 0, 1) := by decide +kernel
theorem dX7_stuck_21 : decode cX7_stuck 21 = .ok (.getfield 66, 3) := by decide +kernel
theorem dX7_stuck_24 : decode cX7_stuck 24 = .ok (.invokevirtual 254, 3) := by decide +kernel
theorem dX7_stuck_27 : decode cX7_stuck 27 = .ok (.aload_n 0, 1) := by decide +kernel
theorem dX7_stuck_28 : decode cX7_stuck 28 = .ok (.getfield 34, 3) := by decide +kernel
theorem dX7_stuck_31 : decode cX7_stuck 31 = .ok (.iload_n 1, 1) := by decide +kernel
theorem dX7_stuck_32 : decode cX7_stuck 32 = .ok (.invokevirtual 258, 3) := by decide +kernel
theorem dX7_stuck_35 : decode cX7_stuck 35 = .ok (.iconst (-1), 1) := by decide +kernel
theorem dX7_stuck_36 : decode cX7_stuck 36 = .ok (.ixor, 1) := by decide +kernel
theorem dX7_stuck_37 : decode cX7_stuck 37 = .ok (.iand, 1) := by decide +kernel
theorem dX7_stuck_38 : decode cX7_stuck 38 = .ok (.istore_n 2, 1) := by decide +kernel
theorem dX7_stuck_39 : decode cX7_stuck 39 = .ok (.iconst 0, 1) := by decide +kernel
theorem dX7_stuck_40 : decode cX7_stuck 40 = .ok (.istore_n 3, 1) := by decide +kernel
theorem dX7_stuck_41 : decode cX7_stuck 41 = .ok (.iconst 0, 1) := by decide +kernel
theorem dX7_stuck_42 : decode cX7_stuck 42 = .ok (.istore 4, 2) := by decide +kernel
theorem dX7_stuck_44 : decode cX7_stuck 44 = .ok (.iload 4, 2) := by decide +kernel
theorem dX7_stuck_46 : decode cX7_stuck 46 = .ok (.aload_n 0, 1) := by decide +kernel
theorem dX7_stuck_47 : decode cX7_stuck 47 = .ok (.getfield 66, 3) := by decide +kernel
theorem dX7_stuck_50 : decode cX7_stuck 50 = .ok (.getfield 153, 3) := by decide +kernel
theorem dX7_stuck_53 : decode cX7_stuck 53 = .ok (.if_icmp .ge 37, 3) := by decide +kernel
theorem dX7_stuck_56 : decode cX7_stuck 56 = .ok (.iload_n 2, 1) := by decide +kernel
theorem dX7_stuck_57 : decode cX7_stuck 57 = .ok (.iload 4, 2) := by decide +kernel
theorem dX7_stuck_59 : decode cX7_stuck 59 = .ok (.invokestatic 223, 3) := by decide +kernel
theorem dX7_stuck_62 : decode cX7_stuck 62 = .ok (.ifCond .eq 22, 3) := by decide +kernel
theorem dX7_stuck_65 : decode cX7_stuck 65 = .ok (.aload_n 0, 1) := by decide +kernel
theorem dX7_stuck_66 : decode cX7_stuck 66 = .ok (.getfield 34, 3) := by decide +kernel
theorem dX7_stuck_69 : decode cX7_stuck 69 = .ok (.iload 4, 2) := by decide +kernel
theorem dX7_stuck_71 : decode cX7_stuck 71 = .ok (.invokevirtual 261, 3) := by decide +kernel
theorem dX7_stuck_74 : decode cX7_stuck 74 = .ok (.ifCond .ne 10, 3) := by decide +kernel
theorem dX7_stuck_77 : decode cX7_stuck 77 = .ok (.iload_n 3, 1) := by decide +kernel
theorem dX7_stuck_78 : decode cX7_stuck 78 = .ok (.iconst 1, 1) := by decide +kernel
theorem dX7_stuck_79 : decode cX7_stuck 79 = .ok (.iload 4, 2) := by decide +kernel
theorem dX7_stuck_81 : decode cX7_stuck 81 = .ok (.ishl, 1) := by decide +kernel
theorem dX7_stuck_82 : decode cX7_stuck 82 = .ok (.ior, 1) := by decide +kernel
theorem dX7_stuck_83 : decode cX7_stuck 83 = .ok (.istore_n 3, 1) := by decide +kernel
theorem dX7_stuck_84 : decode cX7_stuck 84 = .ok (.iinc 4 1, 3) := by decide +kernel
theorem dX7_stuck_87 : decode cX7_stuck 87 = .ok (.goto (-43), 3) := by decide +kernel
theorem dX7_stuck_90 : decode cX7_stuck 90 = .ok (.aload_n 0, 1) := by decide +kernel
theorem dX7_stuck_91 : decode cX7_stuck 91 = .ok (.iload_n 3, 1) := by decide +kernel
theorem dX7_stuck_92 : decode cX7_stuck 92 = .ok (.invokevirtual 103, 3) := by decide +kernel
theorem dX7_stuck_95 : decode cX7_stuck 95 = .ok (.pop, 1) := by decide +kernel
theorem dX7_stuck_96 : decode cX7_stuck 96 = .ok (.iload_n 2, 1) := by decide +kernel
theorem dX7_stuck_97 : decode cX7_stuck 97 = .ok (.ireturn, 1) := by decide +kernel
theorem dX7_safe_0 : decode cX7_safe 0 = .ok (.iload_n 1, 1) := by decide +kernel
theorem dX7_safe_1 : decode cX7_safe 1 = .ok (.iconst 1, 1) := by decide +kernel
theorem dX7_safe_2 : decode cX7_safe 2 = .ok (.if_icmp .lt 29, 3) := by decide +kernel
theorem dX7_safe_5 : decode cX7_safe 5 = .ok (.iload_n 1, 1) := by decide +kernel
theorem dX7_safe_6 : decode cX7_safe 6 = .ok (.iconst 2, 1) := by decide +kernel
theorem dX7_safe_7 : decode cX7_safe 7 = .ok (.if_icmp .gt 24, 3) := by decide +kernel
theorem dX7_safe_10 : decode cX7_safe 10 = .ok (.iload_n 2, 1) := by decide +kernel
theorem dX7_safe_11 : decode cX7_safe 11 = .ok (.ifCond .lt 20, 3) := by decide +kernel
theorem dX7_safe_14 : decode cX7_safe 14 = .ok (.iload_n 2, 1) := by decide +kernel
theorem dX7_safe_15 : decode cX7_safe 15 = .ok (.bipush 9, 2) := by decide +kernel
theorem dX7_safe_17 : decode cX7_safe 17 = .ok (.if_icmp .gt 14, 3) := by decide +kernel
theorem dX7_safe_20 : decode cX7_safe 20 = .ok (.aload_n 0, 1) := by decide +kernel
theorem dX7_safe_21 : decode cX7_safe 21 = .ok (.getfield 14, 3) := by decide +kernel
theorem dX7_safe_24 : decode cX7_safe 24 = .ok (.iload_n 3, 1) := by decide +kernel
theorem dX7_safe_25 : decode cX7_safe 25 = .ok (.invokevirtual 115, 3) := by decide +kernel
theorem dX7_safe_28 : decode cX7_safe 28 = .ok (.ifCond .ne 5, 3) := by decide +kernel
theorem dX7_safe_31 : decode cX7_safe 31 = .ok (.iconst (-1), 1) := by decide +kernel
theorem dX7_safe_32 : decode cX7_safe 32 = .ok (.ireturn, 1) := by decide +kernel
theorem dX7_safe_33 : decode cX7_safe 33 = .ok (.aload_n 0, 1) := by decide +kernel
theorem dX7_safe_34 : decode cX7_safe 34 = .ok (.getfield 55, 3) := by decide +kernel
theorem dX7_safe_37 : decode cX7_safe 37 = .ok (.aload_n 0, 1) := by decide +kernel
theorem dX7_safe_38 : decode cX7_safe 38 = .ok (.getfield 66, 3) := by decide +kernel
theorem dX7_safe_41 : decode cX7_safe 41 = .ok (.aload_n 0, 1) := by decide +kernel
theorem dX7_safe_42 : decode cX7_safe 42 = .ok (.getfield 34, 3) := by decide +kernel
theorem dX7_safe_45 : decode cX7_safe 45 = .ok (.iload_n 1, 1) := by decide +kernel
theorem dX7_safe_46 : decode cX7_safe 46 = .ok (.iconst 1, 1) := by decide +kernel
theorem dX7_safe_47 : decode cX7_safe 47 = .ok (.iadd, 1) := by decide +kernel
theorem dX7_safe_48 : decode cX7_safe 48 = .ok (.iload_n 2, 1) := by decide +kernel
theorem dX7_safe_49 : decode cX7_safe 49 = .ok (.invokevirtual 264, 3) := by decide +kernel
theorem dX7_safe_52 : decode cX7_safe 52 = .ok (.aload_n 0, 1) := by decide +kernel
theorem dX7_safe_53 : decode cX7_safe 53 = .ok (.getfield 55, 3) := by decide +kernel
theorem dX7_safe_56 : decode cX7_safe 56 = .ok (.invokevirtual 268, 3) := by decide +kernel
theorem dX7_safe_59 : decode cX7_safe 59 = .ok (.ifCond .ne 6, 3) := by decide +kernel
theorem dX7_safe_62 : decode cX7_safe 62 = .ok (.bipush (-9), 2) := by decide +kernel
theorem dX7_safe_64 : decode cX7_safe 64 = .ok (.ireturn, 1) := by decide +kernel
theorem dX7_safe_65 : decode cX7_safe 65 = .ok (.aload_n 0, 1) := by decide +kernel
theorem dX7_safe_66 : decode cX7_safe 66 = .ok (.getfield 55, 3) := by decide +kernel
theorem dX7_safe_69 : decode cX7_safe 69 = .ok (.invokevirtual 272, 3) := by decide +kernel
theorem dX7_safe_72 : decode cX7_safe 72 = .ok (.istore 4, 2) := by decide +kernel
theorem dX7_safe_74 : decode cX7_safe 74 = .ok (.aload_n 0, 1) := by decide +kernel
theorem dX7_safe_75 : decode cX7_safe 75 = .ok (.getfield 14, 3) := by decide +kernel
theorem dX7_safe_78 : decode cX7_safe 78 = .ok (.iload_n 3, 1) := by decide +kernel
theorem dX7_safe_79 : decode cX7_safe 79 = .ok (.iconst 2, 1) := by decide +kernel
theorem dX7_safe_80 : decode cX7_safe 80 = .ok (.iload 4, 2) := by decide +kernel
theorem dX7_safe_82 : decode cX7_safe 82 = .ok (.imul, 1) := by decide +kernel
theorem dX7_safe_83 : decode cX7_safe 83 = .ok (.iconst 0, 1) := by decide +kernel
theorem dX7_safe_84 : decode cX7_safe 84 = .ok (.invokevirtual 274, 3) := by decide +kernel
theorem dX7_safe_87 : decode cX7_safe 87 = .ok (.iconst 0, 1) := by decide +kernel
theorem dX7_safe_88 : decode cX7_safe 88 = .ok (.istore 5, 2) := by decide +kernel
theorem dX7_safe_90 : decode cX7_safe 90 = .ok (.iconst 0, 1) := by decide +kernel
theorem dX7_safe_91 : decode cX7_safe 91 = .ok (.istore 6, 2) := by decide +kernel
theorem dX7_safe_93 : decode cX7_safe 93 = .ok (.iload 6, 2) := by decide +kernel
theorem dX7_safe_95 : decode cX7_safe 95 = .ok (.bipush 6, 2) := by decide +kernel
theorem dX7_safe_97 : decode cX7_safe 97 = .ok (.if_icmp .ge 72, 3) := by decide +kernel
theorem dX7_safe_100 : decode cX7_safe 100 = .ok (.iconst 0, 1) := by decide +kernel
theorem dX7_safe_101 : decode cX7_safe 101 = .ok (.istore 7, 2) := by decide +kernel
theorem dX7_safe_103 : decode cX7_safe 103 = .ok (.iload 7, 2) := by decide +kernel
theorem dX7_safe_105 : decode cX7_safe 105 = .ok (.bipush 6, 2) := by decide +kernel
theorem dX7_safe_107 : decode cX7_safe 107 = .ok (.if_icmp .ge 56, 3) := by decide +kernel
theorem dX7_safe_110 : decode cX7_safe 110 = .ok (.aload_n 0, 1) := by decide +kernel
theorem dX7_safe_111 : decode cX7_safe 111 = .ok (.getfield 55, 3) := by decide +kernel
theorem dX7_safe_114 : decode cX7_safe 114 = .ok (.getfield 277, 3) := by decide +kernel
theorem dX7_safe_117 : decode cX7_safe 117 = .ok (.iload 6, 2) := by decide +kernel
theorem dX7_safe_119 : decode cX7_safe 119 = .ok (.iaload, 1) := by decide +kernel
theorem dX7_safe_120 : decode cX7_safe 120 = .ok (.iload 7, 2) := by decide +kernel
theorem dX7_safe_122 : decode cX7_safe 122 = .ok (.invokestatic 223, 3) := by decide +kernel
theorem dX7_safe_125 : decode cX7_safe 125 = .ok (.ifCond .eq 32, 3) := by decide +kernel
theorem dX7_safe_128 : decode cX7_safe 128 = .ok (.aload_n 0, 1) := by decide +kernel
theorem dX7_safe_129 : decode cX7_safe 129 = .ok (.getfield 14, 3) := by decide +kernel
theorem dX7_safe_132 : decode cX7_safe 132 = .ok (.iload_n 3, 1) := by decide +kernel
theorem dX7_safe_133 : decode cX7_safe 133 = .ok (.iload 5, 2) := by decide +kernel
theorem dX7_safe_135 : decode cX7_safe 135 = .ok (.iload 6, 2) := by decide +kernel
theorem dX7_safe_137 : decode cX7_safe 137 = .ok (.invokevirtual 99, 3) := by decide +kernel
theorem dX7_safe_140 : decode cX7_safe 140 = .ok (.aload_n 0, 1) := by decide +kernel
theorem dX7_safe_141 : decode cX7_safe 141 = .ok (.getfield 14, 3) := by decide +kernel
theorem dX7_safe_144 : decode cX7_safe 144 = .ok (.iload_n 3, 1) := by decide +kernel
theorem dX7_safe_145 : decode cX7_safe 145 = .ok (.iload 5, 2) := by decide +kernel
theorem dX7_safe_147 : decode cX7_safe 147 = .ok (.iconst 1, 1) := by decide +kernel
theorem dX7_safe_148 : decode cX7_safe 148 = .ok (.iadd, 1) := by decide +kernel
theorem dX7_safe_149 : decode cX7_safe 149 = .ok (.iload 7, 2) := by decide +kernel
theorem dX7_safe_151 : decode cX7_safe 151 = .ok (.invokevirtual 99, 3) := by decide +kernel
theorem dX7_safe_154 : decode cX7_safe 154 = .ok (.iinc 5 2, 3) := by decide +kernel
theorem dX7_safe_157 : decode cX7_safe 157 = .ok (.iinc 7 1, 3) := by decide +kernel
theorem dX7_safe_160 : decode cX7_safe 160 = .ok (.goto (-57), 3) := by decide +kernel
theorem dX7_safe_163 : decode cX7_safe 163 = .ok (.iinc 6 1, 3) := by decide +kernel
theorem dX7_safe_166 : decode cX7_safe 166 = .ok (.goto (-73), 3) := by decide +kernel
theorem dX7_safe_169 : decode cX7_safe 169 = .ok (.iload 4, 2) := by decide +kernel
theorem dX7_safe_171 : decode cX7_safe 171 = .ok (.ireturn, 1) := by decide +kernel
theorem dX7_suspects_0 : decode cX7_suspects 0 = .ok (.aload_n 0, 1) := by decide +kernel
theorem dX7_suspects_1 : decode cX7_suspects 1 = .ok (.iload_n 1, 1) := by decide +kernel
theorem dX7_suspects_2 : decode cX7_suspects 2 = .ok (.invokevirtual 195, 3) := by decide +kernel
theorem dX7_suspects_5 : decode cX7_suspects 5 = .ok (.ifCond .ne 5, 3) := by decide +kernel
theorem dX7_suspects_8 : decode cX7_suspects 8 = .ok (.iconst (-1), 1) := by decide +kernel
theorem dX7_suspects_9 : decode cX7_suspects 9 = .ok (.ireturn, 1) := by decide +kernel
theorem dX7_suspects_10 : decode cX7_suspects 10 = .ok (.iconst 0, 1) := by decide +kernel
theorem dX7_suspects_11 : decode cX7_suspects 11 = .ok (.istore_n 2, 1) := by decide +kernel
theorem dX7_suspects_12 : decode cX7_suspects 12 = .ok (.iconst 0, 1) := by decide +kernel
theorem dX7_suspects_13 : decode cX7_suspects 13 = .ok (.istore_n 3, 1) := by decide +kernel
theorem dX7_suspects_14 : decode cX7_suspects 14 = .ok (.iconst 0, 1) := by decide +kernel
theorem dX7_suspects_15 : decode cX7_suspects 15 = .ok (.istore 4, 2) := by decide +kernel
theorem dX7_suspects_17 : decode cX7_suspects 17 = .ok (.iload 4, 2) := by decide +kernel
theorem dX7_suspects_19 : decode cX7_suspects 19 = .ok (.aload_n 0, 1) := by decide +kernel
theorem dX7_suspects_20 : decode cX7_suspects 20 = .ok (.getfield 66, 3) := by decide +kernel
theorem dX7_suspects_23 : decode cX7_suspects 23 = .ok (.getfield 226, 3) := by decide +kernel
theorem dX7_suspects_26 : decode cX7_suspects 26 = .ok (.if_icmp .ge 91, 3) := by decide +kernel
theorem dX7_suspects_29 : decode cX7_suspects 29 = .ok (.aload_n 0, 1) := by decide +kernel
theorem dX7_suspects_30 : decode cX7_suspects 30 = .ok (.getfield 66, 3) := by decide +kernel
theorem dX7_suspects_33 : decode cX7_suspects 33 = .ok (.iload 4, 2) := by decide +kernel
theorem dX7_suspects_35 : decode cX7_suspects 35 = .ok (.invokevirtual 280, 3) := by decide +kernel
theorem dX7_suspects_38 : decode cX7_suspects 38 = .ok (.iload_n 1, 1) := by decide +kernel
theorem dX7_suspects_39 : decode cX7_suspects 39 = .ok (.if_icmp .eq 72, 3) := by decide +kernel
theorem dX7_suspects_42 : decode cX7_suspects 42 = .ok (.aload_n 0, 1) := by decide +kernel
theorem dX7_suspects_43 : decode cX7_suspects 43 = .ok (.iload 4, 2) := by decide +kernel
theorem dX7_suspects_45 : decode cX7_suspects 45 = .ok (.invokevirtual 216, 3) := by decide +kernel
theorem dX7_suspects_48 : decode cX7_suspects 48 = .ok (.istore 5, 2) := by decide +kernel
theorem dX7_suspects_50 : decode cX7_suspects 50 = .ok (.iload_n 2, 1) := by decide +kernel
theorem dX7_suspects_51 : decode cX7_suspects 51 = .ok (.iload 5, 2) := by decide +kernel
theorem dX7_suspects_53 : decode cX7_suspects 53 = .ok (.iload_n 1, 1) := by decide +kernel
theorem dX7_suspects_54 : decode cX7_suspects 54 = .ok (.invokestatic 223, 3) := by decide +kernel
theorem dX7_suspects_57 : decode cX7_suspects 57 = .ok (.ifCond .eq 10, 3) := by decide +kernel
theorem dX7_suspects_60 : decode cX7_suspects 60 = .ok (.iconst 1, 1) := by decide +kernel
theorem dX7_suspects_61 : decode cX7_suspects 61 = .ok (.iload 4, 2) := by decide +kernel
theorem dX7_suspects_63 : decode cX7_suspects 63 = .ok (.ishl, 1) := by decide +kernel
theorem dX7_suspects_64 : decode cX7_suspects 64 = .ok (.goto 4, 3) := by decide +kernel
theorem dX7_suspects_67 : decode cX7_suspects 67 = .ok (.iconst 0, 1) := by decide +kernel
theorem dX7_suspects_68 : decode cX7_suspects 68 = .ok (.ior, 1) := by decide +kernel
theorem dX7_suspects_69 : decode cX7_suspects 69 = .ok (.istore_n 2, 1) := by decide +kernel
theorem dX7_suspects_70 : decode cX7_suspects 70 = .ok (.iload 5, 2) := by decide +kernel
theorem dX7_suspects_72 : decode cX7_suspects 72 = .ok (.aload_n 0, 1) := by decide +kernel
theorem dX7_suspects_73 : decode cX7_suspects 73 = .ok (.getfield 34, 3) := by decide +kernel
theorem dX7_suspects_76 : decode cX7_suspects 76 = .ok (.aload_n 0, 1) := by decide +kernel
theorem dX7_suspects_77 : decode cX7_suspects 77 = .ok (.getfield 34, 3) := by decide +kernel
theorem dX7_suspects_80 : decode cX7_suspects 80 = .ok (.iload 4, 2) := by decide +kernel
theorem dX7_suspects_82 : decode cX7_suspects 82 = .ok (.invokevirtual 283, 3) := by decide +kernel
theorem dX7_suspects_85 : decode cX7_suspects 85 = .ok (.invokevirtual 258, 3) := by decide +kernel
theorem dX7_suspects_88 : decode cX7_suspects 88 = .ok (.ior, 1) := by decide +kernel
theorem dX7_suspects_89 : decode cX7_suspects 89 = .ok (.istore 5, 2) := by decide +kernel
theorem dX7_suspects_91 : decode cX7_suspects 91 = .ok (.iload_n 3, 1) := by decide +kernel
theorem dX7_suspects_92 : decode cX7_suspects 92 = .ok (.iload 5, 2) := by decide +kernel
theorem dX7_suspects_94 : decode cX7_suspects 94 = .ok (.iload_n 1, 1) := by decide +kernel
theorem dX7_suspects_95 : decode cX7_suspects 95 = .ok (.invokestatic 223, 3) := by decide +kernel
theorem dX7_suspects_98 : decode cX7_suspects 98 = .ok (.ifCond .eq 10, 3) := by decide +kernel
theorem dX7_suspects_101 : decode cX7_suspects 101 = .ok (.iconst 1, 1) := by decide +kernel
theorem dX7_suspects_102 : decode cX7_suspects 102 = .ok (.iload 4, 2) := by decide +kernel
theorem dX7_suspects_104 : decode cX7_suspects 104 = .ok (.ishl, 1) := by decide +kernel
theorem dX7_suspects_105 : decode cX7_suspects 105 = .ok (.goto 4, 3) := by decide +kernel
theorem dX7_suspects_108 : decode cX7_suspects 108 = .ok (.iconst 0, 1) := by decide +kernel
theorem dX7_suspects_109 : decode cX7_suspects 109 = .ok (.ior, 1) := by decide +kernel
theorem dX7_suspects_110 : decode cX7_suspects 110 = .ok (.istore_n 3, 1) := by decide +kernel
theorem dX7_suspects_111 : decode cX7_suspects 111 = .ok (.iinc 4 1, 3) := by decide +kernel
theorem dX7_suspects_114 : decode cX7_suspects 114 = .ok (.goto (-97), 3) := by decide +kernel
theorem dX7_suspects_117 : decode cX7_suspects 117 = .ok (.aload_n 0, 1) := by decide +kernel
theorem dX7_suspects_118 : decode cX7_suspects 118 = .ok (.iload_n 3, 1) := by decide +kernel
theorem dX7_suspects_119 : decode cX7_suspects 119 = .ok (.invokevirtual 103, 3) := by decide +kernel
theorem dX7_suspects_122 : decode cX7_suspects 122 = .ok (.pop, 1) := by decide +kernel
theorem dX7_suspects_123 : decode cX7_suspects 123 = .ok (.iload_n 2, 1) := by decide +kernel
theorem dX7_suspects_124 : decode cX7_suspects 124 = .ok (.ireturn, 1) := by decide +kernel
theorem dX7_copies_0 : decode cX7_copies 0 = .ok (.aload_n 0, 1) := by decide +kernel
theorem dX7_copies_1 : decode cX7_copies 1 = .ok (.iload_n 1, 1) := by decide +kernel
theorem dX7_copies_2 : decode cX7_copies 2 = .ok (.invokevirtual 201, 3) := by decide +kernel
theorem dX7_copies_5 : decode cX7_copies 5 = .ok (.ifCond .eq 23, 3) := by decide +kernel
theorem dX7_copies_8 : decode cX7_copies 8 = .ok (.aload_n 0, 1) := by decide +kernel
theorem dX7_copies_9 : decode cX7_copies 9 = .ok (.iload_n 2, 1) := by decide +kernel
theorem dX7_copies_10 : decode cX7_copies 10 = .ok (.invokevirtual 195, 3) := by decide +kernel
theorem dX7_copies_13 : decode cX7_copies 13 = .ok (.ifCond .eq 15, 3) := by decide +kernel
theorem dX7_copies_16 : decode cX7_copies 16 = .ok (.aload_n 0, 1) := by decide +kernel
theorem dX7_copies_17 : decode cX7_copies 17 = .ok (.getfield 66, 3) := by decide +kernel
theorem dX7_copies_20 : decode cX7_copies 20 = .ok (.iload_n 1, 1) := by decide +kernel
theorem dX7_copies_21 : decode cX7_copies 21 = .ok (.invokevirtual 280, 3) := by decide +kernel
theorem dX7_copies_24 : decode cX7_copies 24 = .ok (.iload_n 2, 1) := by decide +kernel
theorem dX7_copies_25 : decode cX7_copies 25 = .ok (.if_icmp .ne 5, 3) := by decide +kernel
theorem dX7_copies_28 : decode cX7_copies 28 = .ok (.iconst (-1), 1) := by decide +kernel
theorem dX7_copies_29 : decode cX7_copies 29 = .ok (.ireturn, 1) := by decide +kernel
theorem dX7_copies_30 : decode cX7_copies 30 = .ok (.aload_n 0, 1) := by decide +kernel
theorem dX7_copies_31 : decode cX7_copies 31 = .ok (.iload_n 1, 1) := by decide +kernel
theorem dX7_copies_32 : decode cX7_copies 32 = .ok (.invokevirtual 216, 3) := by decide +kernel
theorem dX7_copies_35 : decode cX7_copies 35 = .ok (.iload_n 2, 1) := by decide +kernel
theorem dX7_copies_36 : decode cX7_copies 36 = .ok (.invokestatic 223, 3) := by decide +kernel
theorem dX7_copies_39 : decode cX7_copies 39 = .ok (.ifCond .eq 11, 3) := by decide +kernel
theorem dX7_copies_42 : decode cX7_copies 42 = .ok (.aload_n 0, 1) := by decide +kernel
theorem dX7_copies_43 : decode cX7_copies 43 = .ok (.iconst 0, 1) := by decide +kernel
theorem dX7_copies_44 : decode cX7_copies 44 = .ok (.invokevirtual 103, 3) := by decide +kernel
theorem dX7_copies_47 : decode cX7_copies 47 = .ok (.pop, 1) := by decide +kernel
theorem dX7_copies_48 : decode cX7_copies 48 = .ok (.iconst 0, 1) := by decide +kernel
theorem dX7_copies_49 : decode cX7_copies 49 = .ok (.ireturn, 1) := by decide +kernel
theorem dX7_copies_50 : decode cX7_copies 50 = .ok (.aload_n 0, 1) := by decide +kernel
theorem dX7_copies_51 : decode cX7_copies 51 = .ok (.getfield 34, 3) := by decide +kernel
theorem dX7_copies_54 : decode cX7_copies 54 = .ok (.iload_n 1, 1) := by decide +kernel
theorem dX7_copies_55 : decode cX7_copies 55 = .ok (.invokevirtual 283, 3) := by decide +kernel
theorem dX7_copies_58 : decode cX7_copies 58 = .ok (.istore_n 3, 1) := by decide +kernel
theorem dX7_copies_59 : decode cX7_copies 59 = .ok (.iconst 0, 1) := by decide +kernel
theorem dX7_copies_60 : decode cX7_copies 60 = .ok (.istore 4, 2) := by decide +kernel
theorem dX7_copies_62 : decode cX7_copies 62 = .ok (.iload 4, 2) := by decide +kernel
theorem dX7_copies_64 : decode cX7_copies 64 = .ok (.aload_n 0, 1) := by decide +kernel
theorem dX7_copies_65 : decode cX7_copies 65 = .ok (.getfield 66, 3) := by decide +kernel
theorem dX7_copies_68 : decode cX7_copies 68 = .ok (.getfield 153, 3) := by decide +kernel
theorem dX7_copies_71 : decode cX7_copies 71 = .ok (.if_icmp .ge 47, 3) := by decide +kernel
theorem dX7_copies_74 : decode cX7_copies 74 = .ok (.iload_n 3, 1) := by decide +kernel
theorem dX7_copies_75 : decode cX7_copies 75 = .ok (.iload 4, 2) := by decide +kernel
theorem dX7_copies_77 : decode cX7_copies 77 = .ok (.invokestatic 223, 3) := by decide +kernel
theorem dX7_copies_80 : decode cX7_copies 80 = .ok (.ifCond .eq 32, 3) := by decide +kernel
theorem dX7_copies_83 : decode cX7_copies 83 = .ok (.aload_n 0, 1) := by decide +kernel
theorem dX7_copies_84 : decode cX7_copies 84 = .ok (.getfield 34, 3) := by decide +kernel
theorem dX7_copies_87 : decode cX7_copies 87 = .ok (.iconst 1, 1) := by decide +kernel
theorem dX7_copies_88 : decode cX7_copies 88 = .ok (.iload 4, 2) := by decide +kernel
theorem dX7_copies_90 : decode cX7_copies 90 = .ok (.ishl, 1) := by decide +kernel
theorem dX7_copies_91 : decode cX7_copies 91 = .ok (.invokevirtual 258, 3) := by decide +kernel
theorem dX7_copies_94 : decode cX7_copies 94 = .ok (.iload_n 2, 1) := by decide +kernel
theorem dX7_copies_95 : decode cX7_copies 95 = .ok (.invokestatic 223, 3) := by decide +kernel
theorem dX7_copies_98 : decode cX7_copies 98 = .ok (.ifCond .eq 14, 3) := by decide +kernel
theorem dX7_copies_101 : decode cX7_copies 101 = .ok (.aload_n 0, 1) := by decide +kernel
theorem dX7_copies_102 : decode cX7_copies 102 = .ok (.iconst 1, 1) := by decide +kernel
theorem dX7_copies_103 : decode cX7_copies 103 = .ok (.iload 4, 2) := by decide +kernel
theorem dX7_copies_105 : decode cX7_copies 105 = .ok (.ishl, 1) := by decide +kernel
theorem dX7_copies_106 : decode cX7_copies 106 = .ok (.invokevirtual 103, 3) := by decide +kernel
theorem dX7_copies_109 : decode cX7_copies 109 = .ok (.pop, 1) := by decide +kernel
theorem dX7_copies_110 : decode cX7_copies 110 = .ok (.iconst 1, 1) := by decide +kernel
theorem dX7_copies_111 : decode cX7_copies 111 = .ok (.ireturn, 1) := by decide +kernel
theorem dX7_copies_112 : decode cX7_copies 112 = .ok (.iinc 4 1, 3) := by decide +kernel
theorem dX7_copies_115 : decode cX7_copies 115 = .ok (.goto (-53), 3) := by decide +kernel
theorem dX7_copies_118 : decode cX7_copies 118 = .ok (.bipush (-9), 2) := by decide +kernel
theorem dX7_copies_120 : decode cX7_copies 120 = .ok (.ireturn, 1) := by decide +kernel
theorem dX7_dead_0 : decode cX7_dead 0 = .ok (.aload_n 0, 1) := by decide +kernel
theorem dX7_dead_1 : decode cX7_dead 1 = .ok (.iload_n 1, 1) := by decide +kernel
theorem dX7_dead_2 : decode cX7_dead 2 = .ok (.invokevirtual 195, 3) := by decide +kernel
theorem dX7_dead_5 : decode cX7_dead 5 = .ok (.ifCond .ne 5, 3) := by decide +kernel
theorem dX7_dead_8 : decode cX7_dead 8 = .ok (.iconst (-1), 1) := by decide +kernel
theorem dX7_dead_9 : decode cX7_dead 9 = .ok (.ireturn, 1) := by decide +kernel
theorem dX7_dead_10 : decode cX7_dead 10 = .ok (.iconst 0, 1) := by decide +kernel
theorem dX7_dead_11 : decode cX7_dead 11 = .ok (.istore_n 2, 1) := by decide +kernel
theorem dX7_dead_12 : decode cX7_dead 12 = .ok (.iconst 0, 1) := by decide +kernel
theorem dX7_dead_13 : decode cX7_dead 13 = .ok (.istore_n 3, 1) := by decide +kernel
theorem dX7_dead_14 : decode cX7_dead 14 = .ok (.iconst 0, 1) := by decide +kernel
theorem dX7_dead_15 : decode cX7_dead 15 = .ok (.istore 4, 2) := by decide +kernel
theorem dX7_dead_17 : decode cX7_dead 17 = .ok (.iload 4, 2) := by decide +kernel
theorem dX7_dead_19 : decode cX7_dead 19 = .ok (.aload_n 0, 1) := by decide +kernel
theorem dX7_dead_20 : decode cX7_dead 20 = .ok (.getfield 34, 3) := by decide +kernel
theorem dX7_dead_23 : decode cX7_dead 23 = .ok (.getfield 168, 3) := by decide +kernel
theorem dX7_dead_26 : decode cX7_dead 26 = .ok (.if_icmp .ge 70, 3) := by decide +kernel
theorem dX7_dead_29 : decode cX7_dead 29 = .ok (.aload_n 0, 1) := by decide +kernel
theorem dX7_dead_30 : decode cX7_dead 30 = .ok (.getfield 34, 3) := by decide +kernel
theorem dX7_dead_33 : decode cX7_dead 33 = .ok (.getfield 286, 3) := by decide +kernel
theorem dX7_dead_36 : decode cX7_dead 36 = .ok (.iload 4, 2) := by decide +kernel
theorem dX7_dead_38 : decode cX7_dead 38 = .ok (.iaload, 1) := by decide +kernel
theorem dX7_dead_39 : decode cX7_dead 39 = .ok (.iload_n 1, 1) := by decide +kernel
theorem dX7_dead_40 : decode cX7_dead 40 = .ok (.if_icmp .ne 50, 3) := by decide +kernel
theorem dX7_dead_43 : decode cX7_dead 43 = .ok (.aload_n 0, 1) := by decide +kernel
theorem dX7_dead_44 : decode cX7_dead 44 = .ok (.getfield 34, 3) := by decide +kernel
theorem dX7_dead_47 : decode cX7_dead 47 = .ok (.iload 4, 2) := by decide +kernel
theorem dX7_dead_49 : decode cX7_dead 49 = .ok (.invokevirtual 289, 3) := by decide +kernel
theorem dX7_dead_52 : decode cX7_dead 52 = .ok (.ifCond .ne 38, 3) := by decide +kernel
theorem dX7_dead_55 : decode cX7_dead 55 = .ok (.iinc 2 1, 3) := by decide +kernel
theorem dX7_dead_58 : decode cX7_dead 58 = .ok (.iload_n 3, 1) := by decide +kernel
theorem dX7_dead_59 : decode cX7_dead 59 = .ok (.aload_n 0, 1) := by decide +kernel
theorem dX7_dead_60 : decode cX7_dead 60 = .ok (.getfield 34, 3) := by decide +kernel
theorem dX7_dead_63 : decode cX7_dead 63 = .ok (.getfield 292, 3) := by decide +kernel
theorem dX7_dead_66 : decode cX7_dead 66 = .ok (.iload 4, 2) := by decide +kernel
theorem dX7_dead_68 : decode cX7_dead 68 = .ok (.iaload, 1) := by decide +kernel
theorem dX7_dead_69 : decode cX7_dead 69 = .ok (.ifCond .ne 18, 3) := by decide +kernel
theorem dX7_dead_72 : decode cX7_dead 72 = .ok (.iconst 1, 1) := by decide +kernel
theorem dX7_dead_73 : decode cX7_dead 73 = .ok (.aload_n 0, 1) := by decide +kernel
theorem dX7_dead_74 : decode cX7_dead 74 = .ok (.getfield 34, 3) := by decide +kernel
theorem dX7_dead_77 : decode cX7_dead 77 = .ok (.getfield 295, 3) := by decide +kernel
theorem dX7_dead_80 : decode cX7_dead 80 = .ok (.iload 4, 2) := by decide +kernel
theorem dX7_dead_82 : decode cX7_dead 82 = .ok (.iaload, 1) := by decide +kernel
theorem dX7_dead_83 : decode cX7_dead 83 = .ok (.ishl, 1) := by decide +kernel
theorem dX7_dead_84 : decode cX7_dead 84 = .ok (.goto 4, 3) := by decide +kernel
theorem dX7_dead_87 : decode cX7_dead 87 = .ok (.iconst 0, 1) := by decide +kernel
theorem dX7_dead_88 : decode cX7_dead 88 = .ok (.ior, 1) := by decide +kernel
theorem dX7_dead_89 : decode cX7_dead 89 = .ok (.istore_n 3, 1) := by decide +kernel
theorem dX7_dead_90 : decode cX7_dead 90 = .ok (.iinc 4 1, 3) := by decide +kernel
theorem dX7_dead_93 : decode cX7_dead 93 = .ok (.goto (-76), 3) := by decide +kernel
theorem dX7_dead_96 : decode cX7_dead 96 = .ok (.aload_n 0, 1) := by decide +kernel
theorem dX7_dead_97 : decode cX7_dead 97 = .ok (.iload_n 3, 1) := by decide +kernel
theorem dX7_dead_98 : decode cX7_dead 98 = .ok (.invokevirtual 103, 3) := by decide +kernel
theorem dX7_dead_101 : decode cX7_dead 101 = .ok (.pop, 1) := by decide +kernel
theorem dX7_dead_102 : decode cX7_dead 102 = .ok (.iload_n 2, 1) := by decide +kernel
theorem dX7_dead_103 : decode cX7_dead 103 = .ok (.ireturn, 1) := by decide +kernel
theorem dX7_lost_0 : decode cX7_lost 0 = .ok (.aload_n 0, 1) := by decide +kernel
theorem dX7_lost_1 : decode cX7_lost 1 = .ok (.iload_n 1, 1) := by decide +kernel
theorem dX7_lost_2 : decode cX7_lost 2 = .ok (.invokevirtual 201, 3) := by decide +kernel
theorem dX7_lost_5 : decode cX7_lost 5 = .ok (.ifCond .eq 14, 3) := by decide +kernel
theorem dX7_lost_8 : decode cX7_lost 8 = .ok (.aload_n 0, 1) := by decide +kernel
theorem dX7_lost_9 : decode cX7_lost 9 = .ok (.getfield 14, 3) := by decide +kernel
theorem dX7_lost_12 : decode cX7_lost 12 = .ok (.iload_n 2, 1) := by decide +kernel
theorem dX7_lost_13 : decode cX7_lost 13 = .ok (.invokevirtual 115, 3) := by decide +kernel
theorem dX7_lost_16 : decode cX7_lost 16 = .ok (.ifCond .ne 5, 3) := by decide +kernel
theorem dX7_lost_19 : decode cX7_lost 19 = .ok (.iconst (-1), 1) := by decide +kernel
theorem dX7_lost_20 : decode cX7_lost 20 = .ok (.ireturn, 1) := by decide +kernel
theorem dX7_lost_21 : decode cX7_lost 21 = .ok (.aload_n 0, 1) := by decide +kernel
theorem dX7_lost_22 : decode cX7_lost 22 = .ok (.getfield 34, 3) := by decide +kernel
theorem dX7_lost_25 : decode cX7_lost 25 = .ok (.iconst 0, 1) := by decide +kernel
theorem dX7_lost_26 : decode cX7_lost 26 = .ok (.iload_n 1, 1) := by decide +kernel
theorem dX7_lost_27 : decode cX7_lost 27 = .ok (.invokevirtual 247, 3) := by decide +kernel
theorem dX7_lost_30 : decode cX7_lost 30 = .ok (.istore_n 3, 1) := by decide +kernel
theorem dX7_lost_31 : decode cX7_lost 31 = .ok (.iload_n 3, 1) := by decide +kernel
theorem dX7_lost_32 : decode cX7_lost 32 = .ok (.invokestatic 298, 3) := by decide +kernel
theorem dX7_lost_35 : decode cX7_lost 35 = .ok (.istore 4, 2) := by decide +kernel
theorem dX7_lost_37 : decode cX7_lost 37 = .ok (.iconst 0, 1) := by decide +kernel
theorem dX7_lost_38 : decode cX7_lost 38 = .ok (.istore 5, 2) := by decide +kernel
theorem dX7_lost_40 : decode cX7_lost 40 = .ok (.aload_n 0, 1) := by decide +kernel
theorem dX7_lost_41 : decode cX7_lost 41 = .ok (.getfield 14, 3) := by decide +kernel
theorem dX7_lost_44 : decode cX7_lost 44 = .ok (.iload_n 2, 1) := by decide +kernel
theorem dX7_lost_45 : decode cX7_lost 45 = .ok (.iload 4, 2) := by decide +kernel
theorem dX7_lost_47 : decode cX7_lost 47 = .ok (.iconst 0, 1) := by decide +kernel
theorem dX7_lost_48 : decode cX7_lost 48 = .ok (.invokevirtual 274, 3) := by decide +kernel
theorem dX7_lost_51 : decode cX7_lost 51 = .ok (.iconst 0, 1) := by decide +kernel
theorem dX7_lost_52 : decode cX7_lost 52 = .ok (.istore 6, 2) := by decide +kernel
theorem dX7_lost_54 : decode cX7_lost 54 = .ok (.iload 6, 2) := by decide +kernel
theorem dX7_lost_56 : decode cX7_lost 56 = .ok (.iload 4, 2) := by decide +kernel
theorem dX7_lost_58 : decode cX7_lost 58 = .ok (.if_icmp .ge 51, 3) := by decide +kernel
theorem dX7_lost_61 : decode cX7_lost 61 = .ok (.aload_n 0, 1) := by decide +kernel
theorem dX7_lost_62 : decode cX7_lost 62 = .ok (.iload_n 3, 1) := by decide +kernel
theorem dX7_lost_63 : decode cX7_lost 63 = .ok (.invokevirtual 303, 3) := by decide +kernel
theorem dX7_lost_66 : decode cX7_lost 66 = .ok (.istore 7, 2) := by decide +kernel
theorem dX7_lost_68 : decode cX7_lost 68 = .ok (.aload_n 0, 1) := by decide +kernel
theorem dX7_lost_69 : decode cX7_lost 69 = .ok (.getfield 14, 3) := by decide +kernel
theorem dX7_lost_72 : decode cX7_lost 72 = .ok (.iload_n 2, 1) := by decide +kernel
theorem dX7_lost_73 : decode cX7_lost 73 = .ok (.iload 6, 2) := by decide +kernel
theorem dX7_lost_75 : decode cX7_lost 75 = .ok (.iload 7, 2) := by decide +kernel
theorem dX7_lost_77 : decode cX7_lost 77 = .ok (.invokevirtual 99, 3) := by decide +kernel
theorem dX7_lost_80 : decode cX7_lost 80 = .ok (.iload 5, 2) := by decide +kernel
theorem dX7_lost_82 : decode cX7_lost 82 = .ok (.aload_n 0, 1) := by decide +kernel
theorem dX7_lost_83 : decode cX7_lost 83 = .ok (.getfield 66, 3) := by decide +kernel
theorem dX7_lost_86 : decode cX7_lost 86 = .ok (.iload 7, 2) := by decide +kernel
theorem dX7_lost_88 : decode cX7_lost 88 = .ok (.invokevirtual 306, 3) := by decide +kernel
theorem dX7_lost_91 : decode cX7_lost 91 = .ok (.iadd, 1) := by decide +kernel
theorem dX7_lost_92 : decode cX7_lost 92 = .ok (.istore 5, 2) := by decide +kernel
theorem dX7_lost_94 : decode cX7_lost 94 = .ok (.iload_n 3, 1) := by decide +kernel
theorem dX7_lost_95 : decode cX7_lost 95 = .ok (.iconst 1, 1) := by decide +kernel
theorem dX7_lost_96 : decode cX7_lost 96 = .ok (.iload 7, 2) := by decide +kernel
theorem dX7_lost_98 : decode cX7_lost 98 = .ok (.ishl, 1) := by decide +kernel
theorem dX7_lost_99 : decode cX7_lost 99 = .ok (.iconst (-1), 1) := by decide +kernel
theorem dX7_lost_100 : decode cX7_lost 100 = .ok (.ixor, 1) := by decide +kernel
theorem dX7_lost_101 : decode cX7_lost 101 = .ok (.iand, 1) := by decide +kernel
theorem dX7_lost_102 : decode cX7_lost 102 = .ok (.istore_n 3, 1) := by decide +kernel
theorem dX7_lost_103 : decode cX7_lost 103 = .ok (.iinc 6 1, 3) := by decide +kernel
theorem dX7_lost_106 : decode cX7_lost 106 = .ok (.goto (-52), 3) := by decide +kernel
theorem dX7_lost_109 : decode cX7_lost 109 = .ok (.aload_n 0, 1) := by decide +kernel
theorem dX7_lost_110 : decode cX7_lost 110 = .ok (.iload 5, 2) := by decide +kernel
theorem dX7_lost_112 : decode cX7_lost 112 = .ok (.invokevirtual 103, 3) := by decide +kernel
theorem dX7_lost_115 : decode cX7_lost 115 = .ok (.pop, 1) := by decide +kernel
theorem dX7_lost_116 : decode cX7_lost 116 = .ok (.iload 4, 2) := by decide +kernel
theorem dX7_lost_118 : decode cX7_lost 118 = .ok (.ireturn, 1) := by decide +kernel
theorem dX7_asked_0 : decode cX7_asked 0 = .ok (.aload_n 0, 1) := by decide +kernel
theorem dX7_asked_1 : decode cX7_asked 1 = .ok (.getfield 77, 3) := by decide +kernel
theorem dX7_asked_4 : decode cX7_asked 4 = .ok (.ireturn, 1) := by decide +kernel
theorem dX7_upper_0 : decode cX7_upper 0 = .ok (.aload_n 0, 1) := by decide +kernel
theorem dX7_upper_1 : decode cX7_upper 1 = .ok (.getfield 80, 3) := by decide +kernel
theorem dX7_upper_4 : decode cX7_upper 4 = .ok (.lreturn, 1) := by decide +kernel
theorem dX7_lower_0 : decode cX7_lower 0 = .ok (.aload_n 0, 1) := by decide +kernel
theorem dX7_lower_1 : decode cX7_lower 1 = .ok (.getfield 84, 3) := by decide +kernel
theorem dX7_lower_4 : decode cX7_lower 4 = .ok (.lreturn, 1) := by decide +kernel
theorem dX7_count_0 : decode cX7_count 0 = .ok (.iload_n 1, 1) := by decide +kernel
theorem dX7_count_1 : decode cX7_count 1 = .ok (.tableswitch 118 0 7 #[47, 55, 63, 71, 79, 87, 102, 110], 47) := by decide +kernel
theorem dX7_count_48 : decode cX7_count 48 = .ok (.aload_n 0, 1) := by decide +kernel
theorem dX7_count_49 : decode cX7_count 49 = .ok (.getfield 66, 3) := by decide +kernel
theorem dX7_count_52 : decode cX7_count 52 = .ok (.getfield 153, 3) := by decide +kernel
theorem dX7_count_55 : decode cX7_count 55 = .ok (.ireturn, 1) := by decide +kernel
theorem dX7_count_56 : decode cX7_count 56 = .ok (.aload_n 0, 1) := by decide +kernel
theorem dX7_count_57 : decode cX7_count 57 = .ok (.getfield 66, 3) := by decide +kernel
theorem dX7_count_60 : decode cX7_count 60 = .ok (.getfield 226, 3) := by decide +kernel
theorem dX7_count_63 : decode cX7_count 63 = .ok (.ireturn, 1) := by decide +kernel
theorem dX7_count_64 : decode cX7_count 64 = .ok (.aload_n 0, 1) := by decide +kernel
theorem dX7_count_65 : decode cX7_count 65 = .ok (.getfield 34, 3) := by decide +kernel
theorem dX7_count_68 : decode cX7_count 68 = .ok (.getfield 168, 3) := by decide +kernel
theorem dX7_count_71 : decode cX7_count 71 = .ok (.ireturn, 1) := by decide +kernel
theorem dX7_count_72 : decode cX7_count 72 = .ok (.aload_n 0, 1) := by decide +kernel
theorem dX7_count_73 : decode cX7_count 73 = .ok (.getfield 34, 3) := by decide +kernel
theorem dX7_count_76 : decode cX7_count 76 = .ok (.invokevirtual 309, 3) := by decide +kernel
theorem dX7_count_79 : decode cX7_count 79 = .ok (.ireturn, 1) := by decide +kernel
theorem dX7_count_80 : decode cX7_count 80 = .ok (.aload_n 0, 1) := by decide +kernel
theorem dX7_count_81 : decode cX7_count 81 = .ok (.getfield 24, 3) := by decide +kernel
theorem dX7_count_84 : decode cX7_count 84 = .ok (.getfield 159, 3) := by decide +kernel
theorem dX7_count_87 : decode cX7_count 87 = .ok (.ireturn, 1) := by decide +kernel
theorem dX7_count_88 : decode cX7_count 88 = .ok (.aload_n 0, 1) := by decide +kernel
theorem dX7_count_89 : decode cX7_count 89 = .ok (.getfield 24, 3) := by decide +kernel
theorem dX7_count_92 : decode cX7_count 92 = .ok (.aload_n 0, 1) := by decide +kernel
theorem dX7_count_93 : decode cX7_count 93 = .ok (.getfield 24, 3) := by decide +kernel
theorem dX7_count_96 : decode cX7_count 96 = .ok (.getfield 159, 3) := by decide +kernel
theorem dX7_count_99 : decode cX7_count 99 = .ok (.invokevirtual 186, 3) := by decide +kernel
theorem dX7_count_102 : decode cX7_count 102 = .ok (.ireturn, 1) := by decide +kernel
theorem dX7_count_103 : decode cX7_count 103 = .ok (.aload_n 0, 1) := by decide +kernel
theorem dX7_count_104 : decode cX7_count 104 = .ok (.getfield 14, 3) := by decide +kernel
theorem dX7_count_107 : decode cX7_count 107 = .ok (.invokevirtual 312, 3) := by decide +kernel
theorem dX7_count_110 : decode cX7_count 110 = .ok (.ireturn, 1) := by decide +kernel
theorem dX7_count_111 : decode cX7_count 111 = .ok (.aload_n 0, 1) := by decide +kernel
theorem dX7_count_112 : decode cX7_count 112 = .ok (.getfield 18, 3) := by decide +kernel
theorem dX7_count_115 : decode cX7_count 115 = .ok (.invokevirtual 312, 3) := by decide +kernel
theorem dX7_count_118 : decode cX7_count 118 = .ok (.ireturn, 1) := by decide +kernel
theorem dX7_count_119 : decode cX7_count 119 = .ok (.iconst (-1), 1) := by decide +kernel
theorem dX7_count_120 : decode cX7_count 120 = .ok (.ireturn, 1) := by decide +kernel
theorem dX7_finding_0 : decode cX7_finding 0 = .ok (.aload_n 0, 1) := by decide +kernel
theorem dX7_finding_1 : decode cX7_finding 1 = .ok (.getfield 73, 3) := by decide +kernel
theorem dX7_finding_4 : decode cX7_finding 4 = .ok (.ireturn, 1) := by decide +kernel
theorem dX7_findings_0 : decode cX7_findings 0 = .ok (.iload_n 1, 1) := by decide +kernel
theorem dX7_findings_1 : decode cX7_findings 1 = .ok (.iconst 1, 1) := by decide +kernel
theorem dX7_findings_2 : decode cX7_findings 2 = .ok (.if_icmp .lt 17, 3) := by decide +kernel
theorem dX7_findings_5 : decode cX7_findings 5 = .ok (.iload_n 1, 1) := by decide +kernel
theorem dX7_findings_6 : decode cX7_findings 6 = .ok (.iconst 5, 1) := by decide +kernel
theorem dX7_findings_7 : decode cX7_findings 7 = .ok (.if_icmp .gt 12, 3) := by decide +kernel
theorem dX7_findings_10 : decode cX7_findings 10 = .ok (.aload_n 0, 1) := by decide +kernel
theorem dX7_findings_11 : decode cX7_findings 11 = .ok (.getfield 59, 3) := by decide +kernel
theorem dX7_findings_14 : decode cX7_findings 14 = .ok (.iload_n 1, 1) := by decide +kernel
theorem dX7_findings_15 : decode cX7_findings 15 = .ok (.iaload, 1) := by decide +kernel
theorem dX7_findings_16 : decode cX7_findings 16 = .ok (.goto 4, 3) := by decide +kernel
theorem dX7_findings_19 : decode cX7_findings 19 = .ok (.iconst (-1), 1) := by decide +kernel
theorem dX7_findings_20 : decode cX7_findings 20 = .ok (.ireturn, 1) := by decide +kernel
theorem dX7_digest_0 : decode cX7_digest 0 = .ok (.ldc2_w 314, 3) := by decide +kernel
theorem dX7_digest_3 : decode cX7_digest 3 = .ok (.lstore_n 1, 1) := by decide +kernel
theorem dX7_digest_4 : decode cX7_digest 4 = .ok (.iconst 0, 1) := by decide +kernel
theorem dX7_digest_5 : decode cX7_digest 5 = .ok (.istore_n 3, 1) := by decide +kernel
theorem dX7_digest_6 : decode cX7_digest 6 = .ok (.iload_n 3, 1) := by decide +kernel
theorem dX7_digest_7 : decode cX7_digest 7 = .ok (.bipush 8, 2) := by decide +kernel
theorem dX7_digest_9 : decode cX7_digest 9 = .ok (.if_icmp .ge 22, 3) := by decide +kernel
theorem dX7_digest_12 : decode cX7_digest 12 = .ok (.ldc2_w 316, 3) := by decide +kernel
theorem dX7_digest_15 : decode cX7_digest 15 = .ok (.lload_n 1, 1) := by decide +kernel
theorem dX7_digest_16 : decode cX7_digest 16 = .ok (.lmul, 1) := by decide +kernel
theorem dX7_digest_17 : decode cX7_digest 17 = .ok (.aload_n 0, 1) := by decide +kernel
theorem dX7_digest_18 : decode cX7_digest 18 = .ok (.iload_n 3, 1) := by decide +kernel
theorem dX7_digest_19 : decode cX7_digest 19 = .ok (.invokevirtual 318, 3) := by decide +kernel
theorem dX7_digest_22 : decode cX7_digest 22 = .ok (.i2l, 1) := by decide +kernel
theorem dX7_digest_23 : decode cX7_digest 23 = .ok (.ladd, 1) := by decide +kernel
theorem dX7_digest_24 : decode cX7_digest 24 = .ok (.lstore_n 1, 1) := by decide +kernel
theorem dX7_digest_25 : decode cX7_digest 25 = .ok (.iinc 3 1, 3) := by decide +kernel
theorem dX7_digest_28 : decode cX7_digest 28 = .ok (.goto (-22), 3) := by decide +kernel
theorem dX7_digest_31 : decode cX7_digest 31 = .ok (.iconst 0, 1) := by decide +kernel
theorem dX7_digest_32 : decode cX7_digest 32 = .ok (.istore_n 3, 1) := by decide +kernel
theorem dX7_digest_33 : decode cX7_digest 33 = .ok (.iload_n 3, 1) := by decide +kernel
theorem dX7_digest_34 : decode cX7_digest 34 = .ok (.aload_n 0, 1) := by decide +kernel
theorem dX7_digest_35 : decode cX7_digest 35 = .ok (.getfield 66, 3) := by decide +kernel
theorem dX7_digest_38 : decode cX7_digest 38 = .ok (.getfield 153, 3) := by decide +kernel
theorem dX7_digest_41 : decode cX7_digest 41 = .ok (.if_icmp .ge 39, 3) := by decide +kernel
theorem dX7_digest_44 : decode cX7_digest 44 = .ok (.iconst 0, 1) := by decide +kernel
theorem dX7_digest_45 : decode cX7_digest 45 = .ok (.istore 4, 2) := by decide +kernel
theorem dX7_digest_47 : decode cX7_digest 47 = .ok (.iload 4, 2) := by decide +kernel
theorem dX7_digest_49 : decode cX7_digest 49 = .ok (.iconst 4, 1) := by decide +kernel
theorem dX7_digest_50 : decode cX7_digest 50 = .ok (.if_icmp .ge 24, 3) := by decide +kernel
theorem dX7_digest_53 : decode cX7_digest 53 = .ok (.ldc2_w 316, 3) := by decide +kernel
theorem dX7_digest_56 : decode cX7_digest 56 = .ok (.lload_n 1, 1) := by decide +kernel
theorem dX7_digest_57 : decode cX7_digest 57 = .ok (.lmul, 1) := by decide +kernel
theorem dX7_digest_58 : decode cX7_digest 58 = .ok (.aload_n 0, 1) := by decide +kernel
theorem dX7_digest_59 : decode cX7_digest 59 = .ok (.iload_n 3, 1) := by decide +kernel
theorem dX7_digest_60 : decode cX7_digest 60 = .ok (.iload 4, 2) := by decide +kernel
theorem dX7_digest_62 : decode cX7_digest 62 = .ok (.invokevirtual 198, 3) := by decide +kernel
theorem dX7_digest_65 : decode cX7_digest 65 = .ok (.i2l, 1) := by decide +kernel
theorem dX7_digest_66 : decode cX7_digest 66 = .ok (.ladd, 1) := by decide +kernel
theorem dX7_digest_67 : decode cX7_digest 67 = .ok (.lstore_n 1, 1) := by decide +kernel
theorem dX7_digest_68 : decode cX7_digest 68 = .ok (.iinc 4 1, 3) := by decide +kernel
theorem dX7_digest_71 : decode cX7_digest 71 = .ok (.goto (-24), 3) := by decide +kernel
theorem dX7_digest_74 : decode cX7_digest 74 = .ok (.iinc 3 1, 3) := by decide +kernel
theorem dX7_digest_77 : decode cX7_digest 77 = .ok (.goto (-44), 3) := by decide +kernel
theorem dX7_digest_80 : decode cX7_digest 80 = .ok (.iconst 0, 1) := by decide +kernel
theorem dX7_digest_81 : decode cX7_digest 81 = .ok (.istore_n 3, 1) := by decide +kernel
theorem dX7_digest_82 : decode cX7_digest 82 = .ok (.iload_n 3, 1) := by decide +kernel
theorem dX7_digest_83 : decode cX7_digest 83 = .ok (.aload_n 0, 1) := by decide +kernel
theorem dX7_digest_84 : decode cX7_digest 84 = .ok (.getfield 66, 3) := by decide +kernel
theorem dX7_digest_87 : decode cX7_digest 87 = .ok (.getfield 226, 3) := by decide +kernel
theorem dX7_digest_90 : decode cX7_digest 90 = .ok (.if_icmp .ge 16, 3) := by decide +kernel
theorem dX7_digest_93 : decode cX7_digest 93 = .ok (.aload_n 0, 1) := by decide +kernel
theorem dX7_digest_94 : decode cX7_digest 94 = .ok (.lload_n 1, 1) := by decide +kernel
theorem dX7_digest_95 : decode cX7_digest 95 = .ok (.iload_n 3, 1) := by decide +kernel
theorem dX7_digest_96 : decode cX7_digest 96 = .ok (.invokevirtual 321, 3) := by decide +kernel
theorem dX7_digest_99 : decode cX7_digest 99 = .ok (.lstore_n 1, 1) := by decide +kernel
theorem dX7_digest_100 : decode cX7_digest 100 = .ok (.iinc 3 1, 3) := by decide +kernel
theorem dX7_digest_103 : decode cX7_digest 103 = .ok (.goto (-21), 3) := by decide +kernel
theorem dX7_digest_106 : decode cX7_digest 106 = .ok (.iconst 0, 1) := by decide +kernel
theorem dX7_digest_107 : decode cX7_digest 107 = .ok (.istore_n 3, 1) := by decide +kernel
theorem dX7_digest_108 : decode cX7_digest 108 = .ok (.iload_n 3, 1) := by decide +kernel
theorem dX7_digest_109 : decode cX7_digest 109 = .ok (.aload_n 0, 1) := by decide +kernel
theorem dX7_digest_110 : decode cX7_digest 110 = .ok (.getfield 34, 3) := by decide +kernel
theorem dX7_digest_113 : decode cX7_digest 113 = .ok (.getfield 168, 3) := by decide +kernel
theorem dX7_digest_116 : decode cX7_digest 116 = .ok (.if_icmp .ge 42, 3) := by decide +kernel
theorem dX7_digest_119 : decode cX7_digest 119 = .ok (.iconst 0, 1) := by decide +kernel
theorem dX7_digest_120 : decode cX7_digest 120 = .ok (.istore 4, 2) := by decide +kernel
theorem dX7_digest_122 : decode cX7_digest 122 = .ok (.iload 4, 2) := by decide +kernel
theorem dX7_digest_124 : decode cX7_digest 124 = .ok (.iconst 5, 1) := by decide +kernel
theorem dX7_digest_125 : decode cX7_digest 125 = .ok (.if_icmp .ge 27, 3) := by decide +kernel
theorem dX7_digest_128 : decode cX7_digest 128 = .ok (.ldc2_w 316, 3) := by decide +kernel
theorem dX7_digest_131 : decode cX7_digest 131 = .ok (.lload_n 1, 1) := by decide +kernel
theorem dX7_digest_132 : decode cX7_digest 132 = .ok (.lmul, 1) := by decide +kernel
theorem dX7_digest_133 : decode cX7_digest 133 = .ok (.aload_n 0, 1) := by decide +kernel
theorem dX7_digest_134 : decode cX7_digest 134 = .ok (.getfield 34, 3) := by decide +kernel
theorem dX7_digest_137 : decode cX7_digest 137 = .ok (.iload_n 3, 1) := by decide +kernel
theorem dX7_digest_138 : decode cX7_digest 138 = .ok (.iload 4, 2) := by decide +kernel
theorem dX7_digest_140 : decode cX7_digest 140 = .ok (.invokevirtual 210, 3) := by decide +kernel
theorem dX7_digest_143 : decode cX7_digest 143 = .ok (.i2l, 1) := by decide +kernel
theorem dX7_digest_144 : decode cX7_digest 144 = .ok (.ladd, 1) := by decide +kernel
theorem dX7_digest_145 : decode cX7_digest 145 = .ok (.lstore_n 1, 1) := by decide +kernel
theorem dX7_digest_146 : decode cX7_digest 146 = .ok (.iinc 4 1, 3) := by decide +kernel
theorem dX7_digest_149 : decode cX7_digest 149 = .ok (.goto (-27), 3) := by decide +kernel
theorem dX7_digest_152 : decode cX7_digest 152 = .ok (.iinc 3 1, 3) := by decide +kernel
theorem dX7_digest_155 : decode cX7_digest 155 = .ok (.goto (-47), 3) := by decide +kernel
theorem dX7_digest_158 : decode cX7_digest 158 = .ok (.iconst 0, 1) := by decide +kernel
theorem dX7_digest_159 : decode cX7_digest 159 = .ok (.istore_n 3, 1) := by decide +kernel
theorem dX7_digest_160 : decode cX7_digest 160 = .ok (.iload_n 3, 1) := by decide +kernel
theorem dX7_digest_161 : decode cX7_digest 161 = .ok (.aload_n 0, 1) := by decide +kernel
theorem dX7_digest_162 : decode cX7_digest 162 = .ok (.getfield 24, 3) := by decide +kernel
theorem dX7_digest_165 : decode cX7_digest 165 = .ok (.getfield 159, 3) := by decide +kernel
theorem dX7_digest_168 : decode cX7_digest 168 = .ok (.if_icmp .ge 42, 3) := by decide +kernel
theorem dX7_digest_171 : decode cX7_digest 171 = .ok (.iconst 0, 1) := by decide +kernel
theorem dX7_digest_172 : decode cX7_digest 172 = .ok (.istore 4, 2) := by decide +kernel
theorem dX7_digest_174 : decode cX7_digest 174 = .ok (.iload 4, 2) := by decide +kernel
theorem dX7_digest_176 : decode cX7_digest 176 = .ok (.iconst 4, 1) := by decide +kernel
theorem dX7_digest_177 : decode cX7_digest 177 = .ok (.if_icmp .ge 27, 3) := by decide +kernel
theorem dX7_digest_180 : decode cX7_digest 180 = .ok (.ldc2_w 316, 3) := by decide +kernel
theorem dX7_digest_183 : decode cX7_digest 183 = .ok (.lload_n 1, 1) := by decide +kernel
theorem dX7_digest_184 : decode cX7_digest 184 = .ok (.lmul, 1) := by decide +kernel
theorem dX7_digest_185 : decode cX7_digest 185 = .ok (.aload_n 0, 1) := by decide +kernel
theorem dX7_digest_186 : decode cX7_digest 186 = .ok (.getfield 24, 3) := by decide +kernel
theorem dX7_digest_189 : decode cX7_digest 189 = .ok (.iload_n 3, 1) := by decide +kernel
theorem dX7_digest_190 : decode cX7_digest 190 = .ok (.iload 4, 2) := by decide +kernel
theorem dX7_digest_192 : decode cX7_digest 192 = .ok (.invokevirtual 176, 3) := by decide +kernel
theorem dX7_digest_195 : decode cX7_digest 195 = .ok (.i2l, 1) := by decide +kernel
theorem dX7_digest_196 : decode cX7_digest 196 = .ok (.ladd, 1) := by decide +kernel
theorem dX7_digest_197 : decode cX7_digest 197 = .ok (.lstore_n 1, 1) := by decide +kernel
theorem dX7_digest_198 : decode cX7_digest 198 = .ok (.iinc 4 1, 3) := by decide +kernel
theorem dX7_digest_201 : decode cX7_digest 201 = .ok (.goto (-27), 3) := by decide +kernel
theorem dX7_digest_204 : decode cX7_digest 204 = .ok (.iinc 3 1, 3) := by decide +kernel
theorem dX7_digest_207 : decode cX7_digest 207 = .ok (.goto (-47), 3) := by decide +kernel
theorem dX7_digest_210 : decode cX7_digest 210 = .ok (.aload_n 0, 1) := by decide +kernel
theorem dX7_digest_211 : decode cX7_digest 211 = .ok (.getfield 18, 3) := by decide +kernel
theorem dX7_digest_214 : decode cX7_digest 214 = .ok (.aload_n 0, 1) := by decide +kernel
theorem dX7_digest_215 : decode cX7_digest 215 = .ok (.getfield 14, 3) := by decide +kernel
theorem dX7_digest_218 : decode cX7_digest 218 = .ok (.lload_n 1, 1) := by decide +kernel
theorem dX7_digest_219 : decode cX7_digest 219 = .ok (.invokevirtual 325, 3) := by decide +kernel
theorem dX7_digest_222 : decode cX7_digest 222 = .ok (.invokevirtual 325, 3) := by decide +kernel
theorem dX7_digest_225 : decode cX7_digest 225 = .ok (.lreturn, 1) := by decide +kernel
theorem dX7_tell_0 : decode cX7_tell 0 = .ok (.aload_n 0, 1) := by decide +kernel
theorem dX7_tell_1 : decode cX7_tell 1 = .ok (.iload_n 1, 1) := by decide +kernel
theorem dX7_tell_2 : decode cX7_tell 2 = .ok (.putfield 77, 3) := by decide +kernel
theorem dX7_tell_5 : decode cX7_tell 5 = .ok (.iconst 1, 1) := by decide +kernel
theorem dX7_tell_6 : decode cX7_tell 6 = .ok (.ireturn, 1) := by decide +kernel
theorem dX7_tellFraction_0 : decode cX7_tellFraction 0 = .ok (.lload_n 1, 1) := by decide +kernel
theorem dX7_tellFraction_1 : decode cX7_tellFraction 1 = .ok (.lload_n 3, 1) := by decide +kernel
theorem dX7_tellFraction_2 : decode cX7_tellFraction 2 = .ok (.invokestatic 329, 3) := by decide +kernel
theorem dX7_tellFraction_5 : decode cX7_tellFraction 5 = .ok (.lstore 5, 2) := by decide +kernel
theorem dX7_tellFraction_7 : decode cX7_tellFraction 7 = .ok (.lload 5, 2) := by decide +kernel
theorem dX7_tellFraction_9 : decode cX7_tellFraction 9 = .ok (.lconst 0, 1) := by decide +kernel
theorem dX7_tellFraction_10 : decode cX7_tellFraction 10 = .ok (.lcmp, 1) := by decide +kernel
theorem dX7_tellFraction_11 : decode cX7_tellFraction 11 = .ok (.ifCond .le 19, 3) := by decide +kernel
theorem dX7_tellFraction_14 : decode cX7_tellFraction 14 = .ok (.aload_n 0, 1) := by decide +kernel
theorem dX7_tellFraction_15 : decode cX7_tellFraction 15 = .ok (.lload_n 1, 1) := by decide +kernel
theorem dX7_tellFraction_16 : decode cX7_tellFraction 16 = .ok (.lload 5, 2) := by decide +kernel
theorem dX7_tellFraction_18 : decode cX7_tellFraction 18 = .ok (.ldiv, 1) := by decide +kernel
theorem dX7_tellFraction_19 : decode cX7_tellFraction 19 = .ok (.putfield 80, 3) := by decide +kernel
theorem dX7_tellFraction_22 : decode cX7_tellFraction 22 = .ok (.aload_n 0, 1) := by decide +kernel
theorem dX7_tellFraction_23 : decode cX7_tellFraction 23 = .ok (.lload_n 3, 1) := by decide +kernel
theorem dX7_tellFraction_24 : decode cX7_tellFraction 24 = .ok (.lload 5, 2) := by decide +kernel
theorem dX7_tellFraction_26 : decode cX7_tellFraction 26 = .ok (.ldiv, 1) := by decide +kernel
theorem dX7_tellFraction_27 : decode cX7_tellFraction 27 = .ok (.putfield 84, 3) := by decide +kernel
theorem dX7_tellFraction_30 : decode cX7_tellFraction 30 = .ok (.return_, 1) := by decide +kernel
theorem dX7_commonDivisor_0 : decode cX7_commonDivisor 0 = .ok (.lload_n 0, 1) := by decide +kernel
theorem dX7_commonDivisor_1 : decode cX7_commonDivisor 1 = .ok (.lstore 4, 2) := by decide +kernel
theorem dX7_commonDivisor_3 : decode cX7_commonDivisor 3 = .ok (.lload_n 2, 1) := by decide +kernel
theorem dX7_commonDivisor_4 : decode cX7_commonDivisor 4 = .ok (.lstore 6, 2) := by decide +kernel
theorem dX7_commonDivisor_6 : decode cX7_commonDivisor 6 = .ok (.iconst 0, 1) := by decide +kernel
theorem dX7_commonDivisor_7 : decode cX7_commonDivisor 7 = .ok (.istore 8, 2) := by decide +kernel
theorem dX7_commonDivisor_9 : decode cX7_commonDivisor 9 = .ok (.iload 8, 2) := by decide +kernel
theorem dX7_commonDivisor_11 : decode cX7_commonDivisor 11 = .ok (.bipush 100, 2) := by decide +kernel
theorem dX7_commonDivisor_13 : decode cX7_commonDivisor 13 = .ok (.if_icmp .ge 31, 3) := by decide +kernel
theorem dX7_commonDivisor_16 : decode cX7_commonDivisor 16 = .ok (.lload 6, 2) := by decide +kernel
theorem dX7_commonDivisor_18 : decode cX7_commonDivisor 18 = .ok (.lconst 0, 1) := by decide +kernel
theorem dX7_commonDivisor_19 : decode cX7_commonDivisor 19 = .ok (.lcmp, 1) := by decide +kernel
theorem dX7_commonDivisor_20 : decode cX7_commonDivisor 20 = .ok (.ifCond .eq 24, 3) := by decide +kernel
theorem dX7_commonDivisor_23 : decode cX7_commonDivisor 23 = .ok (.lload 4, 2) := by decide +kernel
theorem dX7_commonDivisor_25 : decode cX7_commonDivisor 25 = .ok (.lload 6, 2) := by decide +kernel
theorem dX7_commonDivisor_27 : decode cX7_commonDivisor 27 = .ok (.lrem, 1) := by decide +kernel
theorem dX7_commonDivisor_28 : decode cX7_commonDivisor 28 = .ok (.lstore 9, 2) := by decide +kernel
theorem dX7_commonDivisor_30 : decode cX7_commonDivisor 30 = .ok (.lload 6, 2) := by decide +kernel
theorem dX7_commonDivisor_32 : decode cX7_commonDivisor 32 = .ok (.lstore 4, 2) := by decide +kernel
theorem dX7_commonDivisor_34 : decode cX7_commonDivisor 34 = .ok (.lload 9, 2) := by decide +kernel
theorem dX7_commonDivisor_36 : decode cX7_commonDivisor 36 = .ok (.lstore 6, 2) := by decide +kernel
theorem dX7_commonDivisor_38 : decode cX7_commonDivisor 38 = .ok (.iinc 8 1, 3) := by decide +kernel
theorem dX7_commonDivisor_41 : decode cX7_commonDivisor 41 = .ok (.goto (-32), 3) := by decide +kernel
theorem dX7_commonDivisor_44 : decode cX7_commonDivisor 44 = .ok (.lload 4, 2) := by decide +kernel
theorem dX7_commonDivisor_46 : decode cX7_commonDivisor 46 = .ok (.lreturn, 1) := by decide +kernel
theorem dX7_found_0 : decode cX7_found 0 = .ok (.aload_n 0, 1) := by decide +kernel
theorem dX7_found_1 : decode cX7_found 1 = .ok (.iload_n 1, 1) := by decide +kernel
theorem dX7_found_2 : decode cX7_found 2 = .ok (.putfield 73, 3) := by decide +kernel
theorem dX7_found_5 : decode cX7_found 5 = .ok (.iload_n 1, 1) := by decide +kernel
theorem dX7_found_6 : decode cX7_found 6 = .ok (.ifCond .lt 22, 3) := by decide +kernel
theorem dX7_found_9 : decode cX7_found 9 = .ok (.iload_n 1, 1) := by decide +kernel
theorem dX7_found_10 : decode cX7_found 10 = .ok (.aload_n 0, 1) := by decide +kernel
theorem dX7_found_11 : decode cX7_found 11 = .ok (.getfield 59, 3) := by decide +kernel
theorem dX7_found_14 : decode cX7_found 14 = .ok (.arraylength, 1) := by decide +kernel
theorem dX7_found_15 : decode cX7_found 15 = .ok (.if_icmp .ge 13, 3) := by decide +kernel
theorem dX7_found_18 : decode cX7_found 18 = .ok (.aload_n 0, 1) := by decide +kernel
theorem dX7_found_19 : decode cX7_found 19 = .ok (.getfield 59, 3) := by decide +kernel
theorem dX7_found_22 : decode cX7_found 22 = .ok (.iload_n 1, 1) := by decide +kernel
theorem dX7_found_23 : decode cX7_found 23 = .ok (.dup2, 1) := by decide +kernel
theorem dX7_found_24 : decode cX7_found 24 = .ok (.iaload, 1) := by decide +kernel
theorem dX7_found_25 : decode cX7_found 25 = .ok (.iconst 1, 1) := by decide +kernel
theorem dX7_found_26 : decode cX7_found 26 = .ok (.iadd, 1) := by decide +kernel
theorem dX7_found_27 : decode cX7_found 27 = .ok (.iastore, 1) := by decide +kernel
theorem dX7_found_28 : decode cX7_found 28 = .ok (.bipush (-3), 2) := by decide +kernel
theorem dX7_found_30 : decode cX7_found 30 = .ok (.ireturn, 1) := by decide +kernel
theorem dX7_refusalOf_0 : decode cX7_refusalOf 0 = .ok (.aload_n 1, 1) := by decide +kernel
theorem dX7_refusalOf_1 : decode cX7_refusalOf 1 = .ok (.iload_n 2, 1) := by decide +kernel
theorem dX7_refusalOf_2 : decode cX7_refusalOf 2 = .ok (.invokevirtual 115, 3) := by decide +kernel
theorem dX7_refusalOf_5 : decode cX7_refusalOf 5 = .ok (.ifCond .ne 5, 3) := by decide +kernel
theorem dX7_refusalOf_8 : decode cX7_refusalOf 8 = .ok (.iconst (-1), 1) := by decide +kernel
theorem dX7_refusalOf_9 : decode cX7_refusalOf 9 = .ok (.ireturn, 1) := by decide +kernel
theorem dX7_refusalOf_10 : decode cX7_refusalOf 10 = .ok (.aload_n 1, 1) := by decide +kernel
theorem dX7_refusalOf_11 : decode cX7_refusalOf 11 = .ok (.iload_n 2, 1) := by decide +kernel
theorem dX7_refusalOf_12 : decode cX7_refusalOf 12 = .ok (.invokevirtual 122, 3) := by decide +kernel
theorem dX7_refusalOf_15 : decode cX7_refusalOf 15 = .ok (.ifCond .eq 7, 3) := by decide +kernel
theorem dX7_refusalOf_18 : decode cX7_refusalOf 18 = .ok (.iconst 0, 1) := by decide +kernel
theorem dX7_refusalOf_19 : decode cX7_refusalOf 19 = .ok (.goto 8, 3) := by decide +kernel
theorem dX7_refusalOf_22 : decode cX7_refusalOf 22 = .ok (.aload_n 0, 1) := by decide +kernel
theorem dX7_refusalOf_23 : decode cX7_refusalOf 23 = .ok (.iconst 1, 1) := by decide +kernel
theorem dX7_refusalOf_24 : decode cX7_refusalOf 24 = .ok (.invokevirtual 119, 3) := by decide +kernel
theorem dX7_refusalOf_27 : decode cX7_refusalOf 27 = .ok (.ireturn, 1) := by decide +kernel
theorem dX7_refusalOfPlace_0 : decode cX7_refusalOfPlace 0 = .ok (.aload_n 0, 1) := by decide +kernel
theorem dX7_refusalOfPlace_1 : decode cX7_refusalOfPlace 1 = .ok (.aload_n 1, 1) := by decide +kernel
theorem dX7_refusalOfPlace_2 : decode cX7_refusalOfPlace 2 = .ok (.iload_n 2, 1) := by decide +kernel
theorem dX7_refusalOfPlace_3 : decode cX7_refusalOfPlace 3 = .ok (.invokevirtual 107, 3) := by decide +kernel
theorem dX7_refusalOfPlace_6 : decode cX7_refusalOfPlace 6 = .ok (.istore 4, 2) := by decide +kernel
theorem dX7_refusalOfPlace_8 : decode cX7_refusalOfPlace 8 = .ok (.iload 4, 2) := by decide +kernel
theorem dX7_refusalOfPlace_10 : decode cX7_refusalOfPlace 10 = .ok (.ifCond .eq 6, 3) := by decide +kernel
theorem dX7_refusalOfPlace_13 : decode cX7_refusalOfPlace 13 = .ok (.iload 4, 2) := by decide +kernel
theorem dX7_refusalOfPlace_15 : decode cX7_refusalOfPlace 15 = .ok (.ireturn, 1) := by decide +kernel
theorem dX7_refusalOfPlace_16 : decode cX7_refusalOfPlace 16 = .ok (.aload_n 1, 1) := by decide +kernel
theorem dX7_refusalOfPlace_17 : decode cX7_refusalOfPlace 17 = .ok (.iload_n 2, 1) := by decide +kernel
theorem dX7_refusalOfPlace_18 : decode cX7_refusalOfPlace 18 = .ok (.iload_n 3, 1) := by decide +kernel
theorem dX7_refusalOfPlace_19 : decode cX7_refusalOfPlace 19 = .ok (.iconst 1, 1) := by decide +kernel
theorem dX7_refusalOfPlace_20 : decode cX7_refusalOfPlace 20 = .ok (.invokevirtual 125, 3) := by decide +kernel
theorem dX7_refusalOfPlace_23 : decode cX7_refusalOfPlace 23 = .ok (.ifCond .eq 7, 3) := by decide +kernel
theorem dX7_refusalOfPlace_26 : decode cX7_refusalOfPlace 26 = .ok (.iconst 0, 1) := by decide +kernel
theorem dX7_refusalOfPlace_27 : decode cX7_refusalOfPlace 27 = .ok (.goto 8, 3) := by decide +kernel
theorem dX7_refusalOfPlace_30 : decode cX7_refusalOfPlace 30 = .ok (.aload_n 0, 1) := by decide +kernel
theorem dX7_refusalOfPlace_31 : decode cX7_refusalOfPlace 31 = .ok (.iconst 2, 1) := by decide +kernel
theorem dX7_refusalOfPlace_32 : decode cX7_refusalOfPlace 32 = .ok (.invokevirtual 119, 3) := by decide +kernel
theorem dX7_refusalOfPlace_35 : decode cX7_refusalOfPlace 35 = .ok (.ireturn, 1) := by decide +kernel
theorem dX7_renewed_0 : decode cX7_renewed 0 = .ok (.aload_n 1, 1) := by decide +kernel
theorem dX7_renewed_1 : decode cX7_renewed 1 = .ok (.iload_n 2, 1) := by decide +kernel
theorem dX7_renewed_2 : decode cX7_renewed 2 = .ok (.invokevirtual 115, 3) := by decide +kernel
theorem dX7_renewed_5 : decode cX7_renewed 5 = .ok (.ifCond .eq 11, 3) := by decide +kernel
theorem dX7_renewed_8 : decode cX7_renewed 8 = .ok (.iload_n 3, 1) := by decide +kernel
theorem dX7_renewed_9 : decode cX7_renewed 9 = .ok (.aload_n 1, 1) := by decide +kernel
theorem dX7_renewed_10 : decode cX7_renewed 10 = .ok (.getfield 333, 3) := by decide +kernel
theorem dX7_renewed_13 : decode cX7_renewed 13 = .ok (.if_icmp .le 5, 3) := by decide +kernel
theorem dX7_renewed_16 : decode cX7_renewed 16 = .ok (.iconst (-1), 1) := by decide +kernel
theorem dX7_renewed_17 : decode cX7_renewed 17 = .ok (.ireturn, 1) := by decide +kernel
theorem dX7_renewed_18 : decode cX7_renewed 18 = .ok (.iload_n 3, 1) := by decide +kernel
theorem dX7_renewed_19 : decode cX7_renewed 19 = .ok (.ifCond .ge 9, 3) := by decide +kernel
theorem dX7_renewed_22 : decode cX7_renewed 22 = .ok (.aload_n 0, 1) := by decide +kernel
theorem dX7_renewed_23 : decode cX7_renewed 23 = .ok (.iconst 5, 1) := by decide +kernel
theorem dX7_renewed_24 : decode cX7_renewed 24 = .ok (.invokevirtual 119, 3) := by decide +kernel
theorem dX7_renewed_27 : decode cX7_renewed 27 = .ok (.ireturn, 1) := by decide +kernel
theorem dX7_renewed_28 : decode cX7_renewed 28 = .ok (.aload_n 1, 1) := by decide +kernel
theorem dX7_renewed_29 : decode cX7_renewed 29 = .ok (.iload_n 2, 1) := by decide +kernel
theorem dX7_renewed_30 : decode cX7_renewed 30 = .ok (.iload_n 3, 1) := by decide +kernel
theorem dX7_renewed_31 : decode cX7_renewed 31 = .ok (.iload 4, 2) := by decide +kernel
theorem dX7_renewed_33 : decode cX7_renewed 33 = .ok (.invokevirtual 274, 3) := by decide +kernel
theorem dX7_renewed_36 : decode cX7_renewed 36 = .ok (.iload_n 3, 1) := by decide +kernel
theorem dX7_renewed_37 : decode cX7_renewed 37 = .ok (.ireturn, 1) := by decide +kernel
theorem dX7_faultOfStreet_0 : decode cX7_faultOfStreet 0 = .ok (.aload_n 0, 1) := by decide +kernel
theorem dX7_faultOfStreet_1 : decode cX7_faultOfStreet 1 = .ok (.getfield 41, 3) := by decide +kernel
theorem dX7_faultOfStreet_4 : decode cX7_faultOfStreet 4 = .ok (.aload_n 0, 1) := by decide +kernel
theorem dX7_faultOfStreet_5 : decode cX7_faultOfStreet 5 = .ok (.getfield 18, 3) := by decide +kernel
theorem dX7_faultOfStreet_8 : decode cX7_faultOfStreet 8 = .ok (.iload_n 1, 1) := by decide +kernel
theorem dX7_faultOfStreet_9 : decode cX7_faultOfStreet 9 = .ok (.invokevirtual 336, 3) := by decide +kernel
theorem dX7_faultOfStreet_12 : decode cX7_faultOfStreet 12 = .ok (.aload_n 0, 1) := by decide +kernel
theorem dX7_faultOfStreet_13 : decode cX7_faultOfStreet 13 = .ok (.getfield 41, 3) := by decide +kernel
theorem dX7_faultOfStreet_16 : decode cX7_faultOfStreet 16 = .ok (.aload_n 0, 1) := by decide +kernel
theorem dX7_faultOfStreet_17 : decode cX7_faultOfStreet 17 = .ok (.getfield 70, 3) := by decide +kernel
theorem dX7_faultOfStreet_20 : decode cX7_faultOfStreet 20 = .ok (.invokevirtual 340, 3) := by decide +kernel
theorem dX7_faultOfStreet_23 : decode cX7_faultOfStreet 23 = .ok (.aload_n 0, 1) := by decide +kernel
theorem dX7_faultOfStreet_24 : decode cX7_faultOfStreet 24 = .ok (.getfield 41, 3) := by decide +kernel
theorem dX7_faultOfStreet_27 : decode cX7_faultOfStreet 27 = .ok (.getfield 344, 3) := by decide +kernel
theorem dX7_faultOfStreet_30 : decode cX7_faultOfStreet 30 = .ok (.ireturn, 1) := by decide +kernel
theorem dX7_faultOfYear_0 : decode cX7_faultOfYear 0 = .ok (.aload_n 0, 1) := by decide +kernel
theorem dX7_faultOfYear_1 : decode cX7_faultOfYear 1 = .ok (.getfield 41, 3) := by decide +kernel
theorem dX7_faultOfYear_4 : decode cX7_faultOfYear 4 = .ok (.aload_n 0, 1) := by decide +kernel
theorem dX7_faultOfYear_5 : decode cX7_faultOfYear 5 = .ok (.getfield 18, 3) := by decide +kernel
theorem dX7_faultOfYear_8 : decode cX7_faultOfYear 8 = .ok (.iload_n 1, 1) := by decide +kernel
theorem dX7_faultOfYear_9 : decode cX7_faultOfYear 9 = .ok (.invokevirtual 336, 3) := by decide +kernel
theorem dX7_faultOfYear_12 : decode cX7_faultOfYear 12 = .ok (.aload_n 0, 1) := by decide +kernel
theorem dX7_faultOfYear_13 : decode cX7_faultOfYear 13 = .ok (.getfield 41, 3) := by decide +kernel
theorem dX7_faultOfYear_16 : decode cX7_faultOfYear 16 = .ok (.aload_n 0, 1) := by decide +kernel
theorem dX7_faultOfYear_17 : decode cX7_faultOfYear 17 = .ok (.getfield 28, 3) := by decide +kernel
theorem dX7_faultOfYear_20 : decode cX7_faultOfYear 20 = .ok (.aload_n 0, 1) := by decide +kernel
theorem dX7_faultOfYear_21 : decode cX7_faultOfYear 21 = .ok (.getfield 66, 3) := by decide +kernel
theorem dX7_faultOfYear_24 : decode cX7_faultOfYear 24 = .ok (.aload_n 0, 1) := by decide +kernel
theorem dX7_faultOfYear_25 : decode cX7_faultOfYear 25 = .ok (.getfield 34, 3) := by decide +kernel
theorem dX7_faultOfYear_28 : decode cX7_faultOfYear 28 = .ok (.getfield 168, 3) := by decide +kernel
theorem dX7_faultOfYear_31 : decode cX7_faultOfYear 31 = .ok (.aload_n 0, 1) := by decide +kernel
theorem dX7_faultOfYear_32 : decode cX7_faultOfYear 32 = .ok (.getfield 24, 3) := by decide +kernel
theorem dX7_faultOfYear_35 : decode cX7_faultOfYear 35 = .ok (.getfield 159, 3) := by decide +kernel
theorem dX7_faultOfYear_38 : decode cX7_faultOfYear 38 = .ok (.invokevirtual 347, 3) := by decide +kernel
theorem dX7_faultOfYear_41 : decode cX7_faultOfYear 41 = .ok (.aload_n 0, 1) := by decide +kernel
theorem dX7_faultOfYear_42 : decode cX7_faultOfYear 42 = .ok (.getfield 41, 3) := by decide +kernel
theorem dX7_faultOfYear_45 : decode cX7_faultOfYear 45 = .ok (.getfield 344, 3) := by decide +kernel
theorem dX7_faultOfYear_48 : decode cX7_faultOfYear 48 = .ok (.ireturn, 1) := by decide +kernel
theorem dX7_isEvent_0 : decode cX7_isEvent 0 = .ok (.iload_n 1, 1) := by decide +kernel
theorem dX7_isEvent_1 : decode cX7_isEvent 1 = .ok (.tableswitch 148 1 7 #[43, 65, 65, 90, 90, 115, 121], 43) := by decide +kernel
theorem dX7_isEvent_44 : decode cX7_isEvent 44 = .ok (.aload_n 0, 1) := by decide +kernel
theorem dX7_isEvent_45 : decode cX7_isEvent 45 = .ok (.iload_n 2, 1) := by decide +kernel
theorem dX7_isEvent_46 : decode cX7_isEvent 46 = .ok (.invokevirtual 195, 3) := by decide +kernel
theorem dX7_isEvent_49 : decode cX7_isEvent 49 = .ok (.ifCond .eq 15, 3) := by decide +kernel
theorem dX7_isEvent_52 : decode cX7_isEvent 52 = .ok (.aload_n 0, 1) := by decide +kernel
theorem dX7_isEvent_53 : decode cX7_isEvent 53 = .ok (.iload_n 3, 1) := by decide +kernel
theorem dX7_isEvent_54 : decode cX7_isEvent 54 = .ok (.invokevirtual 201, 3) := by decide +kernel
theorem dX7_isEvent_57 : decode cX7_isEvent 57 = .ok (.ifCond .eq 7, 3) := by decide +kernel
theorem dX7_isEvent_60 : decode cX7_isEvent 60 = .ok (.iconst 1, 1) := by decide +kernel
theorem dX7_isEvent_61 : decode cX7_isEvent 61 = .ok (.goto 4, 3) := by decide +kernel
theorem dX7_isEvent_64 : decode cX7_isEvent 64 = .ok (.iconst 0, 1) := by decide +kernel
theorem dX7_isEvent_65 : decode cX7_isEvent 65 = .ok (.ireturn, 1) := by decide +kernel
theorem dX7_isEvent_66 : decode cX7_isEvent 66 = .ok (.aload_n 0, 1) := by decide +kernel
theorem dX7_isEvent_67 : decode cX7_isEvent 67 = .ok (.getfield 34, 3) := by decide +kernel
theorem dX7_isEvent_70 : decode cX7_isEvent 70 = .ok (.iload_n 2, 1) := by decide +kernel
theorem dX7_isEvent_71 : decode cX7_isEvent 71 = .ok (.invokevirtual 207, 3) := by decide +kernel
theorem dX7_isEvent_74 : decode cX7_isEvent 74 = .ok (.ifCond .eq 15, 3) := by decide +kernel
theorem dX7_isEvent_77 : decode cX7_isEvent 77 = .ok (.aload_n 0, 1) := by decide +kernel
theorem dX7_isEvent_78 : decode cX7_isEvent 78 = .ok (.iload_n 3, 1) := by decide +kernel
theorem dX7_isEvent_79 : decode cX7_isEvent 79 = .ok (.invokevirtual 201, 3) := by decide +kernel
theorem dX7_isEvent_82 : decode cX7_isEvent 82 = .ok (.ifCond .eq 7, 3) := by decide +kernel
theorem dX7_isEvent_85 : decode cX7_isEvent 85 = .ok (.iconst 1, 1) := by decide +kernel
theorem dX7_isEvent_86 : decode cX7_isEvent 86 = .ok (.goto 4, 3) := by decide +kernel
theorem dX7_isEvent_89 : decode cX7_isEvent 89 = .ok (.iconst 0, 1) := by decide +kernel
theorem dX7_isEvent_90 : decode cX7_isEvent 90 = .ok (.ireturn, 1) := by decide +kernel
theorem dX7_isEvent_91 : decode cX7_isEvent 91 = .ok (.aload_n 0, 1) := by decide +kernel
theorem dX7_isEvent_92 : decode cX7_isEvent 92 = .ok (.getfield 34, 3) := by decide +kernel
theorem dX7_isEvent_95 : decode cX7_isEvent 95 = .ok (.iload_n 2, 1) := by decide +kernel
theorem dX7_isEvent_96 : decode cX7_isEvent 96 = .ok (.invokevirtual 207, 3) := by decide +kernel
theorem dX7_isEvent_99 : decode cX7_isEvent 99 = .ok (.ifCond .eq 15, 3) := by decide +kernel
theorem dX7_isEvent_102 : decode cX7_isEvent 102 = .ok (.aload_n 0, 1) := by decide +kernel
theorem dX7_isEvent_103 : decode cX7_isEvent 103 = .ok (.iload_n 3, 1) := by decide +kernel
theorem dX7_isEvent_104 : decode cX7_isEvent 104 = .ok (.invokevirtual 195, 3) := by decide +kernel
theorem dX7_isEvent_107 : decode cX7_isEvent 107 = .ok (.ifCond .eq 7, 3) := by decide +kernel
theorem dX7_isEvent_110 : decode cX7_isEvent 110 = .ok (.iconst 1, 1) := by decide +kernel
theorem dX7_isEvent_111 : decode cX7_isEvent 111 = .ok (.goto 4, 3) := by decide +kernel
theorem dX7_isEvent_114 : decode cX7_isEvent 114 = .ok (.iconst 0, 1) := by decide +kernel
theorem dX7_isEvent_115 : decode cX7_isEvent 115 = .ok (.ireturn, 1) := by decide +kernel
theorem dX7_isEvent_116 : decode cX7_isEvent 116 = .ok (.aload_n 0, 1) := by decide +kernel
theorem dX7_isEvent_117 : decode cX7_isEvent 117 = .ok (.iload_n 2, 1) := by decide +kernel
theorem dX7_isEvent_118 : decode cX7_isEvent 118 = .ok (.invokevirtual 195, 3) := by decide +kernel
theorem dX7_isEvent_121 : decode cX7_isEvent 121 = .ok (.ireturn, 1) := by decide +kernel
theorem dX7_isEvent_122 : decode cX7_isEvent 122 = .ok (.aload_n 0, 1) := by decide +kernel
theorem dX7_isEvent_123 : decode cX7_isEvent 123 = .ok (.iload_n 2, 1) := by decide +kernel
theorem dX7_isEvent_124 : decode cX7_isEvent 124 = .ok (.invokevirtual 201, 3) := by decide +kernel
theorem dX7_isEvent_127 : decode cX7_isEvent 127 = .ok (.ifCond .eq 20, 3) := by decide +kernel
theorem dX7_isEvent_130 : decode cX7_isEvent 130 = .ok (.aload_n 0, 1) := by decide +kernel
theorem dX7_isEvent_131 : decode cX7_isEvent 131 = .ok (.iload_n 3, 1) := by decide +kernel
theorem dX7_isEvent_132 : decode cX7_isEvent 132 = .ok (.invokevirtual 201, 3) := by decide +kernel
theorem dX7_isEvent_135 : decode cX7_isEvent 135 = .ok (.ifCond .eq 12, 3) := by decide +kernel
theorem dX7_isEvent_138 : decode cX7_isEvent 138 = .ok (.iload_n 2, 1) := by decide +kernel
theorem dX7_isEvent_139 : decode cX7_isEvent 139 = .ok (.iload_n 3, 1) := by decide +kernel
theorem dX7_isEvent_140 : decode cX7_isEvent 140 = .ok (.if_icmp .eq 7, 3) := by decide +kernel
theorem dX7_isEvent_143 : decode cX7_isEvent 143 = .ok (.iconst 1, 1) := by decide +kernel
theorem dX7_isEvent_144 : decode cX7_isEvent 144 = .ok (.goto 4, 3) := by decide +kernel
theorem dX7_isEvent_147 : decode cX7_isEvent 147 = .ok (.iconst 0, 1) := by decide +kernel
theorem dX7_isEvent_148 : decode cX7_isEvent 148 = .ok (.ireturn, 1) := by decide +kernel
theorem dX7_isEvent_149 : decode cX7_isEvent 149 = .ok (.iconst 0, 1) := by decide +kernel
theorem dX7_isEvent_150 : decode cX7_isEvent 150 = .ok (.ireturn, 1) := by decide +kernel
theorem dX7_has_0 : decode cX7_has 0 = .ok (.iload_n 0, 1) := by decide +kernel
theorem dX7_has_1 : decode cX7_has 1 = .ok (.iload_n 1, 1) := by decide +kernel
theorem dX7_has_2 : decode cX7_has 2 = .ok (.ishr, 1) := by decide +kernel
theorem dX7_has_3 : decode cX7_has 3 = .ok (.iconst 1, 1) := by decide +kernel
theorem dX7_has_4 : decode cX7_has 4 = .ok (.iand, 1) := by decide +kernel
theorem dX7_has_5 : decode cX7_has 5 = .ok (.ifCond .eq 7, 3) := by decide +kernel
theorem dX7_has_8 : decode cX7_has 8 = .ok (.iconst 1, 1) := by decide +kernel
theorem dX7_has_9 : decode cX7_has 9 = .ok (.goto 4, 3) := by decide +kernel
theorem dX7_has_12 : decode cX7_has 12 = .ok (.iconst 0, 1) := by decide +kernel
theorem dX7_has_13 : decode cX7_has 13 = .ok (.ireturn, 1) := by decide +kernel
theorem dX7_isHouse_0 : decode cX7_isHouse 0 = .ok (.iload_n 1, 1) := by decide +kernel
theorem dX7_isHouse_1 : decode cX7_isHouse 1 = .ok (.ifCond .lt 18, 3) := by decide +kernel
theorem dX7_isHouse_4 : decode cX7_isHouse 4 = .ok (.iload_n 1, 1) := by decide +kernel
theorem dX7_isHouse_5 : decode cX7_isHouse 5 = .ok (.aload_n 0, 1) := by decide +kernel
theorem dX7_isHouse_6 : decode cX7_isHouse 6 = .ok (.getfield 66, 3) := by decide +kernel
theorem dX7_isHouse_9 : decode cX7_isHouse 9 = .ok (.getfield 153, 3) := by decide +kernel
theorem dX7_isHouse_12 : decode cX7_isHouse 12 = .ok (.if_icmp .ge 7, 3) := by decide +kernel
theorem dX7_isHouse_15 : decode cX7_isHouse 15 = .ok (.iconst 1, 1) := by decide +kernel
theorem dX7_isHouse_16 : decode cX7_isHouse 16 = .ok (.goto 4, 3) := by decide +kernel
theorem dX7_isHouse_19 : decode cX7_isHouse 19 = .ok (.iconst 0, 1) := by decide +kernel
theorem dX7_isHouse_20 : decode cX7_isHouse 20 = .ok (.ireturn, 1) := by decide +kernel
theorem dX7_isPerson_0 : decode cX7_isPerson 0 = .ok (.iload_n 1, 1) := by decide +kernel
theorem dX7_isPerson_1 : decode cX7_isPerson 1 = .ok (.ifCond .lt 18, 3) := by decide +kernel
theorem dX7_isPerson_4 : decode cX7_isPerson 4 = .ok (.iload_n 1, 1) := by decide +kernel
theorem dX7_isPerson_5 : decode cX7_isPerson 5 = .ok (.aload_n 0, 1) := by decide +kernel
theorem dX7_isPerson_6 : decode cX7_isPerson 6 = .ok (.getfield 66, 3) := by decide +kernel
theorem dX7_isPerson_9 : decode cX7_isPerson 9 = .ok (.getfield 226, 3) := by decide +kernel
theorem dX7_isPerson_12 : decode cX7_isPerson 12 = .ok (.if_icmp .ge 7, 3) := by decide +kernel
theorem dX7_isPerson_15 : decode cX7_isPerson 15 = .ok (.iconst 1, 1) := by decide +kernel
theorem dX7_isPerson_16 : decode cX7_isPerson 16 = .ok (.goto 4, 3) := by decide +kernel
theorem dX7_isPerson_19 : decode cX7_isPerson 19 = .ok (.iconst 0, 1) := by decide +kernel
theorem dX7_isPerson_20 : decode cX7_isPerson 20 = .ok (.ireturn, 1) := by decide +kernel
theorem dX7_houseDetail_0 : decode cX7_houseDetail 0 = .ok (.iload_n 2, 1) := by decide +kernel
theorem dX7_houseDetail_1 : decode cX7_houseDetail 1 = .ok (.tableswitch 54 0 2 #[27, 36, 45], 27) := by decide +kernel
theorem dX7_houseDetail_28 : decode cX7_houseDetail 28 = .ok (.aload_n 0, 1) := by decide +kernel
theorem dX7_houseDetail_29 : decode cX7_houseDetail 29 = .ok (.getfield 66, 3) := by decide +kernel
theorem dX7_houseDetail_32 : decode cX7_houseDetail 32 = .ok (.iload_n 1, 1) := by decide +kernel
theorem dX7_houseDetail_33 : decode cX7_houseDetail 33 = .ok (.invokevirtual 306, 3) := by decide +kernel
theorem dX7_houseDetail_36 : decode cX7_houseDetail 36 = .ok (.ireturn, 1) := by decide +kernel
theorem dX7_houseDetail_37 : decode cX7_houseDetail 37 = .ok (.aload_n 0, 1) := by decide +kernel
theorem dX7_houseDetail_38 : decode cX7_houseDetail 38 = .ok (.getfield 34, 3) := by decide +kernel
theorem dX7_houseDetail_41 : decode cX7_houseDetail 41 = .ok (.iload_n 1, 1) := by decide +kernel
theorem dX7_houseDetail_42 : decode cX7_houseDetail 42 = .ok (.invokevirtual 351, 3) := by decide +kernel
theorem dX7_houseDetail_45 : decode cX7_houseDetail 45 = .ok (.ireturn, 1) := by decide +kernel
theorem dX7_houseDetail_46 : decode cX7_houseDetail 46 = .ok (.aload_n 0, 1) := by decide +kernel
theorem dX7_houseDetail_47 : decode cX7_houseDetail 47 = .ok (.getfield 34, 3) := by decide +kernel
theorem dX7_houseDetail_50 : decode cX7_houseDetail 50 = .ok (.iload_n 1, 1) := by decide +kernel
theorem dX7_houseDetail_51 : decode cX7_houseDetail 51 = .ok (.invokevirtual 261, 3) := by decide +kernel
theorem dX7_houseDetail_54 : decode cX7_houseDetail 54 = .ok (.ireturn, 1) := by decide +kernel
theorem dX7_houseDetail_55 : decode cX7_houseDetail 55 = .ok (.aload_n 0, 1) := by decide +kernel
theorem dX7_houseDetail_56 : decode cX7_houseDetail 56 = .ok (.getfield 66, 3) := by decide +kernel
theorem dX7_houseDetail_59 : decode cX7_houseDetail 59 = .ok (.iload_n 1, 1) := by decide +kernel
theorem dX7_houseDetail_60 : decode cX7_houseDetail 60 = .ok (.invokevirtual 354, 3) := by decide +kernel
theorem dX7_houseDetail_63 : decode cX7_houseDetail 63 = .ok (.ireturn, 1) := by decide +kernel
theorem dX7_personDetail_0 : decode cX7_personDetail 0 = .ok (.iload_n 2, 1) := by decide +kernel
theorem dX7_personDetail_1 : decode cX7_personDetail 1 = .ok (.lookupswitch 45 #[(0, 27), (1, 36)], 27) := by decide +kernel
theorem dX7_personDetail_28 : decode cX7_personDetail 28 = .ok (.aload_n 0, 1) := by decide +kernel
theorem dX7_personDetail_29 : decode cX7_personDetail 29 = .ok (.getfield 66, 3) := by decide +kernel
theorem dX7_personDetail_32 : decode cX7_personDetail 32 = .ok (.iload_n 1, 1) := by decide +kernel
theorem dX7_personDetail_33 : decode cX7_personDetail 33 = .ok (.invokevirtual 280, 3) := by decide +kernel
theorem dX7_personDetail_36 : decode cX7_personDetail 36 = .ok (.ireturn, 1) := by decide +kernel
theorem dX7_personDetail_37 : decode cX7_personDetail 37 = .ok (.aload_n 0, 1) := by decide +kernel
theorem dX7_personDetail_38 : decode cX7_personDetail 38 = .ok (.getfield 66, 3) := by decide +kernel
theorem dX7_personDetail_41 : decode cX7_personDetail 41 = .ok (.iload_n 1, 1) := by decide +kernel
theorem dX7_personDetail_42 : decode cX7_personDetail 42 = .ok (.invokevirtual 237, 3) := by decide +kernel
theorem dX7_personDetail_45 : decode cX7_personDetail 45 = .ok (.ireturn, 1) := by decide +kernel
theorem dX7_personDetail_46 : decode cX7_personDetail 46 = .ok (.aload_n 0, 1) := by decide +kernel
theorem dX7_personDetail_47 : decode cX7_personDetail 47 = .ok (.getfield 34, 3) := by decide +kernel
theorem dX7_personDetail_50 : decode cX7_personDetail 50 = .ok (.iload_n 1, 1) := by decide +kernel
theorem dX7_personDetail_51 : decode cX7_personDetail 51 = .ok (.invokevirtual 357, 3) := by decide +kernel
theorem dX7_personDetail_54 : decode cX7_personDetail 54 = .ok (.ireturn, 1) := by decide +kernel
theorem dX7_digestPerson_0 : decode cX7_digestPerson 0 = .ok (.lload_n 1, 1) := by decide +kernel
theorem dX7_digestPerson_1 : decode cX7_digestPerson 1 = .ok (.lstore 4, 2) := by decide +kernel
theorem dX7_digestPerson_3 : decode cX7_digestPerson 3 = .ok (.iconst 0, 1) := by decide +kernel
theorem dX7_digestPerson_4 : decode cX7_digestPerson 4 = .ok (.istore 6, 2) := by decide +kernel
theorem dX7_digestPerson_6 : decode cX7_digestPerson 6 = .ok (.iload 6, 2) := by decide +kernel
theorem dX7_digestPerson_8 : decode cX7_digestPerson 8 = .ok (.iconst 3, 1) := by decide +kernel
theorem dX7_digestPerson_9 : decode cX7_digestPerson 9 = .ok (.if_icmp .ge 26, 3) := by decide +kernel
theorem dX7_digestPerson_12 : decode cX7_digestPerson 12 = .ok (.ldc2_w 316, 3) := by decide +kernel
theorem dX7_digestPerson_15 : decode cX7_digestPerson 15 = .ok (.lload 4, 2) := by decide +kernel
theorem dX7_digestPerson_17 : decode cX7_digestPerson 17 = .ok (.lmul, 1) := by decide +kernel
theorem dX7_digestPerson_18 : decode cX7_digestPerson 18 = .ok (.aload_n 0, 1) := by decide +kernel
theorem dX7_digestPerson_19 : decode cX7_digestPerson 19 = .ok (.iload_n 3, 1) := by decide +kernel
theorem dX7_digestPerson_20 : decode cX7_digestPerson 20 = .ok (.iload 6, 2) := by decide +kernel
theorem dX7_digestPerson_22 : decode cX7_digestPerson 22 = .ok (.invokevirtual 204, 3) := by decide +kernel
theorem dX7_digestPerson_25 : decode cX7_digestPerson 25 = .ok (.i2l, 1) := by decide +kernel
theorem dX7_digestPerson_26 : decode cX7_digestPerson 26 = .ok (.ladd, 1) := by decide +kernel
theorem dX7_digestPerson_27 : decode cX7_digestPerson 27 = .ok (.lstore 4, 2) := by decide +kernel
theorem dX7_digestPerson_29 : decode cX7_digestPerson 29 = .ok (.iinc 6 1, 3) := by decide +kernel
theorem dX7_digestPerson_32 : decode cX7_digestPerson 32 = .ok (.goto (-26), 3) := by decide +kernel
theorem dX7_digestPerson_35 : decode cX7_digestPerson 35 = .ok (.iconst 0, 1) := by decide +kernel
theorem dX7_digestPerson_36 : decode cX7_digestPerson 36 = .ok (.istore 6, 2) := by decide +kernel
theorem dX7_digestPerson_38 : decode cX7_digestPerson 38 = .ok (.iload 6, 2) := by decide +kernel
theorem dX7_digestPerson_40 : decode cX7_digestPerson 40 = .ok (.aload_n 0, 1) := by decide +kernel
theorem dX7_digestPerson_41 : decode cX7_digestPerson 41 = .ok (.getfield 66, 3) := by decide +kernel
theorem dX7_digestPerson_44 : decode cX7_digestPerson 44 = .ok (.getfield 226, 3) := by decide +kernel
theorem dX7_digestPerson_47 : decode cX7_digestPerson 47 = .ok (.if_icmp .ge 35, 3) := by decide +kernel
theorem dX7_digestPerson_50 : decode cX7_digestPerson 50 = .ok (.iload 6, 2) := by decide +kernel
theorem dX7_digestPerson_52 : decode cX7_digestPerson 52 = .ok (.iload_n 3, 1) := by decide +kernel
theorem dX7_digestPerson_53 : decode cX7_digestPerson 53 = .ok (.if_icmp .eq 23, 3) := by decide +kernel
theorem dX7_digestPerson_56 : decode cX7_digestPerson 56 = .ok (.ldc2_w 316, 3) := by decide +kernel
theorem dX7_digestPerson_59 : decode cX7_digestPerson 59 = .ok (.lload 4, 2) := by decide +kernel
theorem dX7_digestPerson_61 : decode cX7_digestPerson 61 = .ok (.lmul, 1) := by decide +kernel
theorem dX7_digestPerson_62 : decode cX7_digestPerson 62 = .ok (.aload_n 0, 1) := by decide +kernel
theorem dX7_digestPerson_63 : decode cX7_digestPerson 63 = .ok (.getfield 34, 3) := by decide +kernel
theorem dX7_digestPerson_66 : decode cX7_digestPerson 66 = .ok (.iload_n 3, 1) := by decide +kernel
theorem dX7_digestPerson_67 : decode cX7_digestPerson 67 = .ok (.iload 6, 2) := by decide +kernel
theorem dX7_digestPerson_69 : decode cX7_digestPerson 69 = .ok (.invokevirtual 213, 3) := by decide +kernel
theorem dX7_digestPerson_72 : decode cX7_digestPerson 72 = .ok (.i2l, 1) := by decide +kernel
theorem dX7_digestPerson_73 : decode cX7_digestPerson 73 = .ok (.ladd, 1) := by decide +kernel
theorem dX7_digestPerson_74 : decode cX7_digestPerson 74 = .ok (.lstore 4, 2) := by decide +kernel
theorem dX7_digestPerson_76 : decode cX7_digestPerson 76 = .ok (.iinc 6 1, 3) := by decide +kernel
theorem dX7_digestPerson_79 : decode cX7_digestPerson 79 = .ok (.goto (-41), 3) := by decide +kernel
theorem dX7_digestPerson_82 : decode cX7_digestPerson 82 = .ok (.lload 4, 2) := by decide +kernel
theorem dX7_digestPerson_84 : decode cX7_digestPerson 84 = .ok (.lreturn, 1) := by decide +kernel
theorem dX7_comesAlone_0 : decode cX7_comesAlone 0 = .ok (.aload_n 0, 1) := by decide +kernel
theorem dX7_comesAlone_1 : decode cX7_comesAlone 1 = .ok (.iload_n 1, 1) := by decide +kernel
theorem dX7_comesAlone_2 : decode cX7_comesAlone 2 = .ok (.iconst 1, 1) := by decide +kernel
theorem dX7_comesAlone_3 : decode cX7_comesAlone 3 = .ok (.invokevirtual 219, 3) := by decide +kernel
theorem dX7_comesAlone_6 : decode cX7_comesAlone 6 = .ok (.ireturn, 1) := by decide +kernel
theorem dX7_comesUnaided_0 : decode cX7_comesUnaided 0 = .ok (.aload_n 0, 1) := by decide +kernel
theorem dX7_comesUnaided_1 : decode cX7_comesUnaided 1 = .ok (.getfield 34, 3) := by decide +kernel
theorem dX7_comesUnaided_4 : decode cX7_comesUnaided 4 = .ok (.iconst 1, 1) := by decide +kernel
theorem dX7_comesUnaided_5 : decode cX7_comesUnaided 5 = .ok (.iconst (-1), 1) := by decide +kernel
theorem dX7_comesUnaided_6 : decode cX7_comesUnaided 6 = .ok (.invokevirtual 247, 3) := by decide +kernel
theorem dX7_comesUnaided_9 : decode cX7_comesUnaided 9 = .ok (.istore_n 3, 1) := by decide +kernel
theorem dX7_comesUnaided_10 : decode cX7_comesUnaided 10 = .ok (.aload_n 0, 1) := by decide +kernel
theorem dX7_comesUnaided_11 : decode cX7_comesUnaided 11 = .ok (.getfield 34, 3) := by decide +kernel
theorem dX7_comesUnaided_14 : decode cX7_comesUnaided 14 = .ok (.iload_n 2, 1) := by decide +kernel
theorem dX7_comesUnaided_15 : decode cX7_comesUnaided 15 = .ok (.ifCond .eq 17, 3) := by decide +kernel
theorem dX7_comesUnaided_18 : decode cX7_comesUnaided 18 = .ok (.iload_n 3, 1) := by decide +kernel
theorem dX7_comesUnaided_19 : decode cX7_comesUnaided 19 = .ok (.aload_n 0, 1) := by decide +kernel
theorem dX7_comesUnaided_20 : decode cX7_comesUnaided 20 = .ok (.getfield 34, 3) := by decide +kernel
theorem dX7_comesUnaided_23 : decode cX7_comesUnaided 23 = .ok (.iconst 0, 1) := by decide +kernel
theorem dX7_comesUnaided_24 : decode cX7_comesUnaided 24 = .ok (.iload_n 1, 1) := by decide +kernel
theorem dX7_comesUnaided_25 : decode cX7_comesUnaided 25 = .ok (.invokevirtual 247, 3) := by decide +kernel
theorem dX7_comesUnaided_28 : decode cX7_comesUnaided 28 = .ok (.ior, 1) := by decide +kernel
theorem dX7_comesUnaided_29 : decode cX7_comesUnaided 29 = .ok (.goto 4, 3) := by decide +kernel
theorem dX7_comesUnaided_32 : decode cX7_comesUnaided 32 = .ok (.iload_n 3, 1) := by decide +kernel
theorem dX7_comesUnaided_33 : decode cX7_comesUnaided 33 = .ok (.invokevirtual 258, 3) := by decide +kernel
theorem dX7_comesUnaided_36 : decode cX7_comesUnaided 36 = .ok (.ireturn, 1) := by decide +kernel
theorem dX7_canWake_0 : decode cX7_canWake 0 = .ok (.iload_n 2, 1) := by decide +kernel
theorem dX7_canWake_1 : decode cX7_canWake 1 = .ok (.iload_n 1, 1) := by decide +kernel
theorem dX7_canWake_2 : decode cX7_canWake 2 = .ok (.if_icmp .eq 30, 3) := by decide +kernel
theorem dX7_canWake_5 : decode cX7_canWake 5 = .ok (.aload_n 0, 1) := by decide +kernel
theorem dX7_canWake_6 : decode cX7_canWake 6 = .ok (.getfield 66, 3) := by decide +kernel
theorem dX7_canWake_9 : decode cX7_canWake 9 = .ok (.iload_n 2, 1) := by decide +kernel
theorem dX7_canWake_10 : decode cX7_canWake 10 = .ok (.invokevirtual 280, 3) := by decide +kernel
theorem dX7_canWake_13 : decode cX7_canWake 13 = .ok (.ifCond .lt 19, 3) := by decide +kernel
theorem dX7_canWake_16 : decode cX7_canWake 16 = .ok (.aload_n 0, 1) := by decide +kernel
theorem dX7_canWake_17 : decode cX7_canWake 17 = .ok (.getfield 34, 3) := by decide +kernel
theorem dX7_canWake_20 : decode cX7_canWake 20 = .ok (.iload_n 2, 1) := by decide +kernel
theorem dX7_canWake_21 : decode cX7_canWake 21 = .ok (.iload_n 1, 1) := by decide +kernel
theorem dX7_canWake_22 : decode cX7_canWake 22 = .ok (.invokevirtual 213, 3) := by decide +kernel
theorem dX7_canWake_25 : decode cX7_canWake 25 = .ok (.ifCond .lt 7, 3) := by decide +kernel
theorem dX7_canWake_28 : decode cX7_canWake 28 = .ok (.iconst 1, 1) := by decide +kernel
theorem dX7_canWake_29 : decode cX7_canWake 29 = .ok (.goto 4, 3) := by decide +kernel
theorem dX7_canWake_32 : decode cX7_canWake 32 = .ok (.iconst 0, 1) := by decide +kernel
theorem dX7_canWake_33 : decode cX7_canWake 33 = .ok (.ireturn, 1) := by decide +kernel
theorem dX7_comesBy_0 : decode cX7_comesBy 0 = .ok (.aload_n 0, 1) := by decide +kernel
theorem dX7_comesBy_1 : decode cX7_comesBy 1 = .ok (.getfield 34, 3) := by decide +kernel
theorem dX7_comesBy_4 : decode cX7_comesBy 4 = .ok (.aload_n 0, 1) := by decide +kernel
theorem dX7_comesBy_5 : decode cX7_comesBy 5 = .ok (.iload_n 1, 1) := by decide +kernel
theorem dX7_comesBy_6 : decode cX7_comesBy 6 = .ok (.invokevirtual 360, 3) := by decide +kernel
theorem dX7_comesBy_9 : decode cX7_comesBy 9 = .ok (.invokevirtual 258, 3) := by decide +kernel
theorem dX7_comesBy_12 : decode cX7_comesBy 12 = .ok (.ireturn, 1) := by decide +kernel
theorem dX7_handedBy_0 : decode cX7_handedBy 0 = .ok (.aload_n 0, 1) := by decide +kernel
theorem dX7_handedBy_1 : decode cX7_handedBy 1 = .ok (.getfield 66, 3) := by decide +kernel
theorem dX7_handedBy_4 : decode cX7_handedBy 4 = .ok (.iload_n 1, 1) := by decide +kernel
theorem dX7_handedBy_5 : decode cX7_handedBy 5 = .ok (.invokevirtual 280, 3) := by decide +kernel
theorem dX7_handedBy_8 : decode cX7_handedBy 8 = .ok (.istore_n 2, 1) := by decide +kernel
theorem dX7_handedBy_9 : decode cX7_handedBy 9 = .ok (.aload_n 0, 1) := by decide +kernel
theorem dX7_handedBy_10 : decode cX7_handedBy 10 = .ok (.getfield 34, 3) := by decide +kernel
theorem dX7_handedBy_13 : decode cX7_handedBy 13 = .ok (.iconst 0, 1) := by decide +kernel
theorem dX7_handedBy_14 : decode cX7_handedBy 14 = .ok (.iload_n 1, 1) := by decide +kernel
theorem dX7_handedBy_15 : decode cX7_handedBy 15 = .ok (.invokevirtual 247, 3) := by decide +kernel
theorem dX7_handedBy_18 : decode cX7_handedBy 18 = .ok (.iload_n 2, 1) := by decide +kernel
theorem dX7_handedBy_19 : decode cX7_handedBy 19 = .ok (.ifCond .lt 9, 3) := by decide +kernel
theorem dX7_handedBy_22 : decode cX7_handedBy 22 = .ok (.iconst 1, 1) := by decide +kernel
theorem dX7_handedBy_23 : decode cX7_handedBy 23 = .ok (.iload_n 2, 1) := by decide +kernel
theorem dX7_handedBy_24 : decode cX7_handedBy 24 = .ok (.ishl, 1) := by decide +kernel
theorem dX7_handedBy_25 : decode cX7_handedBy 25 = .ok (.goto 4, 3) := by decide +kernel
theorem dX7_handedBy_28 : decode cX7_handedBy 28 = .ok (.iconst 0, 1) := by decide +kernel
theorem dX7_handedBy_29 : decode cX7_handedBy 29 = .ok (.ior, 1) := by decide +kernel
theorem dX7_handedBy_30 : decode cX7_handedBy 30 = .ok (.ireturn, 1) := by decide +kernel
theorem dX7_prepareWay_0 : decode cX7_prepareWay 0 = .ok (.aload_n 0, 1) := by decide +kernel
theorem dX7_prepareWay_1 : decode cX7_prepareWay 1 = .ok (.getfield 66, 3) := by decide +kernel
theorem dX7_prepareWay_4 : decode cX7_prepareWay 4 = .ok (.iload_n 1, 1) := by decide +kernel
theorem dX7_prepareWay_5 : decode cX7_prepareWay 5 = .ok (.invokevirtual 280, 3) := by decide +kernel
theorem dX7_prepareWay_8 : decode cX7_prepareWay 8 = .ok (.istore_n 2, 1) := by decide +kernel
theorem dX7_prepareWay_9 : decode cX7_prepareWay 9 = .ok (.aload_n 0, 1) := by decide +kernel
theorem dX7_prepareWay_10 : decode cX7_prepareWay 10 = .ok (.getfield 48, 3) := by decide +kernel
theorem dX7_prepareWay_13 : decode cX7_prepareWay 13 = .ok (.aload_n 0, 1) := by decide +kernel
theorem dX7_prepareWay_14 : decode cX7_prepareWay 14 = .ok (.getfield 66, 3) := by decide +kernel
theorem dX7_prepareWay_17 : decode cX7_prepareWay 17 = .ok (.getfield 153, 3) := by decide +kernel
theorem dX7_prepareWay_20 : decode cX7_prepareWay 20 = .ok (.iload_n 2, 1) := by decide +kernel
theorem dX7_prepareWay_21 : decode cX7_prepareWay 21 = .ok (.ifCond .lt 7, 3) := by decide +kernel
theorem dX7_prepareWay_24 : decode cX7_prepareWay 24 = .ok (.iload_n 2, 1) := by decide +kernel
theorem dX7_prepareWay_25 : decode cX7_prepareWay 25 = .ok (.goto 4, 3) := by decide +kernel
theorem dX7_prepareWay_28 : decode cX7_prepareWay 28 = .ok (.iconst 0, 1) := by decide +kernel
theorem dX7_prepareWay_29 : decode cX7_prepareWay 29 = .ok (.invokevirtual 363, 3) := by decide +kernel
theorem dX7_prepareWay_32 : decode cX7_prepareWay 32 = .ok (.iconst 0, 1) := by decide +kernel
theorem dX7_prepareWay_33 : decode cX7_prepareWay 33 = .ok (.istore_n 3, 1) := by decide +kernel
theorem dX7_prepareWay_34 : decode cX7_prepareWay 34 = .ok (.iload_n 3, 1) := by decide +kernel
theorem dX7_prepareWay_35 : decode cX7_prepareWay 35 = .ok (.aload_n 0, 1) := by decide +kernel
theorem dX7_prepareWay_36 : decode cX7_prepareWay 36 = .ok (.getfield 66, 3) := by decide +kernel
theorem dX7_prepareWay_39 : decode cX7_prepareWay 39 = .ok (.getfield 153, 3) := by decide +kernel
theorem dX7_prepareWay_42 : decode cX7_prepareWay 42 = .ok (.if_icmp .ge 43, 3) := by decide +kernel
theorem dX7_prepareWay_45 : decode cX7_prepareWay 45 = .ok (.aload_n 0, 1) := by decide +kernel
theorem dX7_prepareWay_46 : decode cX7_prepareWay 46 = .ok (.getfield 48, 3) := by decide +kernel
theorem dX7_prepareWay_49 : decode cX7_prepareWay 49 = .ok (.iload_n 3, 1) := by decide +kernel
theorem dX7_prepareWay_50 : decode cX7_prepareWay 50 = .ok (.aload_n 0, 1) := by decide +kernel
theorem dX7_prepareWay_51 : decode cX7_prepareWay 51 = .ok (.getfield 34, 3) := by decide +kernel
theorem dX7_prepareWay_54 : decode cX7_prepareWay 54 = .ok (.iconst 1, 1) := by decide +kernel
theorem dX7_prepareWay_55 : decode cX7_prepareWay 55 = .ok (.iload_n 3, 1) := by decide +kernel
theorem dX7_prepareWay_56 : decode cX7_prepareWay 56 = .ok (.invokevirtual 247, 3) := by decide +kernel
theorem dX7_prepareWay_59 : decode cX7_prepareWay 59 = .ok (.invokevirtual 365, 3) := by decide +kernel
theorem dX7_prepareWay_62 : decode cX7_prepareWay 62 = .ok (.aload_n 0, 1) := by decide +kernel
theorem dX7_prepareWay_63 : decode cX7_prepareWay 63 = .ok (.getfield 48, 3) := by decide +kernel
theorem dX7_prepareWay_66 : decode cX7_prepareWay 66 = .ok (.iload_n 3, 1) := by decide +kernel
theorem dX7_prepareWay_67 : decode cX7_prepareWay 67 = .ok (.aload_n 0, 1) := by decide +kernel
theorem dX7_prepareWay_68 : decode cX7_prepareWay 68 = .ok (.getfield 34, 3) := by decide +kernel
theorem dX7_prepareWay_71 : decode cX7_prepareWay 71 = .ok (.iconst 2, 1) := by decide +kernel
theorem dX7_prepareWay_72 : decode cX7_prepareWay 72 = .ok (.iload_n 3, 1) := by decide +kernel
theorem dX7_prepareWay_73 : decode cX7_prepareWay 73 = .ok (.invokevirtual 247, 3) := by decide +kernel
theorem dX7_prepareWay_76 : decode cX7_prepareWay 76 = .ok (.invokevirtual 368, 3) := by decide +kernel
theorem dX7_prepareWay_79 : decode cX7_prepareWay 79 = .ok (.iinc 3 1, 3) := by decide +kernel
theorem dX7_prepareWay_82 : decode cX7_prepareWay 82 = .ok (.goto (-48), 3) := by decide +kernel
theorem dX7_prepareWay_85 : decode cX7_prepareWay 85 = .ok (.iconst 0, 1) := by decide +kernel
theorem dX7_prepareWay_86 : decode cX7_prepareWay 86 = .ok (.istore_n 3, 1) := by decide +kernel
theorem dX7_prepareWay_87 : decode cX7_prepareWay 87 = .ok (.iload_n 3, 1) := by decide +kernel
theorem dX7_prepareWay_88 : decode cX7_prepareWay 88 = .ok (.aload_n 0, 1) := by decide +kernel
theorem dX7_prepareWay_89 : decode cX7_prepareWay 89 = .ok (.getfield 66, 3) := by decide +kernel
theorem dX7_prepareWay_92 : decode cX7_prepareWay 92 = .ok (.getfield 226, 3) := by decide +kernel
theorem dX7_prepareWay_95 : decode cX7_prepareWay 95 = .ok (.if_icmp .ge 38, 3) := by decide +kernel
theorem dX7_prepareWay_98 : decode cX7_prepareWay 98 = .ok (.aload_n 0, 1) := by decide +kernel
theorem dX7_prepareWay_99 : decode cX7_prepareWay 99 = .ok (.iload_n 1, 1) := by decide +kernel
theorem dX7_prepareWay_100 : decode cX7_prepareWay 100 = .ok (.iload_n 3, 1) := by decide +kernel
theorem dX7_prepareWay_101 : decode cX7_prepareWay 101 = .ok (.invokevirtual 229, 3) := by decide +kernel
theorem dX7_prepareWay_104 : decode cX7_prepareWay 104 = .ok (.ifCond .eq 23, 3) := by decide +kernel
theorem dX7_prepareWay_107 : decode cX7_prepareWay 107 = .ok (.aload_n 0, 1) := by decide +kernel
theorem dX7_prepareWay_108 : decode cX7_prepareWay 108 = .ok (.getfield 48, 3) := by decide +kernel
theorem dX7_prepareWay_111 : decode cX7_prepareWay 111 = .ok (.aload_n 0, 1) := by decide +kernel
theorem dX7_prepareWay_112 : decode cX7_prepareWay 112 = .ok (.getfield 66, 3) := by decide +kernel
theorem dX7_prepareWay_115 : decode cX7_prepareWay 115 = .ok (.iload_n 3, 1) := by decide +kernel
theorem dX7_prepareWay_116 : decode cX7_prepareWay 116 = .ok (.invokevirtual 280, 3) := by decide +kernel
theorem dX7_prepareWay_119 : decode cX7_prepareWay 119 = .ok (.aload_n 0, 1) := by decide +kernel
theorem dX7_prepareWay_120 : decode cX7_prepareWay 120 = .ok (.iload_n 3, 1) := by decide +kernel
theorem dX7_prepareWay_121 : decode cX7_prepareWay 121 = .ok (.invokevirtual 360, 3) := by decide +kernel
theorem dX7_prepareWay_124 : decode cX7_prepareWay 124 = .ok (.invokevirtual 365, 3) := by decide +kernel
theorem dX7_prepareWay_127 : decode cX7_prepareWay 127 = .ok (.iinc 3 1, 3) := by decide +kernel
theorem dX7_prepareWay_130 : decode cX7_prepareWay 130 = .ok (.goto (-43), 3) := by decide +kernel
theorem dX7_prepareWay_133 : decode cX7_prepareWay 133 = .ok (.return_, 1) := by decide +kernel
theorem dX7_riskiest_0 : decode cX7_riskiest 0 = .ok (.bipush (-9), 2) := by decide +kernel
theorem dX7_riskiest_2 : decode cX7_riskiest 2 = .ok (.istore_n 2, 1) := by decide +kernel
theorem dX7_riskiest_3 : decode cX7_riskiest 3 = .ok (.iconst 0, 1) := by decide +kernel
theorem dX7_riskiest_4 : decode cX7_riskiest 4 = .ok (.istore_n 3, 1) := by decide +kernel
theorem dX7_riskiest_5 : decode cX7_riskiest 5 = .ok (.iconst 0, 1) := by decide +kernel
theorem dX7_riskiest_6 : decode cX7_riskiest 6 = .ok (.istore 4, 2) := by decide +kernel
theorem dX7_riskiest_8 : decode cX7_riskiest 8 = .ok (.iload 4, 2) := by decide +kernel
theorem dX7_riskiest_10 : decode cX7_riskiest 10 = .ok (.aload_n 0, 1) := by decide +kernel
theorem dX7_riskiest_11 : decode cX7_riskiest 11 = .ok (.getfield 66, 3) := by decide +kernel
theorem dX7_riskiest_14 : decode cX7_riskiest 14 = .ok (.getfield 153, 3) := by decide +kernel
theorem dX7_riskiest_17 : decode cX7_riskiest 17 = .ok (.if_icmp .ge 90, 3) := by decide +kernel
theorem dX7_riskiest_20 : decode cX7_riskiest 20 = .ok (.iload_n 1, 1) := by decide +kernel
theorem dX7_riskiest_21 : decode cX7_riskiest 21 = .ok (.iload 4, 2) := by decide +kernel
theorem dX7_riskiest_23 : decode cX7_riskiest 23 = .ok (.invokestatic 223, 3) := by decide +kernel
theorem dX7_riskiest_26 : decode cX7_riskiest 26 = .ok (.ifCond .eq 75, 3) := by decide +kernel
theorem dX7_riskiest_29 : decode cX7_riskiest 29 = .ok (.aload_n 0, 1) := by decide +kernel
theorem dX7_riskiest_30 : decode cX7_riskiest 30 = .ok (.getfield 34, 3) := by decide +kernel
theorem dX7_riskiest_33 : decode cX7_riskiest 33 = .ok (.iconst 1, 1) := by decide +kernel
theorem dX7_riskiest_34 : decode cX7_riskiest 34 = .ok (.iload 4, 2) := by decide +kernel
theorem dX7_riskiest_36 : decode cX7_riskiest 36 = .ok (.ishl, 1) := by decide +kernel
theorem dX7_riskiest_37 : decode cX7_riskiest 37 = .ok (.invokevirtual 258, 3) := by decide +kernel
theorem dX7_riskiest_40 : decode cX7_riskiest 40 = .ok (.invokestatic 298, 3) := by decide +kernel
theorem dX7_riskiest_43 : decode cX7_riskiest 43 = .ok (.istore 5, 2) := by decide +kernel
theorem dX7_riskiest_45 : decode cX7_riskiest 45 = .ok (.iload_n 2, 1) := by decide +kernel
theorem dX7_riskiest_46 : decode cX7_riskiest 46 = .ok (.bipush (-9), 2) := by decide +kernel
theorem dX7_riskiest_48 : decode cX7_riskiest 48 = .ok (.if_icmp .eq 23, 3) := by decide +kernel
theorem dX7_riskiest_51 : decode cX7_riskiest 51 = .ok (.aload_n 0, 1) := by decide +kernel
theorem dX7_riskiest_52 : decode cX7_riskiest 52 = .ok (.getfield 66, 3) := by decide +kernel
theorem dX7_riskiest_55 : decode cX7_riskiest 55 = .ok (.iload 4, 2) := by decide +kernel
theorem dX7_riskiest_57 : decode cX7_riskiest 57 = .ok (.invokevirtual 306, 3) := by decide +kernel
theorem dX7_riskiest_60 : decode cX7_riskiest 60 = .ok (.aload_n 0, 1) := by decide +kernel
theorem dX7_riskiest_61 : decode cX7_riskiest 61 = .ok (.getfield 66, 3) := by decide +kernel
theorem dX7_riskiest_64 : decode cX7_riskiest 64 = .ok (.iload_n 2, 1) := by decide +kernel
theorem dX7_riskiest_65 : decode cX7_riskiest 65 = .ok (.invokevirtual 306, 3) := by decide +kernel
theorem dX7_riskiest_68 : decode cX7_riskiest 68 = .ok (.if_icmp .ge 7, 3) := by decide +kernel
theorem dX7_riskiest_71 : decode cX7_riskiest 71 = .ok (.iconst 1, 1) := by decide +kernel
theorem dX7_riskiest_72 : decode cX7_riskiest 72 = .ok (.goto 4, 3) := by decide +kernel
theorem dX7_riskiest_75 : decode cX7_riskiest 75 = .ok (.iconst 0, 1) := by decide +kernel
theorem dX7_riskiest_76 : decode cX7_riskiest 76 = .ok (.istore 6, 2) := by decide +kernel
theorem dX7_riskiest_78 : decode cX7_riskiest 78 = .ok (.iload 5, 2) := by decide +kernel
theorem dX7_riskiest_80 : decode cX7_riskiest 80 = .ok (.iload_n 3, 1) := by decide +kernel
theorem dX7_riskiest_81 : decode cX7_riskiest 81 = .ok (.if_icmp .gt 14, 3) := by decide +kernel
theorem dX7_riskiest_84 : decode cX7_riskiest 84 = .ok (.iload 5, 2) := by decide +kernel
theorem dX7_riskiest_86 : decode cX7_riskiest 86 = .ok (.iload_n 3, 1) := by decide +kernel
theorem dX7_riskiest_87 : decode cX7_riskiest 87 = .ok (.if_icmp .ne 14, 3) := by decide +kernel
theorem dX7_riskiest_90 : decode cX7_riskiest 90 = .ok (.iload 6, 2) := by decide +kernel
theorem dX7_riskiest_92 : decode cX7_riskiest 92 = .ok (.ifCond .eq 9, 3) := by decide +kernel
theorem dX7_riskiest_95 : decode cX7_riskiest 95 = .ok (.iload 4, 2) := by decide +kernel
theorem dX7_riskiest_97 : decode cX7_riskiest 97 = .ok (.istore_n 2, 1) := by decide +kernel
theorem dX7_riskiest_98 : decode cX7_riskiest 98 = .ok (.iload 5, 2) := by decide +kernel
theorem dX7_riskiest_100 : decode cX7_riskiest 100 = .ok (.istore_n 3, 1) := by decide +kernel
theorem dX7_riskiest_101 : decode cX7_riskiest 101 = .ok (.iinc 4 1, 3) := by decide +kernel
theorem dX7_riskiest_104 : decode cX7_riskiest 104 = .ok (.goto (-96), 3) := by decide +kernel
theorem dX7_riskiest_107 : decode cX7_riskiest 107 = .ok (.iload_n 2, 1) := by decide +kernel
theorem dX7_riskiest_108 : decode cX7_riskiest 108 = .ok (.bipush (-9), 2) := by decide +kernel
theorem dX7_riskiest_110 : decode cX7_riskiest 110 = .ok (.if_icmp .ne 7, 3) := by decide +kernel
theorem dX7_riskiest_113 : decode cX7_riskiest 113 = .ok (.iconst 0, 1) := by decide +kernel
theorem dX7_riskiest_114 : decode cX7_riskiest 114 = .ok (.goto 4, 3) := by decide +kernel
theorem dX7_riskiest_117 : decode cX7_riskiest 117 = .ok (.iload_n 2, 1) := by decide +kernel
theorem dX7_riskiest_118 : decode cX7_riskiest 118 = .ok (.ireturn, 1) := by decide +kernel
