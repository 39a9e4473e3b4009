theorem dX0_init_0 : decode cX0_init 0 = .ok (.aload_n 0, 1) := by decide +kernel
theorem dX0_init_1 : decode cX0_init 1 = .ok (.invokespecial 3, 3) := by decide +kernel
theorem dX0_init_4 : decode cX0_init 4 = .ok (.aload_n 0, 1) := by decide +kernel
theorem dX0_init_5 : decode cX0_init 5 = .ok (.bipush 40, 2) := by decide +kernel
theorem dX0_init_7 : decode cX0_init 7 = .ok (.newarray .int, 2) := by decide +kernel
theorem dX0_init_9 : decode cX0_init 9 = .ok (.putfield 9, 3) := by decide +kernel
theorem dX0_init_12 : decode cX0_init 12 = .ok (.aload_n 0, 1) := by decide +kernel
theorem dX0_init_13 : decode cX0_init 13 = .ok (.bipush 40, 2) := by decide +kernel
theorem dX0_init_15 : decode cX0_init 15 = .ok (.newarray .int, 2) := by decide +kernel
theorem dX0_init_17 : decode cX0_init 17 = .ok (.putfield 15, 3) := by decide +kernel
theorem dX0_init_20 : decode cX0_init 20 = .ok (.aload_n 0, 1) := by decide +kernel
theorem dX0_init_21 : decode cX0_init 21 = .ok (.bipush 40, 2) := by decide +kernel
theorem dX0_init_23 : decode cX0_init 23 = .ok (.newarray .int, 2) := by decide +kernel
theorem dX0_init_25 : decode cX0_init 25 = .ok (.putfield 18, 3) := by decide +kernel
theorem dX0_init_28 : decode cX0_init 28 = .ok (.aload_n 0, 1) := by decide +kernel
theorem dX0_init_29 : decode cX0_init 29 = .ok (.bipush 40, 2) := by decide +kernel
theorem dX0_init_31 : decode cX0_init 31 = .ok (.newarray .int, 2) := by decide +kernel
theorem dX0_init_33 : decode cX0_init 33 = .ok (.putfield 21, 3) := by decide +kernel
theorem dX0_init_36 : decode cX0_init 36 = .ok (.return_, 1) := by decide +kernel
theorem dX0_makesKey_0 : decode cX0_makesKey 0 = .ok (.iload_n 0, 1) := by decide +kernel
theorem dX0_makesKey_1 : decode cX0_makesKey 1 = .ok (.iconst 1, 1) := by decide +kernel
theorem dX0_makesKey_2 : decode cX0_makesKey 2 = .ok (.if_icmp .eq 8, 3) := by decide +kernel
theorem dX0_makesKey_5 : decode cX0_makesKey 5 = .ok (.iload_n 0, 1) := by decide +kernel
theorem dX0_makesKey_6 : decode cX0_makesKey 6 = .ok (.iconst 2, 1) := by decide +kernel
theorem dX0_makesKey_7 : decode cX0_makesKey 7 = .ok (.if_icmp .ne 7, 3) := by decide +kernel
theorem dX0_makesKey_10 : decode cX0_makesKey 10 = .ok (.iconst 1, 1) := by decide +kernel
theorem dX0_makesKey_11 : decode cX0_makesKey 11 = .ok (.goto 4, 3) := by decide +kernel
theorem dX0_makesKey_14 : decode cX0_makesKey 14 = .ok (.iconst 0, 1) := by decide +kernel
theorem dX0_makesKey_15 : decode cX0_makesKey 15 = .ok (.ireturn, 1) := by decide +kernel
theorem dX0_isOfKind_0 : decode cX0_isOfKind 0 = .ok (.iload_n 0, 1) := by decide +kernel
theorem dX0_isOfKind_1 : decode cX0_isOfKind 1 = .ok (.iload_n 1, 1) := by decide +kernel
theorem dX0_isOfKind_2 : decode cX0_isOfKind 2 = .ok (.if_icmp .eq 23, 3) := by decide +kernel
theorem dX0_isOfKind_5 : decode cX0_isOfKind 5 = .ok (.iload_n 0, 1) := by decide +kernel
theorem dX0_isOfKind_6 : decode cX0_isOfKind 6 = .ok (.iconst 2, 1) := by decide +kernel
theorem dX0_isOfKind_7 : decode cX0_isOfKind 7 = .ok (.if_icmp .ne 8, 3) := by decide +kernel
theorem dX0_isOfKind_10 : decode cX0_isOfKind 10 = .ok (.iload_n 1, 1) := by decide +kernel
theorem dX0_isOfKind_11 : decode cX0_isOfKind 11 = .ok (.iconst 1, 1) := by decide +kernel
theorem dX0_isOfKind_12 : decode cX0_isOfKind 12 = .ok (.if_icmp .eq 13, 3) := by decide +kernel
theorem dX0_isOfKind_15 : decode cX0_isOfKind 15 = .ok (.iload_n 0, 1) := by decide +kernel
theorem dX0_isOfKind_16 : decode cX0_isOfKind 16 = .ok (.iconst 5, 1) := by decide +kernel
theorem dX0_isOfKind_17 : decode cX0_isOfKind 17 = .ok (.if_icmp .ne 12, 3) := by decide +kernel
theorem dX0_isOfKind_20 : decode cX0_isOfKind 20 = .ok (.iload_n 1, 1) := by decide +kernel
theorem dX0_isOfKind_21 : decode cX0_isOfKind 21 = .ok (.iconst 4, 1) := by decide +kernel
theorem dX0_isOfKind_22 : decode cX0_isOfKind 22 = .ok (.if_icmp .ne 7, 3) := by decide +kernel
theorem dX0_isOfKind_25 : decode cX0_isOfKind 25 = .ok (.iconst 1, 1) := by decide +kernel
theorem dX0_isOfKind_26 : decode cX0_isOfKind 26 = .ok (.goto 4, 3) := by decide +kernel
theorem dX0_isOfKind_29 : decode cX0_isOfKind 29 = .ok (.iconst 0, 1) := by decide +kernel
theorem dX0_isOfKind_30 : decode cX0_isOfKind 30 = .ok (.ireturn, 1) := by decide +kernel
theorem dX0_knows_0 : decode cX0_knows 0 = .ok (.iload_n 1, 1) := by decide +kernel
theorem dX0_knows_1 : decode cX0_knows 1 = .ok (.ifCond .lt 15, 3) := by decide +kernel
theorem dX0_knows_4 : decode cX0_knows 4 = .ok (.iload_n 1, 1) := by decide +kernel
theorem dX0_knows_5 : decode cX0_knows 5 = .ok (.aload_n 0, 1) := by decide +kernel
theorem dX0_knows_6 : decode cX0_knows 6 = .ok (.getfield 24, 3) := by decide +kernel
theorem dX0_knows_9 : decode cX0_knows 9 = .ok (.if_icmp .ge 7, 3) := by decide +kernel
theorem dX0_knows_12 : decode cX0_knows 12 = .ok (.iconst 1, 1) := by decide +kernel
theorem dX0_knows_13 : decode cX0_knows 13 = .ok (.goto 4, 3) := by decide +kernel
theorem dX0_knows_16 : decode cX0_knows 16 = .ok (.iconst 0, 1) := by decide +kernel
theorem dX0_knows_17 : decode cX0_knows 17 = .ok (.ireturn, 1) := by decide +kernel
theorem dX0_cutTo_0 : decode cX0_cutTo 0 = .ok (.iload_n 1, 1) := by decide +kernel
theorem dX0_cutTo_1 : decode cX0_cutTo 1 = .ok (.ifCond .lt 16, 3) := by decide +kernel
theorem dX0_cutTo_4 : decode cX0_cutTo 4 = .ok (.iload_n 1, 1) := by decide +kernel
theorem dX0_cutTo_5 : decode cX0_cutTo 5 = .ok (.aload_n 0, 1) := by decide +kernel
theorem dX0_cutTo_6 : decode cX0_cutTo 6 = .ok (.getfield 24, 3) := by decide +kernel
theorem dX0_cutTo_9 : decode cX0_cutTo 9 = .ok (.if_icmp .ge 8, 3) := by decide +kernel
theorem dX0_cutTo_12 : decode cX0_cutTo 12 = .ok (.aload_n 0, 1) := by decide +kernel
theorem dX0_cutTo_13 : decode cX0_cutTo 13 = .ok (.iload_n 1, 1) := by decide +kernel
theorem dX0_cutTo_14 : decode cX0_cutTo 14 = .ok (.putfield 24, 3) := by decide +kernel
theorem dX0_cutTo_17 : decode cX0_cutTo 17 = .ok (.return_, 1) := by decide +kernel
theorem dX0_add_0 : decode cX0_add 0 = .ok (.aload_n 0, 1) := by decide +kernel
theorem dX0_add_1 : decode cX0_add 1 = .ok (.getfield 24, 3) := by decide +kernel
theorem dX0_add_4 : decode cX0_add 4 = .ok (.bipush 40, 2) := by decide +kernel
theorem dX0_add_6 : decode cX0_add 6 = .ok (.if_icmp .ge 54, 3) := by decide +kernel
theorem dX0_add_9 : decode cX0_add 9 = .ok (.aload_n 0, 1) := by decide +kernel
theorem dX0_add_10 : decode cX0_add 10 = .ok (.getfield 9, 3) := by decide +kernel
theorem dX0_add_13 : decode cX0_add 13 = .ok (.aload_n 0, 1) := by decide +kernel
theorem dX0_add_14 : decode cX0_add 14 = .ok (.getfield 24, 3) := by decide +kernel
theorem dX0_add_17 : decode cX0_add 17 = .ok (.iload_n 1, 1) := by decide +kernel
theorem dX0_add_18 : decode cX0_add 18 = .ok (.iastore, 1) := by decide +kernel
theorem dX0_add_19 : decode cX0_add 19 = .ok (.aload_n 0, 1) := by decide +kernel
theorem dX0_add_20 : decode cX0_add 20 = .ok (.getfield 15, 3) := by decide +kernel
theorem dX0_add_23 : decode cX0_add 23 = .ok (.aload_n 0, 1) := by decide +kernel
theorem dX0_add_24 : decode cX0_add 24 = .ok (.getfield 24, 3) := by decide +kernel
theorem dX0_add_27 : decode cX0_add 27 = .ok (.iload_n 2, 1) := by decide +kernel
theorem dX0_add_28 : decode cX0_add 28 = .ok (.iastore, 1) := by decide +kernel
theorem dX0_add_29 : decode cX0_add 29 = .ok (.aload_n 0, 1) := by decide +kernel
theorem dX0_add_30 : decode cX0_add 30 = .ok (.getfield 18, 3) := by decide +kernel
theorem dX0_add_33 : decode cX0_add 33 = .ok (.aload_n 0, 1) := by decide +kernel
theorem dX0_add_34 : decode cX0_add 34 = .ok (.getfield 24, 3) := by decide +kernel
theorem dX0_add_37 : decode cX0_add 37 = .ok (.iload_n 3, 1) := by decide +kernel
theorem dX0_add_38 : decode cX0_add 38 = .ok (.iastore, 1) := by decide +kernel
theorem dX0_add_39 : decode cX0_add 39 = .ok (.aload_n 0, 1) := by decide +kernel
theorem dX0_add_40 : decode cX0_add 40 = .ok (.getfield 21, 3) := by decide +kernel
theorem dX0_add_43 : decode cX0_add 43 = .ok (.aload_n 0, 1) := by decide +kernel
theorem dX0_add_44 : decode cX0_add 44 = .ok (.getfield 24, 3) := by decide +kernel
theorem dX0_add_47 : decode cX0_add 47 = .ok (.iload 4, 2) := by decide +kernel
theorem dX0_add_49 : decode cX0_add 49 = .ok (.iastore, 1) := by decide +kernel
theorem dX0_add_50 : decode cX0_add 50 = .ok (.aload_n 0, 1) := by decide +kernel
theorem dX0_add_51 : decode cX0_add 51 = .ok (.dup, 1) := by decide +kernel
theorem dX0_add_52 : decode cX0_add 52 = .ok (.getfield 24, 3) := by decide +kernel
theorem dX0_add_55 : decode cX0_add 55 = .ok (.iconst 1, 1) := by decide +kernel
theorem dX0_add_56 : decode cX0_add 56 = .ok (.iadd, 1) := by decide +kernel
theorem dX0_add_57 : decode cX0_add 57 = .ok (.putfield 24, 3) := by decide +kernel
theorem dX0_add_60 : decode cX0_add 60 = .ok (.return_, 1) := by decide +kernel
theorem dX0_addAll_0 : decode cX0_addAll 0 = .ok (.iconst 0, 1) := by decide +kernel
theorem dX0_addAll_1 : decode cX0_addAll 1 = .ok (.istore_n 2, 1) := by decide +kernel
theorem dX0_addAll_2 : decode cX0_addAll 2 = .ok (.iload_n 2, 1) := by decide +kernel
theorem dX0_addAll_3 : decode cX0_addAll 3 = .ok (.aload_n 1, 1) := by decide +kernel
theorem dX0_addAll_4 : decode cX0_addAll 4 = .ok (.getfield 24, 3) := by decide +kernel
theorem dX0_addAll_7 : decode cX0_addAll 7 = .ok (.if_icmp .ge 37, 3) := by decide +kernel
theorem dX0_addAll_10 : decode cX0_addAll 10 = .ok (.aload_n 0, 1) := by decide +kernel
theorem dX0_addAll_11 : decode cX0_addAll 11 = .ok (.aload_n 1, 1) := by decide +kernel
theorem dX0_addAll_12 : decode cX0_addAll 12 = .ok (.getfield 9, 3) := by decide +kernel
theorem dX0_addAll_15 : decode cX0_addAll 15 = .ok (.iload_n 2, 1) := by decide +kernel
theorem dX0_addAll_16 : decode cX0_addAll 16 = .ok (.iaload, 1) := by decide +kernel
theorem dX0_addAll_17 : decode cX0_addAll 17 = .ok (.aload_n 1, 1) := by decide +kernel
theorem dX0_addAll_18 : decode cX0_addAll 18 = .ok (.getfield 15, 3) := by decide +kernel
theorem dX0_addAll_21 : decode cX0_addAll 21 = .ok (.iload_n 2, 1) := by decide +kernel
theorem dX0_addAll_22 : decode cX0_addAll 22 = .ok (.iaload, 1) := by decide +kernel
theorem dX0_addAll_23 : decode cX0_addAll 23 = .ok (.aload_n 1, 1) := by decide +kernel
theorem dX0_addAll_24 : decode cX0_addAll 24 = .ok (.getfield 18, 3) := by decide +kernel
theorem dX0_addAll_27 : decode cX0_addAll 27 = .ok (.iload_n 2, 1) := by decide +kernel
theorem dX0_addAll_28 : decode cX0_addAll 28 = .ok (.iaload, 1) := by decide +kernel
theorem dX0_addAll_29 : decode cX0_addAll 29 = .ok (.aload_n 1, 1) := by decide +kernel
theorem dX0_addAll_30 : decode cX0_addAll 30 = .ok (.getfield 21, 3) := by decide +kernel
theorem dX0_addAll_33 : decode cX0_addAll 33 = .ok (.iload_n 2, 1) := by decide +kernel
theorem dX0_addAll_34 : decode cX0_addAll 34 = .ok (.iaload, 1) := by decide +kernel
theorem dX0_addAll_35 : decode cX0_addAll 35 = .ok (.invokevirtual 28, 3) := by decide +kernel
theorem dX0_addAll_38 : decode cX0_addAll 38 = .ok (.iinc 2 1, 3) := by decide +kernel
theorem dX0_addAll_41 : decode cX0_addAll 41 = .ok (.goto (-39), 3) := by decide +kernel
theorem dX0_addAll_44 : decode cX0_addAll 44 = .ok (.return_, 1) := by decide +kernel
theorem dX0_detail_0 : decode cX0_detail 0 = .ok (.aload_n 0, 1) := by decide +kernel
theorem dX0_detail_1 : decode cX0_detail 1 = .ok (.iload_n 1, 1) := by decide +kernel
theorem dX0_detail_2 : decode cX0_detail 2 = .ok (.invokevirtual 32, 3) := by decide +kernel
theorem dX0_detail_5 : decode cX0_detail 5 = .ok (.ifCond .ne 5, 3) := by decide +kernel
theorem dX0_detail_8 : decode cX0_detail 8 = .ok (.iconst 0, 1) := by decide +kernel
theorem dX0_detail_9 : decode cX0_detail 9 = .ok (.ireturn, 1) := by decide +kernel
theorem dX0_detail_10 : decode cX0_detail 10 = .ok (.iload_n 2, 1) := by decide +kernel
theorem dX0_detail_11 : decode cX0_detail 11 = .ok (.tableswitch 46 0 2 #[25, 32, 39], 25) := by decide +kernel
theorem dX0_detail_36 : decode cX0_detail 36 = .ok (.aload_n 0, 1) := by decide +kernel
theorem dX0_detail_37 : decode cX0_detail 37 = .ok (.getfield 9, 3) := by decide +kernel
theorem dX0_detail_40 : decode cX0_detail 40 = .ok (.iload_n 1, 1) := by decide +kernel
theorem dX0_detail_41 : decode cX0_detail 41 = .ok (.iaload, 1) := by decide +kernel
theorem dX0_detail_42 : decode cX0_detail 42 = .ok (.ireturn, 1) := by decide +kernel
theorem dX0_detail_43 : decode cX0_detail 43 = .ok (.aload_n 0, 1) := by decide +kernel
theorem dX0_detail_44 : decode cX0_detail 44 = .ok (.getfield 15, 3) := by decide +kernel
theorem dX0_detail_47 : decode cX0_detail 47 = .ok (.iload_n 1, 1) := by decide +kernel
theorem dX0_detail_48 : decode cX0_detail 48 = .ok (.iaload, 1) := by decide +kernel
theorem dX0_detail_49 : decode cX0_detail 49 = .ok (.ireturn, 1) := by decide +kernel
theorem dX0_detail_50 : decode cX0_detail 50 = .ok (.aload_n 0, 1) := by decide +kernel
theorem dX0_detail_51 : decode cX0_detail 51 = .ok (.getfield 18, 3) := by decide +kernel
theorem dX0_detail_54 : decode cX0_detail 54 = .ok (.iload_n 1, 1) := by decide +kernel
theorem dX0_detail_55 : decode cX0_detail 55 = .ok (.iaload, 1) := by decide +kernel
theorem dX0_detail_56 : decode cX0_detail 56 = .ok (.ireturn, 1) := by decide +kernel
theorem dX0_detail_57 : decode cX0_detail 57 = .ok (.aload_n 0, 1) := by decide +kernel
theorem dX0_detail_58 : decode cX0_detail 58 = .ok (.getfield 21, 3) := by decide +kernel
theorem dX0_detail_61 : decode cX0_detail 61 = .ok (.iload_n 1, 1) := by decide +kernel
theorem dX0_detail_62 : decode cX0_detail 62 = .ok (.iaload, 1) := by decide +kernel
theorem dX0_detail_63 : decode cX0_detail 63 = .ok (.ireturn, 1) := by decide +kernel
theorem dX0_keysBefore_0 : decode cX0_keysBefore 0 = .ok (.iconst 0, 1) := by decide +kernel
theorem dX0_keysBefore_1 : decode cX0_keysBefore 1 = .ok (.istore_n 2, 1) := by decide +kernel
theorem dX0_keysBefore_2 : decode cX0_keysBefore 2 = .ok (.iconst 0, 1) := by decide +kernel
theorem dX0_keysBefore_3 : decode cX0_keysBefore 3 = .ok (.istore_n 3, 1) := by decide +kernel
theorem dX0_keysBefore_4 : decode cX0_keysBefore 4 = .ok (.iload_n 3, 1) := by decide +kernel
theorem dX0_keysBefore_5 : decode cX0_keysBefore 5 = .ok (.iload_n 1, 1) := by decide +kernel
theorem dX0_keysBefore_6 : decode cX0_keysBefore 6 = .ok (.if_icmp .ge 37, 3) := by decide +kernel
theorem dX0_keysBefore_9 : decode cX0_keysBefore 9 = .ok (.iload_n 3, 1) := by decide +kernel
theorem dX0_keysBefore_10 : decode cX0_keysBefore 10 = .ok (.aload_n 0, 1) := by decide +kernel
theorem dX0_keysBefore_11 : decode cX0_keysBefore 11 = .ok (.getfield 24, 3) := by decide +kernel
theorem dX0_keysBefore_14 : decode cX0_keysBefore 14 = .ok (.if_icmp .ge 29, 3) := by decide +kernel
theorem dX0_keysBefore_17 : decode cX0_keysBefore 17 = .ok (.iload_n 2, 1) := by decide +kernel
theorem dX0_keysBefore_18 : decode cX0_keysBefore 18 = .ok (.aload_n 0, 1) := by decide +kernel
theorem dX0_keysBefore_19 : decode cX0_keysBefore 19 = .ok (.getfield 9, 3) := by decide +kernel
theorem dX0_keysBefore_22 : decode cX0_keysBefore 22 = .ok (.iload_n 3, 1) := by decide +kernel
theorem dX0_keysBefore_23 : decode cX0_keysBefore 23 = .ok (.iaload, 1) := by decide +kernel
theorem dX0_keysBefore_24 : decode cX0_keysBefore 24 = .ok (.invokestatic 36, 3) := by decide +kernel
theorem dX0_keysBefore_27 : decode cX0_keysBefore 27 = .ok (.ifCond .eq 7, 3) := by decide +kernel
theorem dX0_keysBefore_30 : decode cX0_keysBefore 30 = .ok (.iconst 1, 1) := by decide +kernel
theorem dX0_keysBefore_31 : decode cX0_keysBefore 31 = .ok (.goto 4, 3) := by decide +kernel
theorem dX0_keysBefore_34 : decode cX0_keysBefore 34 = .ok (.iconst 0, 1) := by decide +kernel
theorem dX0_keysBefore_35 : decode cX0_keysBefore 35 = .ok (.iadd, 1) := by decide +kernel
theorem dX0_keysBefore_36 : decode cX0_keysBefore 36 = .ok (.istore_n 2, 1) := by decide +kernel
theorem dX0_keysBefore_37 : decode cX0_keysBefore 37 = .ok (.iinc 3 1, 3) := by decide +kernel
theorem dX0_keysBefore_40 : decode cX0_keysBefore 40 = .ok (.goto (-36), 3) := by decide +kernel
theorem dX0_keysBefore_43 : decode cX0_keysBefore 43 = .ok (.iload_n 2, 1) := by decide +kernel
theorem dX0_keysBefore_44 : decode cX0_keysBefore 44 = .ok (.ireturn, 1) := by decide +kernel
theorem dX1_init_0 : decode cX1_init 0 = .ok (.aload_n 0, 1) := by decide +kernel
theorem dX1_init_1 : decode cX1_init 1 = .ok (.invokespecial 3, 3) := by decide +kernel
theorem dX1_init_4 : decode cX1_init 4 = .ok (.aload_n 0, 1) := by decide +kernel
theorem dX1_init_5 : decode cX1_init 5 = .ok (.bipush 6, 2) := by decide +kernel
theorem dX1_init_7 : decode cX1_init 7 = .ok (.newarray .int, 2) := by decide +kernel
theorem dX1_init_9 : decode cX1_init 9 = .ok (.putfield 9, 3) := by decide +kernel
theorem dX1_init_12 : decode cX1_init 12 = .ok (.aload_n 0, 1) := by decide +kernel
theorem dX1_init_13 : decode cX1_init 13 = .ok (.bipush 6, 2) := by decide +kernel
theorem dX1_init_15 : decode cX1_init 15 = .ok (.newarray .int, 2) := by decide +kernel
theorem dX1_init_17 : decode cX1_init 17 = .ok (.putfield 15, 3) := by decide +kernel
theorem dX1_init_20 : decode cX1_init 20 = .ok (.aload_n 0, 1) := by decide +kernel
theorem dX1_init_21 : decode cX1_init 21 = .ok (.bipush 6, 2) := by decide +kernel
theorem dX1_init_23 : decode cX1_init 23 = .ok (.newarray .int, 2) := by decide +kernel
theorem dX1_init_25 : decode cX1_init 25 = .ok (.putfield 18, 3) := by decide +kernel
theorem dX1_init_28 : decode cX1_init 28 = .ok (.aload_n 0, 1) := by decide +kernel
theorem dX1_init_29 : decode cX1_init 29 = .ok (.bipush 6, 2) := by decide +kernel
theorem dX1_init_31 : decode cX1_init 31 = .ok (.newarray .int, 2) := by decide +kernel
theorem dX1_init_33 : decode cX1_init 33 = .ok (.putfield 21, 3) := by decide +kernel
theorem dX1_init_36 : decode cX1_init 36 = .ok (.aload_n 0, 1) := by decide +kernel
theorem dX1_init_37 : decode cX1_init 37 = .ok (.bipush 6, 2) := by decide +kernel
theorem dX1_init_39 : decode cX1_init 39 = .ok (.newarray .int, 2) := by decide +kernel
theorem dX1_init_41 : decode cX1_init 41 = .ok (.putfield 24, 3) := by decide +kernel
theorem dX1_init_44 : decode cX1_init 44 = .ok (.aload_n 0, 1) := by decide +kernel
theorem dX1_init_45 : decode cX1_init 45 = .ok (.bipush 6, 2) := by decide +kernel
theorem dX1_init_47 : decode cX1_init 47 = .ok (.newarray .int, 2) := by decide +kernel
theorem dX1_init_49 : decode cX1_init 49 = .ok (.putfield 27, 3) := by decide +kernel
theorem dX1_init_52 : decode cX1_init 52 = .ok (.aload_n 0, 1) := by decide +kernel
theorem dX1_init_53 : decode cX1_init 53 = .ok (.bipush 6, 2) := by decide +kernel
theorem dX1_init_55 : decode cX1_init 55 = .ok (.newarray .int, 2) := by decide +kernel
theorem dX1_init_57 : decode cX1_init 57 = .ok (.putfield 30, 3) := by decide +kernel
theorem dX1_init_60 : decode cX1_init 60 = .ok (.return_, 1) := by decide +kernel
theorem dX1_prepare_0 : decode cX1_prepare 0 = .ok (.iconst 0, 1) := by decide +kernel
theorem dX1_prepare_1 : decode cX1_prepare 1 = .ok (.istore 5, 2) := by decide +kernel
theorem dX1_prepare_3 : decode cX1_prepare 3 = .ok (.iconst 0, 1) := by decide +kernel
theorem dX1_prepare_4 : decode cX1_prepare 4 = .ok (.istore 6, 2) := by decide +kernel
theorem dX1_prepare_6 : decode cX1_prepare 6 = .ok (.iload 6, 2) := by decide +kernel
theorem dX1_prepare_8 : decode cX1_prepare 8 = .ok (.bipush 6, 2) := by decide +kernel
theorem dX1_prepare_10 : decode cX1_prepare 10 = .ok (.if_icmp .ge 50, 3) := by decide +kernel
theorem dX1_prepare_13 : decode cX1_prepare 13 = .ok (.aload_n 0, 1) := by decide +kernel
theorem dX1_prepare_14 : decode cX1_prepare 14 = .ok (.getfield 9, 3) := by decide +kernel
theorem dX1_prepare_17 : decode cX1_prepare 17 = .ok (.iload 6, 2) := by decide +kernel
theorem dX1_prepare_19 : decode cX1_prepare 19 = .ok (.iconst 0, 1) := by decide +kernel
theorem dX1_prepare_20 : decode cX1_prepare 20 = .ok (.iastore, 1) := by decide +kernel
theorem dX1_prepare_21 : decode cX1_prepare 21 = .ok (.aload_n 0, 1) := by decide +kernel
theorem dX1_prepare_22 : decode cX1_prepare 22 = .ok (.getfield 15, 3) := by decide +kernel
theorem dX1_prepare_25 : decode cX1_prepare 25 = .ok (.iload 6, 2) := by decide +kernel
theorem dX1_prepare_27 : decode cX1_prepare 27 = .ok (.iconst 0, 1) := by decide +kernel
theorem dX1_prepare_28 : decode cX1_prepare 28 = .ok (.iastore, 1) := by decide +kernel
theorem dX1_prepare_29 : decode cX1_prepare 29 = .ok (.aload_n 0, 1) := by decide +kernel
theorem dX1_prepare_30 : decode cX1_prepare 30 = .ok (.getfield 24, 3) := by decide +kernel
theorem dX1_prepare_33 : decode cX1_prepare 33 = .ok (.iload 6, 2) := by decide +kernel
theorem dX1_prepare_35 : decode cX1_prepare 35 = .ok (.iconst 0, 1) := by decide +kernel
theorem dX1_prepare_36 : decode cX1_prepare 36 = .ok (.iastore, 1) := by decide +kernel
theorem dX1_prepare_37 : decode cX1_prepare 37 = .ok (.aload_n 0, 1) := by decide +kernel
theorem dX1_prepare_38 : decode cX1_prepare 38 = .ok (.getfield 30, 3) := by decide +kernel
theorem dX1_prepare_41 : decode cX1_prepare 41 = .ok (.iload 6, 2) := by decide +kernel
theorem dX1_prepare_43 : decode cX1_prepare 43 = .ok (.iconst 0, 1) := by decide +kernel
theorem dX1_prepare_44 : decode cX1_prepare 44 = .ok (.iastore, 1) := by decide +kernel
theorem dX1_prepare_45 : decode cX1_prepare 45 = .ok (.aload_n 0, 1) := by decide +kernel
theorem dX1_prepare_46 : decode cX1_prepare 46 = .ok (.getfield 27, 3) := by decide +kernel
theorem dX1_prepare_49 : decode cX1_prepare 49 = .ok (.iload 6, 2) := by decide +kernel
theorem dX1_prepare_51 : decode cX1_prepare 51 = .ok (.iload 4, 2) := by decide +kernel
theorem dX1_prepare_53 : decode cX1_prepare 53 = .ok (.iastore, 1) := by decide +kernel
theorem dX1_prepare_54 : decode cX1_prepare 54 = .ok (.iinc 6 1, 3) := by decide +kernel
theorem dX1_prepare_57 : decode cX1_prepare 57 = .ok (.goto (-51), 3) := by decide +kernel
theorem dX1_prepare_60 : decode cX1_prepare 60 = .ok (.iconst 0, 1) := by decide +kernel
theorem dX1_prepare_61 : decode cX1_prepare 61 = .ok (.istore 6, 2) := by decide +kernel
theorem dX1_prepare_63 : decode cX1_prepare 63 = .ok (.iload 6, 2) := by decide +kernel
theorem dX1_prepare_65 : decode cX1_prepare 65 = .ok (.aload_n 1, 1) := by decide +kernel
theorem dX1_prepare_66 : decode cX1_prepare 66 = .ok (.getfield 33, 3) := by decide +kernel
theorem dX1_prepare_69 : decode cX1_prepare 69 = .ok (.if_icmp .ge 61, 3) := by decide +kernel
theorem dX1_prepare_72 : decode cX1_prepare 72 = .ok (.aload_n 1, 1) := by decide +kernel
theorem dX1_prepare_73 : decode cX1_prepare 73 = .ok (.iload 6, 2) := by decide +kernel
theorem dX1_prepare_75 : decode cX1_prepare 75 = .ok (.invokevirtual 39, 3) := by decide +kernel
theorem dX1_prepare_78 : decode cX1_prepare 78 = .ok (.istore 7, 2) := by decide +kernel
theorem dX1_prepare_80 : decode cX1_prepare 80 = .ok (.iload 7, 2) := by decide +kernel
theorem dX1_prepare_82 : decode cX1_prepare 82 = .ok (.invokestatic 43, 3) := by decide +kernel
theorem dX1_prepare_85 : decode cX1_prepare 85 = .ok (.ifCond .eq 39, 3) := by decide +kernel
theorem dX1_prepare_88 : decode cX1_prepare 88 = .ok (.iload 5, 2) := by decide +kernel
theorem dX1_prepare_90 : decode cX1_prepare 90 = .ok (.iconst 1, 1) := by decide +kernel
theorem dX1_prepare_91 : decode cX1_prepare 91 = .ok (.iload 7, 2) := by decide +kernel
theorem dX1_prepare_93 : decode cX1_prepare 93 = .ok (.ishl, 1) := by decide +kernel
theorem dX1_prepare_94 : decode cX1_prepare 94 = .ok (.ior, 1) := by decide +kernel
theorem dX1_prepare_95 : decode cX1_prepare 95 = .ok (.istore 5, 2) := by decide +kernel
theorem dX1_prepare_97 : decode cX1_prepare 97 = .ok (.aload_n 0, 1) := by decide +kernel
theorem dX1_prepare_98 : decode cX1_prepare 98 = .ok (.getfield 15, 3) := by decide +kernel
theorem dX1_prepare_101 : decode cX1_prepare 101 = .ok (.iload 7, 2) := by decide +kernel
theorem dX1_prepare_103 : decode cX1_prepare 103 = .ok (.dup2, 1) := by decide +kernel
theorem dX1_prepare_104 : decode cX1_prepare 104 = .ok (.iaload, 1) := by decide +kernel
theorem dX1_prepare_105 : decode cX1_prepare 105 = .ok (.aload_n 2, 1) := by decide +kernel
theorem dX1_prepare_106 : decode cX1_prepare 106 = .ok (.iconst 0, 1) := by decide +kernel
theorem dX1_prepare_107 : decode cX1_prepare 107 = .ok (.iload 6, 2) := by decide +kernel
theorem dX1_prepare_109 : decode cX1_prepare 109 = .ok (.invokevirtual 47, 3) := by decide +kernel
theorem dX1_prepare_112 : decode cX1_prepare 112 = .ok (.ior, 1) := by decide +kernel
theorem dX1_prepare_113 : decode cX1_prepare 113 = .ok (.iastore, 1) := by decide +kernel
theorem dX1_prepare_114 : decode cX1_prepare 114 = .ok (.aload_n 0, 1) := by decide +kernel
theorem dX1_prepare_115 : decode cX1_prepare 115 = .ok (.aload_n 1, 1) := by decide +kernel
theorem dX1_prepare_116 : decode cX1_prepare 116 = .ok (.aload_n 2, 1) := by decide +kernel
theorem dX1_prepare_117 : decode cX1_prepare 117 = .ok (.iload 6, 2) := by decide +kernel
theorem dX1_prepare_119 : decode cX1_prepare 119 = .ok (.iload 7, 2) := by decide +kernel
theorem dX1_prepare_121 : decode cX1_prepare 121 = .ok (.invokevirtual 53, 3) := by decide +kernel
theorem dX1_prepare_124 : decode cX1_prepare 124 = .ok (.iinc 6 1, 3) := by decide +kernel
theorem dX1_prepare_127 : decode cX1_prepare 127 = .ok (.goto (-64), 3) := by decide +kernel
theorem dX1_prepare_130 : decode cX1_prepare 130 = .ok (.iconst 0, 1) := by decide +kernel
theorem dX1_prepare_131 : decode cX1_prepare 131 = .ok (.istore 6, 2) := by decide +kernel
theorem dX1_prepare_133 : decode cX1_prepare 133 = .ok (.iload 6, 2) := by decide +kernel
theorem dX1_prepare_135 : decode cX1_prepare 135 = .ok (.bipush 6, 2) := by decide +kernel
theorem dX1_prepare_137 : decode cX1_prepare 137 = .ok (.if_icmp .ge 18, 3) := by decide +kernel
theorem dX1_prepare_140 : decode cX1_prepare 140 = .ok (.aload_n 0, 1) := by decide +kernel
theorem dX1_prepare_141 : decode cX1_prepare 141 = .ok (.iload 6, 2) := by decide +kernel
theorem dX1_prepare_143 : decode cX1_prepare 143 = .ok (.iload 5, 2) := by decide +kernel
theorem dX1_prepare_145 : decode cX1_prepare 145 = .ok (.iload_n 3, 1) := by decide +kernel
theorem dX1_prepare_146 : decode cX1_prepare 146 = .ok (.invokevirtual 57, 3) := by decide +kernel
theorem dX1_prepare_149 : decode cX1_prepare 149 = .ok (.iinc 6 1, 3) := by decide +kernel
theorem dX1_prepare_152 : decode cX1_prepare 152 = .ok (.goto (-19), 3) := by decide +kernel
theorem dX1_prepare_155 : decode cX1_prepare 155 = .ok (.return_, 1) := by decide +kernel
theorem dX1_isPlace_0 : decode cX1_isPlace 0 = .ok (.iload_n 0, 1) := by decide +kernel
theorem dX1_isPlace_1 : decode cX1_isPlace 1 = .ok (.ifCond .lt 13, 3) := by decide +kernel
theorem dX1_isPlace_4 : decode cX1_isPlace 4 = .ok (.iload_n 0, 1) := by decide +kernel
theorem dX1_isPlace_5 : decode cX1_isPlace 5 = .ok (.bipush 6, 2) := by decide +kernel
theorem dX1_isPlace_7 : decode cX1_isPlace 7 = .ok (.if_icmp .ge 7, 3) := by decide +kernel
theorem dX1_isPlace_10 : decode cX1_isPlace 10 = .ok (.iconst 1, 1) := by decide +kernel
theorem dX1_isPlace_11 : decode cX1_isPlace 11 = .ok (.goto 4, 3) := by decide +kernel
theorem dX1_isPlace_14 : decode cX1_isPlace 14 = .ok (.iconst 0, 1) := by decide +kernel
theorem dX1_isPlace_15 : decode cX1_isPlace 15 = .ok (.ireturn, 1) := by decide +kernel
theorem dX1_findHostile_0 : decode cX1_findHostile 0 = .ok (.iconst 0, 1) := by decide +kernel
theorem dX1_findHostile_1 : decode cX1_findHostile 1 = .ok (.istore 5, 2) := by decide +kernel
theorem dX1_findHostile_3 : decode cX1_findHostile 3 = .ok (.iload 5, 2) := by decide +kernel
theorem dX1_findHostile_5 : decode cX1_findHostile 5 = .ok (.aload_n 1, 1) := by decide +kernel
theorem dX1_findHostile_6 : decode cX1_findHostile 6 = .ok (.getfield 33, 3) := by decide +kernel
theorem dX1_findHostile_9 : decode cX1_findHostile 9 = .ok (.if_icmp .ge 71, 3) := by decide +kernel
theorem dX1_findHostile_12 : decode cX1_findHostile 12 = .ok (.aload_n 1, 1) := by decide +kernel
theorem dX1_findHostile_13 : decode cX1_findHostile 13 = .ok (.iload 5, 2) := by decide +kernel
theorem dX1_findHostile_15 : decode cX1_findHostile 15 = .ok (.invokevirtual 39, 3) := by decide +kernel
theorem dX1_findHostile_18 : decode cX1_findHostile 18 = .ok (.istore 6, 2) := by decide +kernel
theorem dX1_findHostile_20 : decode cX1_findHostile 20 = .ok (.iload 4, 2) := by decide +kernel
theorem dX1_findHostile_22 : decode cX1_findHostile 22 = .ok (.invokestatic 43, 3) := by decide +kernel
theorem dX1_findHostile_25 : decode cX1_findHostile 25 = .ok (.ifCond .eq 49, 3) := by decide +kernel
theorem dX1_findHostile_28 : decode cX1_findHostile 28 = .ok (.iload 6, 2) := by decide +kernel
theorem dX1_findHostile_30 : decode cX1_findHostile 30 = .ok (.invokestatic 43, 3) := by decide +kernel
theorem dX1_findHostile_33 : decode cX1_findHostile 33 = .ok (.ifCond .eq 41, 3) := by decide +kernel
theorem dX1_findHostile_36 : decode cX1_findHostile 36 = .ok (.aload_n 2, 1) := by decide +kernel
theorem dX1_findHostile_37 : decode cX1_findHostile 37 = .ok (.iload_n 3, 1) := by decide +kernel
theorem dX1_findHostile_38 : decode cX1_findHostile 38 = .ok (.iload 5, 2) := by decide +kernel
theorem dX1_findHostile_40 : decode cX1_findHostile 40 = .ok (.invokevirtual 61, 3) := by decide +kernel
theorem dX1_findHostile_43 : decode cX1_findHostile 43 = .ok (.ifCond .ge 31, 3) := by decide +kernel
theorem dX1_findHostile_46 : decode cX1_findHostile 46 = .ok (.aload_n 0, 1) := by decide +kernel
theorem dX1_findHostile_47 : decode cX1_findHostile 47 = .ok (.getfield 9, 3) := by decide +kernel
theorem dX1_findHostile_50 : decode cX1_findHostile 50 = .ok (.iload 4, 2) := by decide +kernel
theorem dX1_findHostile_52 : decode cX1_findHostile 52 = .ok (.dup2, 1) := by decide +kernel
theorem dX1_findHostile_53 : decode cX1_findHostile 53 = .ok (.iaload, 1) := by decide +kernel
theorem dX1_findHostile_54 : decode cX1_findHostile 54 = .ok (.iconst 1, 1) := by decide +kernel
theorem dX1_findHostile_55 : decode cX1_findHostile 55 = .ok (.iload 6, 2) := by decide +kernel
theorem dX1_findHostile_57 : decode cX1_findHostile 57 = .ok (.ishl, 1) := by decide +kernel
theorem dX1_findHostile_58 : decode cX1_findHostile 58 = .ok (.ior, 1) := by decide +kernel
theorem dX1_findHostile_59 : decode cX1_findHostile 59 = .ok (.iastore, 1) := by decide +kernel
theorem dX1_findHostile_60 : decode cX1_findHostile 60 = .ok (.aload_n 0, 1) := by decide +kernel
theorem dX1_findHostile_61 : decode cX1_findHostile 61 = .ok (.getfield 9, 3) := by decide +kernel
theorem dX1_findHostile_64 : decode cX1_findHostile 64 = .ok (.iload 6, 2) := by decide +kernel
theorem dX1_findHostile_66 : decode cX1_findHostile 66 = .ok (.dup2, 1) := by decide +kernel
theorem dX1_findHostile_67 : decode cX1_findHostile 67 = .ok (.iaload, 1) := by decide +kernel
theorem dX1_findHostile_68 : decode cX1_findHostile 68 = .ok (.iconst 1, 1) := by decide +kernel
theorem dX1_findHostile_69 : decode cX1_findHostile 69 = .ok (.iload 4, 2) := by decide +kernel
theorem dX1_findHostile_71 : decode cX1_findHostile 71 = .ok (.ishl, 1) := by decide +kernel
theorem dX1_findHostile_72 : decode cX1_findHostile 72 = .ok (.ior, 1) := by decide +kernel
theorem dX1_findHostile_73 : decode cX1_findHostile 73 = .ok (.iastore, 1) := by decide +kernel
theorem dX1_findHostile_74 : decode cX1_findHostile 74 = .ok (.iinc 5 1, 3) := by decide +kernel
theorem dX1_findHostile_77 : decode cX1_findHostile 77 = .ok (.goto (-74), 3) := by decide +kernel
theorem dX1_findHostile_80 : decode cX1_findHostile 80 = .ok (.return_, 1) := by decide +kernel
theorem dX1_findNeed_0 : decode cX1_findNeed 0 = .ok (.iload_n 1, 1) := by decide +kernel
theorem dX1_findNeed_1 : decode cX1_findNeed 1 = .ok (.invokestatic 43, 3) := by decide +kernel
theorem dX1_findNeed_4 : decode cX1_findNeed 4 = .ok (.ifCond .ne 4, 3) := by decide +kernel
theorem dX1_findNeed_7 : decode cX1_findNeed 7 = .ok (.return_, 1) := by decide +kernel
theorem dX1_findNeed_8 : decode cX1_findNeed 8 = .ok (.aload_n 0, 1) := by decide +kernel
theorem dX1_findNeed_9 : decode cX1_findNeed 9 = .ok (.getfield 18, 3) := by decide +kernel
theorem dX1_findNeed_12 : decode cX1_findNeed 12 = .ok (.iload_n 1, 1) := by decide +kernel
theorem dX1_findNeed_13 : decode cX1_findNeed 13 = .ok (.iconst 0, 1) := by decide +kernel
theorem dX1_findNeed_14 : decode cX1_findNeed 14 = .ok (.iastore, 1) := by decide +kernel
theorem dX1_findNeed_15 : decode cX1_findNeed 15 = .ok (.aload_n 0, 1) := by decide +kernel
theorem dX1_findNeed_16 : decode cX1_findNeed 16 = .ok (.getfield 21, 3) := by decide +kernel
theorem dX1_findNeed_19 : decode cX1_findNeed 19 = .ok (.iload_n 1, 1) := by decide +kernel
theorem dX1_findNeed_20 : decode cX1_findNeed 20 = .ok (.iconst 0, 1) := by decide +kernel
theorem dX1_findNeed_21 : decode cX1_findNeed 21 = .ok (.iastore, 1) := by decide +kernel
theorem dX1_findNeed_22 : decode cX1_findNeed 22 = .ok (.iload_n 2, 1) := by decide +kernel
theorem dX1_findNeed_23 : decode cX1_findNeed 23 = .ok (.iload_n 1, 1) := by decide +kernel
theorem dX1_findNeed_24 : decode cX1_findNeed 24 = .ok (.invokestatic 64, 3) := by decide +kernel
theorem dX1_findNeed_27 : decode cX1_findNeed 27 = .ok (.ifCond .ne 4, 3) := by decide +kernel
theorem dX1_findNeed_30 : decode cX1_findNeed 30 = .ok (.return_, 1) := by decide +kernel
theorem dX1_findNeed_31 : decode cX1_findNeed 31 = .ok (.iload_n 2, 1) := by decide +kernel
theorem dX1_findNeed_32 : decode cX1_findNeed 32 = .ok (.aload_n 0, 1) := by decide +kernel
theorem dX1_findNeed_33 : decode cX1_findNeed 33 = .ok (.getfield 9, 3) := by decide +kernel
theorem dX1_findNeed_36 : decode cX1_findNeed 36 = .ok (.iload_n 1, 1) := by decide +kernel
theorem dX1_findNeed_37 : decode cX1_findNeed 37 = .ok (.iaload, 1) := by decide +kernel
theorem dX1_findNeed_38 : decode cX1_findNeed 38 = .ok (.iconst (-1), 1) := by decide +kernel
theorem dX1_findNeed_39 : decode cX1_findNeed 39 = .ok (.ixor, 1) := by decide +kernel
theorem dX1_findNeed_40 : decode cX1_findNeed 40 = .ok (.iand, 1) := by decide +kernel
theorem dX1_findNeed_41 : decode cX1_findNeed 41 = .ok (.iconst 1, 1) := by decide +kernel
theorem dX1_findNeed_42 : decode cX1_findNeed 42 = .ok (.iload_n 1, 1) := by decide +kernel
theorem dX1_findNeed_43 : decode cX1_findNeed 43 = .ok (.ishl, 1) := by decide +kernel
theorem dX1_findNeed_44 : decode cX1_findNeed 44 = .ok (.iconst (-1), 1) := by decide +kernel
theorem dX1_findNeed_45 : decode cX1_findNeed 45 = .ok (.ixor, 1) := by decide +kernel
theorem dX1_findNeed_46 : decode cX1_findNeed 46 = .ok (.iand, 1) := by decide +kernel
theorem dX1_findNeed_47 : decode cX1_findNeed 47 = .ok (.istore 4, 2) := by decide +kernel
theorem dX1_findNeed_49 : decode cX1_findNeed 49 = .ok (.iconst 0, 1) := by decide +kernel
theorem dX1_findNeed_50 : decode cX1_findNeed 50 = .ok (.istore 5, 2) := by decide +kernel
theorem dX1_findNeed_52 : decode cX1_findNeed 52 = .ok (.iconst 0, 1) := by decide +kernel
theorem dX1_findNeed_53 : decode cX1_findNeed 53 = .ok (.istore 6, 2) := by decide +kernel
theorem dX1_findNeed_55 : decode cX1_findNeed 55 = .ok (.iload 6, 2) := by decide +kernel
theorem dX1_findNeed_57 : decode cX1_findNeed 57 = .ok (.bipush 6, 2) := by decide +kernel
theorem dX1_findNeed_59 : decode cX1_findNeed 59 = .ok (.if_icmp .ge 46, 3) := by decide +kernel
theorem dX1_findNeed_62 : decode cX1_findNeed 62 = .ok (.iload 5, 2) := by decide +kernel
theorem dX1_findNeed_64 : decode cX1_findNeed 64 = .ok (.iload 4, 2) := by decide +kernel
theorem dX1_findNeed_66 : decode cX1_findNeed 66 = .ok (.iload 6, 2) := by decide +kernel
theorem dX1_findNeed_68 : decode cX1_findNeed 68 = .ok (.invokestatic 64, 3) := by decide +kernel
theorem dX1_findNeed_71 : decode cX1_findNeed 71 = .ok (.ifCond .eq 24, 3) := by decide +kernel
theorem dX1_findNeed_74 : decode cX1_findNeed 74 = .ok (.aload_n 0, 1) := by decide +kernel
theorem dX1_findNeed_75 : decode cX1_findNeed 75 = .ok (.getfield 15, 3) := by decide +kernel
theorem dX1_findNeed_78 : decode cX1_findNeed 78 = .ok (.iload 6, 2) := by decide +kernel
theorem dX1_findNeed_80 : decode cX1_findNeed 80 = .ok (.iaload, 1) := by decide +kernel
theorem dX1_findNeed_81 : decode cX1_findNeed 81 = .ok (.iload_n 1, 1) := by decide +kernel
theorem dX1_findNeed_82 : decode cX1_findNeed 82 = .ok (.invokestatic 64, 3) := by decide +kernel
theorem dX1_findNeed_85 : decode cX1_findNeed 85 = .ok (.ifCond .eq 10, 3) := by decide +kernel
theorem dX1_findNeed_88 : decode cX1_findNeed 88 = .ok (.iconst 1, 1) := by decide +kernel
theorem dX1_findNeed_89 : decode cX1_findNeed 89 = .ok (.iload 6, 2) := by decide +kernel
theorem dX1_findNeed_91 : decode cX1_findNeed 91 = .ok (.ishl, 1) := by decide +kernel
theorem dX1_findNeed_92 : decode cX1_findNeed 92 = .ok (.goto 4, 3) := by decide +kernel
theorem dX1_findNeed_95 : decode cX1_findNeed 95 = .ok (.iconst 0, 1) := by decide +kernel
theorem dX1_findNeed_96 : decode cX1_findNeed 96 = .ok (.ior, 1) := by decide +kernel
theorem dX1_findNeed_97 : decode cX1_findNeed 97 = .ok (.istore 5, 2) := by decide +kernel
theorem dX1_findNeed_99 : decode cX1_findNeed 99 = .ok (.iinc 6 1, 3) := by decide +kernel
theorem dX1_findNeed_102 : decode cX1_findNeed 102 = .ok (.goto (-47), 3) := by decide +kernel
theorem dX1_findNeed_105 : decode cX1_findNeed 105 = .ok (.aload_n 0, 1) := by decide +kernel
theorem dX1_findNeed_106 : decode cX1_findNeed 106 = .ok (.getfield 18, 3) := by decide +kernel
theorem dX1_findNeed_109 : decode cX1_findNeed 109 = .ok (.iload_n 1, 1) := by decide +kernel
theorem dX1_findNeed_110 : decode cX1_findNeed 110 = .ok (.iconst 0, 1) := by decide +kernel
theorem dX1_findNeed_111 : decode cX1_findNeed 111 = .ok (.iload_n 3, 1) := by decide +kernel
theorem dX1_findNeed_112 : decode cX1_findNeed 112 = .ok (.iload 5, 2) := by decide +kernel
theorem dX1_findNeed_114 : decode cX1_findNeed 114 = .ok (.invokestatic 68, 3) := by decide +kernel
theorem dX1_findNeed_117 : decode cX1_findNeed 117 = .ok (.isub, 1) := by decide +kernel
theorem dX1_findNeed_118 : decode cX1_findNeed 118 = .ok (.invokestatic 73, 3) := by decide +kernel
theorem dX1_findNeed_121 : decode cX1_findNeed 121 = .ok (.iastore, 1) := by decide +kernel
theorem dX1_findNeed_122 : decode cX1_findNeed 122 = .ok (.aload_n 0, 1) := by decide +kernel
theorem dX1_findNeed_123 : decode cX1_findNeed 123 = .ok (.getfield 21, 3) := by decide +kernel
theorem dX1_findNeed_126 : decode cX1_findNeed 126 = .ok (.iload_n 1, 1) := by decide +kernel
theorem dX1_findNeed_127 : decode cX1_findNeed 127 = .ok (.iload 4, 2) := by decide +kernel
theorem dX1_findNeed_129 : decode cX1_findNeed 129 = .ok (.iload 5, 2) := by decide +kernel
theorem dX1_findNeed_131 : decode cX1_findNeed 131 = .ok (.iconst (-1), 1) := by decide +kernel
theorem dX1_findNeed_132 : decode cX1_findNeed 132 = .ok (.ixor, 1) := by decide +kernel
theorem dX1_findNeed_133 : decode cX1_findNeed 133 = .ok (.iand, 1) := by decide +kernel
theorem dX1_findNeed_134 : decode cX1_findNeed 134 = .ok (.iastore, 1) := by decide +kernel
theorem dX1_findNeed_135 : decode cX1_findNeed 135 = .ok (.iconst 0, 1) := by decide +kernel
theorem dX1_findNeed_136 : decode cX1_findNeed 136 = .ok (.istore 6, 2) := by decide +kernel
theorem dX1_findNeed_138 : decode cX1_findNeed 138 = .ok (.iload 6, 2) := by decide +kernel
theorem dX1_findNeed_140 : decode cX1_findNeed 140 = .ok (.bipush 6, 2) := by decide +kernel
theorem dX1_findNeed_142 : decode cX1_findNeed 142 = .ok (.if_icmp .ge 40, 3) := by decide +kernel
theorem dX1_findNeed_145 : decode cX1_findNeed 145 = .ok (.aload_n 0, 1) := by decide +kernel
theorem dX1_findNeed_146 : decode cX1_findNeed 146 = .ok (.getfield 24, 3) := by decide +kernel
theorem dX1_findNeed_149 : decode cX1_findNeed 149 = .ok (.iload 6, 2) := by decide +kernel
theorem dX1_findNeed_151 : decode cX1_findNeed 151 = .ok (.dup2, 1) := by decide +kernel
theorem dX1_findNeed_152 : decode cX1_findNeed 152 = .ok (.iaload, 1) := by decide +kernel
theorem dX1_findNeed_153 : decode cX1_findNeed 153 = .ok (.aload_n 0, 1) := by decide +kernel
theorem dX1_findNeed_154 : decode cX1_findNeed 154 = .ok (.getfield 21, 3) := by decide +kernel
theorem dX1_findNeed_157 : decode cX1_findNeed 157 = .ok (.iload_n 1, 1) := by decide +kernel
theorem dX1_findNeed_158 : decode cX1_findNeed 158 = .ok (.iaload, 1) := by decide +kernel
theorem dX1_findNeed_159 : decode cX1_findNeed 159 = .ok (.iload 6, 2) := by decide +kernel
theorem dX1_findNeed_161 : decode cX1_findNeed 161 = .ok (.invokestatic 64, 3) := by decide +kernel
theorem dX1_findNeed_164 : decode cX1_findNeed 164 = .ok (.ifCond .eq 9, 3) := by decide +kernel
theorem dX1_findNeed_167 : decode cX1_findNeed 167 = .ok (.iconst 1, 1) := by decide +kernel
theorem dX1_findNeed_168 : decode cX1_findNeed 168 = .ok (.iload_n 1, 1) := by decide +kernel
theorem dX1_findNeed_169 : decode cX1_findNeed 169 = .ok (.ishl, 1) := by decide +kernel
theorem dX1_findNeed_170 : decode cX1_findNeed 170 = .ok (.goto 4, 3) := by decide +kernel
theorem dX1_findNeed_173 : decode cX1_findNeed 173 = .ok (.iconst 0, 1) := by decide +kernel
theorem dX1_findNeed_174 : decode cX1_findNeed 174 = .ok (.ior, 1) := by decide +kernel
theorem dX1_findNeed_175 : decode cX1_findNeed 175 = .ok (.iastore, 1) := by decide +kernel
theorem dX1_findNeed_176 : decode cX1_findNeed 176 = .ok (.iinc 6 1, 3) := by decide +kernel
theorem dX1_findNeed_179 : decode cX1_findNeed 179 = .ok (.goto (-41), 3) := by decide +kernel
theorem dX1_findNeed_182 : decode cX1_findNeed 182 = .ok (.return_, 1) := by decide +kernel
theorem dX1_isFound_0 : decode cX1_isFound 0 = .ok (.aload_n 0, 1) := by decide +kernel
theorem dX1_isFound_1 : decode cX1_isFound 1 = .ok (.iconst 0, 1) := by decide +kernel
theorem dX1_isFound_2 : decode cX1_isFound 2 = .ok (.invokevirtual 78, 3) := by decide +kernel
theorem dX1_isFound_5 : decode cX1_isFound 5 = .ok (.ifCond .ne 5, 3) := by decide +kernel
theorem dX1_isFound_8 : decode cX1_isFound 8 = .ok (.iconst 0, 1) := by decide +kernel
theorem dX1_isFound_9 : decode cX1_isFound 9 = .ok (.ireturn, 1) := by decide +kernel
theorem dX1_isFound_10 : decode cX1_isFound 10 = .ok (.iconst 0, 1) := by decide +kernel
theorem dX1_isFound_11 : decode cX1_isFound 11 = .ok (.istore_n 1, 1) := by decide +kernel
theorem dX1_isFound_12 : decode cX1_isFound 12 = .ok (.iload_n 1, 1) := by decide +kernel
theorem dX1_isFound_13 : decode cX1_isFound 13 = .ok (.bipush 6, 2) := by decide +kernel
theorem dX1_isFound_15 : decode cX1_isFound 15 = .ok (.if_icmp .ge 19, 3) := by decide +kernel
theorem dX1_isFound_18 : decode cX1_isFound 18 = .ok (.aload_n 0, 1) := by decide +kernel
theorem dX1_isFound_19 : decode cX1_isFound 19 = .ok (.iload_n 1, 1) := by decide +kernel
theorem dX1_isFound_20 : decode cX1_isFound 20 = .ok (.invokevirtual 81, 3) := by decide +kernel
theorem dX1_isFound_23 : decode cX1_isFound 23 = .ok (.ifCond .ne 5, 3) := by decide +kernel
theorem dX1_isFound_26 : decode cX1_isFound 26 = .ok (.iconst 0, 1) := by decide +kernel
theorem dX1_isFound_27 : decode cX1_isFound 27 = .ok (.ireturn, 1) := by decide +kernel
theorem dX1_isFound_28 : decode cX1_isFound 28 = .ok (.iinc 1 1, 3) := by decide +kernel
theorem dX1_isFound_31 : decode cX1_isFound 31 = .ok (.goto (-19), 3) := by decide +kernel
theorem dX1_isFound_34 : decode cX1_isFound 34 = .ok (.iconst 1, 1) := by decide +kernel
theorem dX1_isFound_35 : decode cX1_isFound 35 = .ok (.ireturn, 1) := by decide +kernel
theorem dX1_size_0 : decode cX1_size 0 = .ok (.iconst 0, 1) := by decide +kernel
theorem dX1_size_1 : decode cX1_size 1 = .ok (.istore_n 1, 1) := by decide +kernel
theorem dX1_size_2 : decode cX1_size 2 = .ok (.iconst 0, 1) := by decide +kernel
theorem dX1_size_3 : decode cX1_size 3 = .ok (.istore_n 2, 1) := by decide +kernel
theorem dX1_size_4 : decode cX1_size 4 = .ok (.iload_n 2, 1) := by decide +kernel
theorem dX1_size_5 : decode cX1_size 5 = .ok (.bipush 6, 2) := by decide +kernel
theorem dX1_size_7 : decode cX1_size 7 = .ok (.if_icmp .ge 21, 3) := by decide +kernel
theorem dX1_size_10 : decode cX1_size 10 = .ok (.iload_n 1, 1) := by decide +kernel
theorem dX1_size_11 : decode cX1_size 11 = .ok (.aload_n 0, 1) := by decide +kernel
theorem dX1_size_12 : decode cX1_size 12 = .ok (.getfield 30, 3) := by decide +kernel
theorem dX1_size_15 : decode cX1_size 15 = .ok (.iload_n 2, 1) := by decide +kernel
theorem dX1_size_16 : decode cX1_size 16 = .ok (.iaload, 1) := by decide +kernel
theorem dX1_size_17 : decode cX1_size 17 = .ok (.invokestatic 68, 3) := by decide +kernel
theorem dX1_size_20 : decode cX1_size 20 = .ok (.iadd, 1) := by decide +kernel
theorem dX1_size_21 : decode cX1_size 21 = .ok (.istore_n 1, 1) := by decide +kernel
theorem dX1_size_22 : decode cX1_size 22 = .ok (.iinc 2 1, 3) := by decide +kernel
theorem dX1_size_25 : decode cX1_size 25 = .ok (.goto (-21), 3) := by decide +kernel
theorem dX1_size_28 : decode cX1_size 28 = .ok (.iload_n 1, 1) := by decide +kernel
theorem dX1_size_29 : decode cX1_size 29 = .ok (.ireturn, 1) := by decide +kernel
theorem dX1_giveFirst_0 : decode cX1_giveFirst 0 = .ok (.iload_n 1, 1) := by decide +kernel
theorem dX1_giveFirst_1 : decode cX1_giveFirst 1 = .ok (.invokestatic 43, 3) := by decide +kernel
theorem dX1_giveFirst_4 : decode cX1_giveFirst 4 = .ok (.ifCond .ne 5, 3) := by decide +kernel
theorem dX1_giveFirst_7 : decode cX1_giveFirst 7 = .ok (.iconst 0, 1) := by decide +kernel
theorem dX1_giveFirst_8 : decode cX1_giveFirst 8 = .ok (.ireturn, 1) := by decide +kernel
theorem dX1_giveFirst_9 : decode cX1_giveFirst 9 = .ok (.iconst 0, 1) := by decide +kernel
theorem dX1_giveFirst_10 : decode cX1_giveFirst 10 = .ok (.istore_n 2, 1) := by decide +kernel
theorem dX1_giveFirst_11 : decode cX1_giveFirst 11 = .ok (.iload_n 2, 1) := by decide +kernel
theorem dX1_giveFirst_12 : decode cX1_giveFirst 12 = .ok (.aload_n 0, 1) := by decide +kernel
theorem dX1_giveFirst_13 : decode cX1_giveFirst 13 = .ok (.getfield 21, 3) := by decide +kernel
theorem dX1_giveFirst_16 : decode cX1_giveFirst 16 = .ok (.iload_n 1, 1) := by decide +kernel
theorem dX1_giveFirst_17 : decode cX1_giveFirst 17 = .ok (.iaload, 1) := by decide +kernel
theorem dX1_giveFirst_18 : decode cX1_giveFirst 18 = .ok (.if_icmp .gt 84, 3) := by decide +kernel
theorem dX1_giveFirst_21 : decode cX1_giveFirst 21 = .ok (.iload_n 2, 1) := by decide +kernel
theorem dX1_giveFirst_22 : decode cX1_giveFirst 22 = .ok (.aload_n 0, 1) := by decide +kernel
theorem dX1_giveFirst_23 : decode cX1_giveFirst 23 = .ok (.getfield 21, 3) := by decide +kernel
theorem dX1_giveFirst_26 : decode cX1_giveFirst 26 = .ok (.iload_n 1, 1) := by decide +kernel
theorem dX1_giveFirst_27 : decode cX1_giveFirst 27 = .ok (.iaload, 1) := by decide +kernel
theorem dX1_giveFirst_28 : decode cX1_giveFirst 28 = .ok (.iconst (-1), 1) := by decide +kernel
theorem dX1_giveFirst_29 : decode cX1_giveFirst 29 = .ok (.ixor, 1) := by decide +kernel
theorem dX1_giveFirst_30 : decode cX1_giveFirst 30 = .ok (.iand, 1) := by decide +kernel
theorem dX1_giveFirst_31 : decode cX1_giveFirst 31 = .ok (.ifCond .ne 20, 3) := by decide +kernel
theorem dX1_giveFirst_34 : decode cX1_giveFirst 34 = .ok (.iload_n 2, 1) := by decide +kernel
theorem dX1_giveFirst_35 : decode cX1_giveFirst 35 = .ok (.invokestatic 68, 3) := by decide +kernel
theorem dX1_giveFirst_38 : decode cX1_giveFirst 38 = .ok (.aload_n 0, 1) := by decide +kernel
theorem dX1_giveFirst_39 : decode cX1_giveFirst 39 = .ok (.getfield 18, 3) := by decide +kernel
theorem dX1_giveFirst_42 : decode cX1_giveFirst 42 = .ok (.iload_n 1, 1) := by decide +kernel
theorem dX1_giveFirst_43 : decode cX1_giveFirst 43 = .ok (.iaload, 1) := by decide +kernel
theorem dX1_giveFirst_44 : decode cX1_giveFirst 44 = .ok (.if_icmp .ne 7, 3) := by decide +kernel
theorem dX1_giveFirst_47 : decode cX1_giveFirst 47 = .ok (.iconst 1, 1) := by decide +kernel
theorem dX1_giveFirst_48 : decode cX1_giveFirst 48 = .ok (.goto 4, 3) := by decide +kernel
theorem dX1_giveFirst_51 : decode cX1_giveFirst 51 = .ok (.iconst 0, 1) := by decide +kernel
theorem dX1_giveFirst_52 : decode cX1_giveFirst 52 = .ok (.istore_n 3, 1) := by decide +kernel
theorem dX1_giveFirst_53 : decode cX1_giveFirst 53 = .ok (.iload_n 3, 1) := by decide +kernel
theorem dX1_giveFirst_54 : decode cX1_giveFirst 54 = .ok (.ifCond .eq 42, 3) := by decide +kernel
theorem dX1_giveFirst_57 : decode cX1_giveFirst 57 = .ok (.aload_n 0, 1) := by decide +kernel
theorem dX1_giveFirst_58 : decode cX1_giveFirst 58 = .ok (.iload_n 2, 1) := by decide +kernel
theorem dX1_giveFirst_59 : decode cX1_giveFirst 59 = .ok (.invokevirtual 84, 3) := by decide +kernel
theorem dX1_giveFirst_62 : decode cX1_giveFirst 62 = .ok (.ifCond .eq 34, 3) := by decide +kernel
theorem dX1_giveFirst_65 : decode cX1_giveFirst 65 = .ok (.aload_n 0, 1) := by decide +kernel
theorem dX1_giveFirst_66 : decode cX1_giveFirst 66 = .ok (.iload_n 2, 1) := by decide +kernel
theorem dX1_giveFirst_67 : decode cX1_giveFirst 67 = .ok (.iconst (-1), 1) := by decide +kernel
theorem dX1_giveFirst_68 : decode cX1_giveFirst 68 = .ok (.invokevirtual 87, 3) := by decide +kernel
theorem dX1_giveFirst_71 : decode cX1_giveFirst 71 = .ok (.aload_n 0, 1) := by decide +kernel
theorem dX1_giveFirst_72 : decode cX1_giveFirst 72 = .ok (.iload_n 1, 1) := by decide +kernel
theorem dX1_giveFirst_73 : decode cX1_giveFirst 73 = .ok (.iconst 1, 1) := by decide +kernel
theorem dX1_giveFirst_74 : decode cX1_giveFirst 74 = .ok (.iadd, 1) := by decide +kernel
theorem dX1_giveFirst_75 : decode cX1_giveFirst 75 = .ok (.invokevirtual 78, 3) := by decide +kernel
theorem dX1_giveFirst_78 : decode cX1_giveFirst 78 = .ok (.ifCond .eq 12, 3) := by decide +kernel
theorem dX1_giveFirst_81 : decode cX1_giveFirst 81 = .ok (.aload_n 0, 1) := by decide +kernel
theorem dX1_giveFirst_82 : decode cX1_giveFirst 82 = .ok (.getfield 30, 3) := by decide +kernel
theorem dX1_giveFirst_85 : decode cX1_giveFirst 85 = .ok (.iload_n 1, 1) := by decide +kernel
theorem dX1_giveFirst_86 : decode cX1_giveFirst 86 = .ok (.iload_n 2, 1) := by decide +kernel
theorem dX1_giveFirst_87 : decode cX1_giveFirst 87 = .ok (.iastore, 1) := by decide +kernel
theorem dX1_giveFirst_88 : decode cX1_giveFirst 88 = .ok (.iconst 1, 1) := by decide +kernel
theorem dX1_giveFirst_89 : decode cX1_giveFirst 89 = .ok (.ireturn, 1) := by decide +kernel
theorem dX1_giveFirst_90 : decode cX1_giveFirst 90 = .ok (.aload_n 0, 1) := by decide +kernel
theorem dX1_giveFirst_91 : decode cX1_giveFirst 91 = .ok (.iload_n 2, 1) := by decide +kernel
theorem dX1_giveFirst_92 : decode cX1_giveFirst 92 = .ok (.iconst 1, 1) := by decide +kernel
theorem dX1_giveFirst_93 : decode cX1_giveFirst 93 = .ok (.invokevirtual 87, 3) := by decide +kernel
theorem dX1_giveFirst_96 : decode cX1_giveFirst 96 = .ok (.iinc 2 1, 3) := by decide +kernel
theorem dX1_giveFirst_99 : decode cX1_giveFirst 99 = .ok (.goto (-88), 3) := by decide +kernel
theorem dX1_giveFirst_102 : decode cX1_giveFirst 102 = .ok (.iconst 0, 1) := by decide +kernel
theorem dX1_giveFirst_103 : decode cX1_giveFirst 103 = .ok (.ireturn, 1) := by decide +kernel
theorem dX1_haveRoom_0 : decode cX1_haveRoom 0 = .ok (.iconst 0, 1) := by decide +kernel
theorem dX1_haveRoom_1 : decode cX1_haveRoom 1 = .ok (.istore_n 2, 1) := by decide +kernel
theorem dX1_haveRoom_2 : decode cX1_haveRoom 2 = .ok (.iload_n 2, 1) := by decide +kernel
theorem dX1_haveRoom_3 : decode cX1_haveRoom 3 = .ok (.bipush 6, 2) := by decide +kernel
theorem dX1_haveRoom_5 : decode cX1_haveRoom 5 = .ok (.if_icmp .ge 28, 3) := by decide +kernel
theorem dX1_haveRoom_8 : decode cX1_haveRoom 8 = .ok (.iload_n 1, 1) := by decide +kernel
theorem dX1_haveRoom_9 : decode cX1_haveRoom 9 = .ok (.iload_n 2, 1) := by decide +kernel
theorem dX1_haveRoom_10 : decode cX1_haveRoom 10 = .ok (.invokestatic 64, 3) := by decide +kernel
theorem dX1_haveRoom_13 : decode cX1_haveRoom 13 = .ok (.ifCond .eq 14, 3) := by decide +kernel
theorem dX1_haveRoom_16 : decode cX1_haveRoom 16 = .ok (.aload_n 0, 1) := by decide +kernel
theorem dX1_haveRoom_17 : decode cX1_haveRoom 17 = .ok (.getfield 27, 3) := by decide +kernel
theorem dX1_haveRoom_20 : decode cX1_haveRoom 20 = .ok (.iload_n 2, 1) := by decide +kernel
theorem dX1_haveRoom_21 : decode cX1_haveRoom 21 = .ok (.iaload, 1) := by decide +kernel
theorem dX1_haveRoom_22 : decode cX1_haveRoom 22 = .ok (.ifCond .gt 5, 3) := by decide +kernel
theorem dX1_haveRoom_25 : decode cX1_haveRoom 25 = .ok (.iconst 0, 1) := by decide +kernel
theorem dX1_haveRoom_26 : decode cX1_haveRoom 26 = .ok (.ireturn, 1) := by decide +kernel
theorem dX1_haveRoom_27 : decode cX1_haveRoom 27 = .ok (.iinc 2 1, 3) := by decide +kernel
theorem dX1_haveRoom_30 : decode cX1_haveRoom 30 = .ok (.goto (-28), 3) := by decide +kernel
theorem dX1_haveRoom_33 : decode cX1_haveRoom 33 = .ok (.iconst 1, 1) := by decide +kernel
theorem dX1_haveRoom_34 : decode cX1_haveRoom 34 = .ok (.ireturn, 1) := by decide +kernel
theorem dX1_changeRoom_0 : decode cX1_changeRoom 0 = .ok (.iconst 0, 1) := by decide +kernel
theorem dX1_changeRoom_1 : decode cX1_changeRoom 1 = .ok (.istore_n 3, 1) := by decide +kernel
theorem dX1_changeRoom_2 : decode cX1_changeRoom 2 = .ok (.iload_n 3, 1) := by decide +kernel
theorem dX1_changeRoom_3 : decode cX1_changeRoom 3 = .ok (.bipush 6, 2) := by decide +kernel
theorem dX1_changeRoom_5 : decode cX1_changeRoom 5 = .ok (.if_icmp .ge 31, 3) := by decide +kernel
theorem dX1_changeRoom_8 : decode cX1_changeRoom 8 = .ok (.aload_n 0, 1) := by decide +kernel
theorem dX1_changeRoom_9 : decode cX1_changeRoom 9 = .ok (.getfield 27, 3) := by decide +kernel
theorem dX1_changeRoom_12 : decode cX1_changeRoom 12 = .ok (.iload_n 3, 1) := by decide +kernel
theorem dX1_changeRoom_13 : decode cX1_changeRoom 13 = .ok (.dup2, 1) := by decide +kernel
theorem dX1_changeRoom_14 : decode cX1_changeRoom 14 = .ok (.iaload, 1) := by decide +kernel
theorem dX1_changeRoom_15 : decode cX1_changeRoom 15 = .ok (.iload_n 1, 1) := by decide +kernel
theorem dX1_changeRoom_16 : decode cX1_changeRoom 16 = .ok (.iload_n 3, 1) := by decide +kernel
theorem dX1_changeRoom_17 : decode cX1_changeRoom 17 = .ok (.invokestatic 64, 3) := by decide +kernel
theorem dX1_changeRoom_20 : decode cX1_changeRoom 20 = .ok (.ifCond .eq 7, 3) := by decide +kernel
theorem dX1_changeRoom_23 : decode cX1_changeRoom 23 = .ok (.iload_n 2, 1) := by decide +kernel
theorem dX1_changeRoom_24 : decode cX1_changeRoom 24 = .ok (.goto 4, 3) := by decide +kernel
theorem dX1_changeRoom_27 : decode cX1_changeRoom 27 = .ok (.iconst 0, 1) := by decide +kernel
theorem dX1_changeRoom_28 : decode cX1_changeRoom 28 = .ok (.iadd, 1) := by decide +kernel
theorem dX1_changeRoom_29 : decode cX1_changeRoom 29 = .ok (.iastore, 1) := by decide +kernel
theorem dX1_changeRoom_30 : decode cX1_changeRoom 30 = .ok (.iinc 3 1, 3) := by decide +kernel
theorem dX1_changeRoom_33 : decode cX1_changeRoom 33 = .ok (.goto (-31), 3) := by decide +kernel
theorem dX1_changeRoom_36 : decode cX1_changeRoom 36 = .ok (.return_, 1) := by decide +kernel
theorem dX1_canGoOn_0 : decode cX1_canGoOn 0 = .ok (.iconst 1, 1) := by decide +kernel
theorem dX1_canGoOn_1 : decode cX1_canGoOn 1 = .ok (.istore_n 2, 1) := by decide +kernel
theorem dX1_canGoOn_2 : decode cX1_canGoOn 2 = .ok (.iload_n 2, 1) := by decide +kernel
theorem dX1_canGoOn_3 : decode cX1_canGoOn 3 = .ok (.iconst 1, 1) := by decide +kernel
theorem dX1_canGoOn_4 : decode cX1_canGoOn 4 = .ok (.bipush 6, 2) := by decide +kernel
theorem dX1_canGoOn_6 : decode cX1_canGoOn 6 = .ok (.iload_n 1, 1) := by decide +kernel
theorem dX1_canGoOn_7 : decode cX1_canGoOn 7 = .ok (.isub, 1) := by decide +kernel
theorem dX1_canGoOn_8 : decode cX1_canGoOn 8 = .ok (.ishl, 1) := by decide +kernel
theorem dX1_canGoOn_9 : decode cX1_canGoOn 9 = .ok (.if_icmp .ge 91, 3) := by decide +kernel
theorem dX1_canGoOn_12 : decode cX1_canGoOn 12 = .ok (.iload_n 2, 1) := by decide +kernel
theorem dX1_canGoOn_13 : decode cX1_canGoOn 13 = .ok (.iload_n 1, 1) := by decide +kernel
theorem dX1_canGoOn_14 : decode cX1_canGoOn 14 = .ok (.ishl, 1) := by decide +kernel
theorem dX1_canGoOn_15 : decode cX1_canGoOn 15 = .ok (.istore_n 3, 1) := by decide +kernel
theorem dX1_canGoOn_16 : decode cX1_canGoOn 16 = .ok (.iconst 0, 1) := by decide +kernel
theorem dX1_canGoOn_17 : decode cX1_canGoOn 17 = .ok (.istore 4, 2) := by decide +kernel
theorem dX1_canGoOn_19 : decode cX1_canGoOn 19 = .ok (.iconst 0, 1) := by decide +kernel
theorem dX1_canGoOn_20 : decode cX1_canGoOn 20 = .ok (.istore 5, 2) := by decide +kernel
theorem dX1_canGoOn_22 : decode cX1_canGoOn 22 = .ok (.iload 5, 2) := by decide +kernel
theorem dX1_canGoOn_24 : decode cX1_canGoOn 24 = .ok (.bipush 6, 2) := by decide +kernel
theorem dX1_canGoOn_26 : decode cX1_canGoOn 26 = .ok (.if_icmp .ge 61, 3) := by decide +kernel
theorem dX1_canGoOn_29 : decode cX1_canGoOn 29 = .ok (.iload 4, 2) := by decide +kernel
theorem dX1_canGoOn_31 : decode cX1_canGoOn 31 = .ok (.aload_n 0, 1) := by decide +kernel
theorem dX1_canGoOn_32 : decode cX1_canGoOn 32 = .ok (.getfield 27, 3) := by decide +kernel
theorem dX1_canGoOn_35 : decode cX1_canGoOn 35 = .ok (.iload 5, 2) := by decide +kernel
theorem dX1_canGoOn_37 : decode cX1_canGoOn 37 = .ok (.iaload, 1) := by decide +kernel
theorem dX1_canGoOn_38 : decode cX1_canGoOn 38 = .ok (.aload_n 0, 1) := by decide +kernel
theorem dX1_canGoOn_39 : decode cX1_canGoOn 39 = .ok (.getfield 24, 3) := by decide +kernel
theorem dX1_canGoOn_42 : decode cX1_canGoOn 42 = .ok (.iload 5, 2) := by decide +kernel
theorem dX1_canGoOn_44 : decode cX1_canGoOn 44 = .ok (.iaload, 1) := by decide +kernel
theorem dX1_canGoOn_45 : decode cX1_canGoOn 45 = .ok (.iload_n 3, 1) := by decide +kernel
theorem dX1_canGoOn_46 : decode cX1_canGoOn 46 = .ok (.iand, 1) := by decide +kernel
theorem dX1_canGoOn_47 : decode cX1_canGoOn 47 = .ok (.invokestatic 68, 3) := by decide +kernel
theorem dX1_canGoOn_50 : decode cX1_canGoOn 50 = .ok (.invokestatic 91, 3) := by decide +kernel
theorem dX1_canGoOn_53 : decode cX1_canGoOn 53 = .ok (.iadd, 1) := by decide +kernel
theorem dX1_canGoOn_54 : decode cX1_canGoOn 54 = .ok (.istore 4, 2) := by decide +kernel
theorem dX1_canGoOn_56 : decode cX1_canGoOn 56 = .ok (.iload 4, 2) := by decide +kernel
theorem dX1_canGoOn_58 : decode cX1_canGoOn 58 = .ok (.iload_n 3, 1) := by decide +kernel
theorem dX1_canGoOn_59 : decode cX1_canGoOn 59 = .ok (.iload 5, 2) := by decide +kernel
theorem dX1_canGoOn_61 : decode cX1_canGoOn 61 = .ok (.invokestatic 64, 3) := by decide +kernel
theorem dX1_canGoOn_64 : decode cX1_canGoOn 64 = .ok (.ifCond .eq 13, 3) := by decide +kernel
theorem dX1_canGoOn_67 : decode cX1_canGoOn 67 = .ok (.aload_n 0, 1) := by decide +kernel
theorem dX1_canGoOn_68 : decode cX1_canGoOn 68 = .ok (.getfield 18, 3) := by decide +kernel
theorem dX1_canGoOn_71 : decode cX1_canGoOn 71 = .ok (.iload 5, 2) := by decide +kernel
theorem dX1_canGoOn_73 : decode cX1_canGoOn 73 = .ok (.iaload, 1) := by decide +kernel
theorem dX1_canGoOn_74 : decode cX1_canGoOn 74 = .ok (.goto 4, 3) := by decide +kernel
theorem dX1_canGoOn_77 : decode cX1_canGoOn 77 = .ok (.iconst 0, 1) := by decide +kernel
theorem dX1_canGoOn_78 : decode cX1_canGoOn 78 = .ok (.isub, 1) := by decide +kernel
theorem dX1_canGoOn_79 : decode cX1_canGoOn 79 = .ok (.istore 4, 2) := by decide +kernel
theorem dX1_canGoOn_81 : decode cX1_canGoOn 81 = .ok (.iinc 5 1, 3) := by decide +kernel
theorem dX1_canGoOn_84 : decode cX1_canGoOn 84 = .ok (.goto (-62), 3) := by decide +kernel
theorem dX1_canGoOn_87 : decode cX1_canGoOn 87 = .ok (.iload 4, 2) := by decide +kernel
theorem dX1_canGoOn_89 : decode cX1_canGoOn 89 = .ok (.ifCond .ge 5, 3) := by decide +kernel
theorem dX1_canGoOn_92 : decode cX1_canGoOn 92 = .ok (.iconst 0, 1) := by decide +kernel
theorem dX1_canGoOn_93 : decode cX1_canGoOn 93 = .ok (.ireturn, 1) := by decide +kernel
theorem dX1_canGoOn_94 : decode cX1_canGoOn 94 = .ok (.iinc 2 1, 3) := by decide +kernel
theorem dX1_canGoOn_97 : decode cX1_canGoOn 97 = .ok (.goto (-95), 3) := by decide +kernel
theorem dX1_canGoOn_100 : decode cX1_canGoOn 100 = .ok (.iconst 1, 1) := by decide +kernel
theorem dX1_canGoOn_101 : decode cX1_canGoOn 101 = .ok (.ireturn, 1) := by decide +kernel
theorem dX2_init_0 : decode cX2_init 0 = .ok (.aload_n 0, 1) := by decide +kernel
theorem dX2_init_1 : decode cX2_init 1 = .ok (.invokespecial 3, 3) := by decide +kernel
theorem dX2_init_4 : decode cX2_init 4 = .ok (.aload_n 0, 1) := by decide +kernel
theorem dX2_init_5 : decode cX2_init 5 = .ok (.bipush 24, 2) := by decide +kernel
theorem dX2_init_7 : decode cX2_init 7 = .ok (.newarray .int, 2) := by decide +kernel
theorem dX2_init_9 : decode cX2_init 9 = .ok (.putfield 9, 3) := by decide +kernel
theorem dX2_init_12 : decode cX2_init 12 = .ok (.aload_n 0, 1) := by decide +kernel
theorem dX2_init_13 : decode cX2_init 13 = .ok (.bipush 24, 2) := by decide +kernel
theorem dX2_init_15 : decode cX2_init 15 = .ok (.newarray .int, 2) := by decide +kernel
theorem dX2_init_17 : decode cX2_init 17 = .ok (.putfield 15, 3) := by decide +kernel
theorem dX2_init_20 : decode cX2_init 20 = .ok (.aload_n 0, 1) := by decide +kernel
theorem dX2_init_21 : decode cX2_init 21 = .ok (.bipush 24, 2) := by decide +kernel
theorem dX2_init_23 : decode cX2_init 23 = .ok (.newarray .int, 2) := by decide +kernel
theorem dX2_init_25 : decode cX2_init 25 = .ok (.putfield 18, 3) := by decide +kernel
theorem dX2_init_28 : decode cX2_init 28 = .ok (.aload_n 0, 1) := by decide +kernel
theorem dX2_init_29 : decode cX2_init 29 = .ok (.bipush 24, 2) := by decide +kernel
theorem dX2_init_31 : decode cX2_init 31 = .ok (.newarray .int, 2) := by decide +kernel
theorem dX2_init_33 : decode cX2_init 33 = .ok (.putfield 21, 3) := by decide +kernel
theorem dX2_init_36 : decode cX2_init 36 = .ok (.aload_n 0, 1) := by decide +kernel
theorem dX2_init_37 : decode cX2_init 37 = .ok (.bipush 24, 2) := by decide +kernel
theorem dX2_init_39 : decode cX2_init 39 = .ok (.newarray .int, 2) := by decide +kernel
theorem dX2_init_41 : decode cX2_init 41 = .ok (.putfield 24, 3) := by decide +kernel
theorem dX2_init_44 : decode cX2_init 44 = .ok (.aload_n 0, 1) := by decide +kernel
theorem dX2_init_45 : decode cX2_init 45 = .ok (.bipush 6, 2) := by decide +kernel
theorem dX2_init_47 : decode cX2_init 47 = .ok (.newarray .int, 2) := by decide +kernel
theorem dX2_init_49 : decode cX2_init 49 = .ok (.putfield 27, 3) := by decide +kernel
theorem dX2_init_52 : decode cX2_init 52 = .ok (.aload_n 0, 1) := by decide +kernel
theorem dX2_init_53 : decode cX2_init 53 = .ok (.sipush 144, 3) := by decide +kernel
theorem dX2_init_56 : decode cX2_init 56 = .ok (.newarray .int, 2) := by decide +kernel
theorem dX2_init_58 : decode cX2_init 58 = .ok (.putfield 30, 3) := by decide +kernel
theorem dX2_init_61 : decode cX2_init 61 = .ok (.aload_n 0, 1) := by decide +kernel
theorem dX2_init_62 : decode cX2_init 62 = .ok (.bipush 6, 2) := by decide +kernel
theorem dX2_init_64 : decode cX2_init 64 = .ok (.newarray .int, 2) := by decide +kernel
theorem dX2_init_66 : decode cX2_init 66 = .ok (.putfield 33, 3) := by decide +kernel
theorem dX2_init_69 : decode cX2_init 69 = .ok (.return_, 1) := by decide +kernel
theorem dX2_replay_0 : decode cX2_replay 0 = .ok (.aload_n 0, 1) := by decide +kernel
theorem dX2_replay_1 : decode cX2_replay 1 = .ok (.iconst 0, 1) := by decide +kernel
theorem dX2_replay_2 : decode cX2_replay 2 = .ok (.putfield 36, 3) := by decide +kernel
theorem dX2_replay_5 : decode cX2_replay 5 = .ok (.iconst 0, 1) := by decide +kernel
theorem dX2_replay_6 : decode cX2_replay 6 = .ok (.istore_n 2, 1) := by decide +kernel
theorem dX2_replay_7 : decode cX2_replay 7 = .ok (.iload_n 2, 1) := by decide +kernel
theorem dX2_replay_8 : decode cX2_replay 8 = .ok (.bipush 6, 2) := by decide +kernel
theorem dX2_replay_10 : decode cX2_replay 10 = .ok (.if_icmp .ge 16, 3) := by decide +kernel
theorem dX2_replay_13 : decode cX2_replay 13 = .ok (.aload_n 0, 1) := by decide +kernel
theorem dX2_replay_14 : decode cX2_replay 14 = .ok (.getfield 27, 3) := by decide +kernel
theorem dX2_replay_17 : decode cX2_replay 17 = .ok (.iload_n 2, 1) := by decide +kernel
theorem dX2_replay_18 : decode cX2_replay 18 = .ok (.iconst 0, 1) := by decide +kernel
theorem dX2_replay_19 : decode cX2_replay 19 = .ok (.iastore, 1) := by decide +kernel
theorem dX2_replay_20 : decode cX2_replay 20 = .ok (.iinc 2 1, 3) := by decide +kernel
theorem dX2_replay_23 : decode cX2_replay 23 = .ok (.goto (-16), 3) := by decide +kernel
theorem dX2_replay_26 : decode cX2_replay 26 = .ok (.iconst 0, 1) := by decide +kernel
theorem dX2_replay_27 : decode cX2_replay 27 = .ok (.istore_n 2, 1) := by decide +kernel
theorem dX2_replay_28 : decode cX2_replay 28 = .ok (.iload_n 2, 1) := by decide +kernel
theorem dX2_replay_29 : decode cX2_replay 29 = .ok (.aload_n 0, 1) := by decide +kernel
theorem dX2_replay_30 : decode cX2_replay 30 = .ok (.getfield 30, 3) := by decide +kernel
theorem dX2_replay_33 : decode cX2_replay 33 = .ok (.arraylength, 1) := by decide +kernel
theorem dX2_replay_34 : decode cX2_replay 34 = .ok (.if_icmp .ge 16, 3) := by decide +kernel
theorem dX2_replay_37 : decode cX2_replay 37 = .ok (.aload_n 0, 1) := by decide +kernel
theorem dX2_replay_38 : decode cX2_replay 38 = .ok (.getfield 30, 3) := by decide +kernel
theorem dX2_replay_41 : decode cX2_replay 41 = .ok (.iload_n 2, 1) := by decide +kernel
theorem dX2_replay_42 : decode cX2_replay 42 = .ok (.iconst 0, 1) := by decide +kernel
theorem dX2_replay_43 : decode cX2_replay 43 = .ok (.iastore, 1) := by decide +kernel
theorem dX2_replay_44 : decode cX2_replay 44 = .ok (.iinc 2 1, 3) := by decide +kernel
theorem dX2_replay_47 : decode cX2_replay 47 = .ok (.goto (-19), 3) := by decide +kernel
theorem dX2_replay_50 : decode cX2_replay 50 = .ok (.iconst 0, 1) := by decide +kernel
theorem dX2_replay_51 : decode cX2_replay 51 = .ok (.istore_n 2, 1) := by decide +kernel
theorem dX2_replay_52 : decode cX2_replay 52 = .ok (.iload_n 2, 1) := by decide +kernel
theorem dX2_replay_53 : decode cX2_replay 53 = .ok (.aload_n 1, 1) := by decide +kernel
theorem dX2_replay_54 : decode cX2_replay 54 = .ok (.getfield 40, 3) := by decide +kernel
theorem dX2_replay_57 : decode cX2_replay 57 = .ok (.if_icmp .ge 37, 3) := by decide +kernel
theorem dX2_replay_60 : decode cX2_replay 60 = .ok (.aload_n 0, 1) := by decide +kernel
theorem dX2_replay_61 : decode cX2_replay 61 = .ok (.aload_n 1, 1) := by decide +kernel
theorem dX2_replay_62 : decode cX2_replay 62 = .ok (.getfield 45, 3) := by decide +kernel
theorem dX2_replay_65 : decode cX2_replay 65 = .ok (.iload_n 2, 1) := by decide +kernel
theorem dX2_replay_66 : decode cX2_replay 66 = .ok (.iaload, 1) := by decide +kernel
theorem dX2_replay_67 : decode cX2_replay 67 = .ok (.aload_n 1, 1) := by decide +kernel
theorem dX2_replay_68 : decode cX2_replay 68 = .ok (.getfield 48, 3) := by decide +kernel
theorem dX2_replay_71 : decode cX2_replay 71 = .ok (.iload_n 2, 1) := by decide +kernel
theorem dX2_replay_72 : decode cX2_replay 72 = .ok (.iaload, 1) := by decide +kernel
theorem dX2_replay_73 : decode cX2_replay 73 = .ok (.aload_n 1, 1) := by decide +kernel
theorem dX2_replay_74 : decode cX2_replay 74 = .ok (.getfield 51, 3) := by decide +kernel
theorem dX2_replay_77 : decode cX2_replay 77 = .ok (.iload_n 2, 1) := by decide +kernel
theorem dX2_replay_78 : decode cX2_replay 78 = .ok (.iaload, 1) := by decide +kernel
theorem dX2_replay_79 : decode cX2_replay 79 = .ok (.aload_n 1, 1) := by decide +kernel
theorem dX2_replay_80 : decode cX2_replay 80 = .ok (.getfield 54, 3) := by decide +kernel
theorem dX2_replay_83 : decode cX2_replay 83 = .ok (.iload_n 2, 1) := by decide +kernel
theorem dX2_replay_84 : decode cX2_replay 84 = .ok (.iaload, 1) := by decide +kernel
theorem dX2_replay_85 : decode cX2_replay 85 = .ok (.invokevirtual 55, 3) := by decide +kernel
theorem dX2_replay_88 : decode cX2_replay 88 = .ok (.iinc 2 1, 3) := by decide +kernel
theorem dX2_replay_91 : decode cX2_replay 91 = .ok (.goto (-39), 3) := by decide +kernel
theorem dX2_replay_94 : decode cX2_replay 94 = .ok (.aload_n 0, 1) := by decide +kernel
theorem dX2_replay_95 : decode cX2_replay 95 = .ok (.invokevirtual 59, 3) := by decide +kernel
theorem dX2_replay_98 : decode cX2_replay 98 = .ok (.return_, 1) := by decide +kernel
theorem dX2_apply_0 : decode cX2_apply 0 = .ok (.iload_n 1, 1) := by decide +kernel
theorem dX2_apply_1 : decode cX2_apply 1 = .ok (.tableswitch 134 1 6 #[39, 53, 81, 91, 101, 111], 39) := by decide +kernel
theorem dX2_apply_40 : decode cX2_apply 40 = .ok (.aload_n 0, 1) := by decide +kernel
theorem dX2_apply_41 : decode cX2_apply 41 = .ok (.iload_n 2, 1) := by decide +kernel
theorem dX2_apply_42 : decode cX2_apply 42 = .ok (.aload_n 0, 1) := by decide +kernel
theorem dX2_apply_43 : decode cX2_apply 43 = .ok (.iload_n 2, 1) := by decide +kernel
theorem dX2_apply_44 : decode cX2_apply 44 = .ok (.invokevirtual 62, 3) := by decide +kernel
theorem dX2_apply_47 : decode cX2_apply 47 = .ok (.iload_n 3, 1) := by decide +kernel
theorem dX2_apply_48 : decode cX2_apply 48 = .ok (.invokevirtual 66, 3) := by decide +kernel
theorem dX2_apply_51 : decode cX2_apply 51 = .ok (.goto 92, 3) := by decide +kernel
theorem dX2_apply_54 : decode cX2_apply 54 = .ok (.aload_n 0, 1) := by decide +kernel
theorem dX2_apply_55 : decode cX2_apply 55 = .ok (.iload_n 2, 1) := by decide +kernel
theorem dX2_apply_56 : decode cX2_apply 56 = .ok (.invokevirtual 70, 3) := by decide +kernel
theorem dX2_apply_59 : decode cX2_apply 59 = .ok (.ifCond .eq 84, 3) := by decide +kernel
theorem dX2_apply_62 : decode cX2_apply 62 = .ok (.aload_n 0, 1) := by decide +kernel
theorem dX2_apply_63 : decode cX2_apply 63 = .ok (.aload_n 0, 1) := by decide +kernel
theorem dX2_apply_64 : decode cX2_apply 64 = .ok (.getfield 9, 3) := by decide +kernel
theorem dX2_apply_67 : decode cX2_apply 67 = .ok (.iload_n 2, 1) := by decide +kernel
theorem dX2_apply_68 : decode cX2_apply 68 = .ok (.iaload, 1) := by decide +kernel
theorem dX2_apply_69 : decode cX2_apply 69 = .ok (.aload_n 0, 1) := by decide +kernel
theorem dX2_apply_70 : decode cX2_apply 70 = .ok (.getfield 15, 3) := by decide +kernel
theorem dX2_apply_73 : decode cX2_apply 73 = .ok (.iload_n 2, 1) := by decide +kernel
theorem dX2_apply_74 : decode cX2_apply 74 = .ok (.iaload, 1) := by decide +kernel
theorem dX2_apply_75 : decode cX2_apply 75 = .ok (.iload_n 3, 1) := by decide +kernel
theorem dX2_apply_76 : decode cX2_apply 76 = .ok (.invokevirtual 66, 3) := by decide +kernel
theorem dX2_apply_79 : decode cX2_apply 79 = .ok (.goto 64, 3) := by decide +kernel
theorem dX2_apply_82 : decode cX2_apply 82 = .ok (.aload_n 0, 1) := by decide +kernel
theorem dX2_apply_83 : decode cX2_apply 83 = .ok (.iload_n 2, 1) := by decide +kernel
theorem dX2_apply_84 : decode cX2_apply 84 = .ok (.iconst 0, 1) := by decide +kernel
theorem dX2_apply_85 : decode cX2_apply 85 = .ok (.iload_n 3, 1) := by decide +kernel
theorem dX2_apply_86 : decode cX2_apply 86 = .ok (.invokevirtual 74, 3) := by decide +kernel
theorem dX2_apply_89 : decode cX2_apply 89 = .ok (.goto 54, 3) := by decide +kernel
theorem dX2_apply_92 : decode cX2_apply 92 = .ok (.aload_n 0, 1) := by decide +kernel
theorem dX2_apply_93 : decode cX2_apply 93 = .ok (.iload_n 2, 1) := by decide +kernel
theorem dX2_apply_94 : decode cX2_apply 94 = .ok (.iconst 1, 1) := by decide +kernel
theorem dX2_apply_95 : decode cX2_apply 95 = .ok (.iload_n 3, 1) := by decide +kernel
theorem dX2_apply_96 : decode cX2_apply 96 = .ok (.invokevirtual 74, 3) := by decide +kernel
theorem dX2_apply_99 : decode cX2_apply 99 = .ok (.goto 44, 3) := by decide +kernel
theorem dX2_apply_102 : decode cX2_apply 102 = .ok (.aload_n 0, 1) := by decide +kernel
theorem dX2_apply_103 : decode cX2_apply 103 = .ok (.iload_n 2, 1) := by decide +kernel
theorem dX2_apply_104 : decode cX2_apply 104 = .ok (.iconst 2, 1) := by decide +kernel
theorem dX2_apply_105 : decode cX2_apply 105 = .ok (.iload_n 3, 1) := by decide +kernel
theorem dX2_apply_106 : decode cX2_apply 106 = .ok (.invokevirtual 74, 3) := by decide +kernel
theorem dX2_apply_109 : decode cX2_apply 109 = .ok (.goto 34, 3) := by decide +kernel
theorem dX2_apply_112 : decode cX2_apply 112 = .ok (.iload_n 2, 1) := by decide +kernel
theorem dX2_apply_113 : decode cX2_apply 113 = .ok (.ifCond .lt 30, 3) := by decide +kernel
theorem dX2_apply_116 : decode cX2_apply 116 = .ok (.iload_n 2, 1) := by decide +kernel
theorem dX2_apply_117 : decode cX2_apply 117 = .ok (.bipush 6, 2) := by decide +kernel
theorem dX2_apply_119 : decode cX2_apply 119 = .ok (.if_icmp .ge 24, 3) := by decide +kernel
theorem dX2_apply_122 : decode cX2_apply 122 = .ok (.aload_n 0, 1) := by decide +kernel
theorem dX2_apply_123 : decode cX2_apply 123 = .ok (.getfield 27, 3) := by decide +kernel
theorem dX2_apply_126 : decode cX2_apply 126 = .ok (.iload_n 2, 1) := by decide +kernel
theorem dX2_apply_127 : decode cX2_apply 127 = .ok (.dup2, 1) := by decide +kernel
theorem dX2_apply_128 : decode cX2_apply 128 = .ok (.iaload, 1) := by decide +kernel
theorem dX2_apply_129 : decode cX2_apply 129 = .ok (.iconst 1, 1) := by decide +kernel
theorem dX2_apply_130 : decode cX2_apply 130 = .ok (.iadd, 1) := by decide +kernel
theorem dX2_apply_131 : decode cX2_apply 131 = .ok (.iastore, 1) := by decide +kernel
theorem dX2_apply_132 : decode cX2_apply 132 = .ok (.goto 11, 3) := by decide +kernel
theorem dX2_apply_135 : decode cX2_apply 135 = .ok (.aload_n 0, 1) := by decide +kernel
theorem dX2_apply_136 : decode cX2_apply 136 = .ok (.iload_n 2, 1) := by decide +kernel
theorem dX2_apply_137 : decode cX2_apply 137 = .ok (.iload_n 3, 1) := by decide +kernel
theorem dX2_apply_138 : decode cX2_apply 138 = .ok (.iload 4, 2) := by decide +kernel
theorem dX2_apply_140 : decode cX2_apply 140 = .ok (.invokevirtual 77, 3) := by decide +kernel
theorem dX2_apply_143 : decode cX2_apply 143 = .ok (.return_, 1) := by decide +kernel
theorem dX2_addKey_0 : decode cX2_addKey 0 = .ok (.aload_n 0, 1) := by decide +kernel
theorem dX2_addKey_1 : decode cX2_addKey 1 = .ok (.getfield 36, 3) := by decide +kernel
theorem dX2_addKey_4 : decode cX2_addKey 4 = .ok (.bipush 24, 2) := by decide +kernel
theorem dX2_addKey_6 : decode cX2_addKey 6 = .ok (.if_icmp .ge 55, 3) := by decide +kernel
theorem dX2_addKey_9 : decode cX2_addKey 9 = .ok (.aload_n 0, 1) := by decide +kernel
theorem dX2_addKey_10 : decode cX2_addKey 10 = .ok (.getfield 9, 3) := by decide +kernel
theorem dX2_addKey_13 : decode cX2_addKey 13 = .ok (.aload_n 0, 1) := by decide +kernel
theorem dX2_addKey_14 : decode cX2_addKey 14 = .ok (.getfield 36, 3) := by decide +kernel
theorem dX2_addKey_17 : decode cX2_addKey 17 = .ok (.iload_n 1, 1) := by decide +kernel
theorem dX2_addKey_18 : decode cX2_addKey 18 = .ok (.iastore, 1) := by decide +kernel
theorem dX2_addKey_19 : decode cX2_addKey 19 = .ok (.aload_n 0, 1) := by decide +kernel
theorem dX2_addKey_20 : decode cX2_addKey 20 = .ok (.getfield 15, 3) := by decide +kernel
theorem dX2_addKey_23 : decode cX2_addKey 23 = .ok (.aload_n 0, 1) := by decide +kernel
theorem dX2_addKey_24 : decode cX2_addKey 24 = .ok (.getfield 36, 3) := by decide +kernel
theorem dX2_addKey_27 : decode cX2_addKey 27 = .ok (.iload_n 2, 1) := by decide +kernel
theorem dX2_addKey_28 : decode cX2_addKey 28 = .ok (.iastore, 1) := by decide +kernel
theorem dX2_addKey_29 : decode cX2_addKey 29 = .ok (.aload_n 0, 1) := by decide +kernel
theorem dX2_addKey_30 : decode cX2_addKey 30 = .ok (.getfield 24, 3) := by decide +kernel
theorem dX2_addKey_33 : decode cX2_addKey 33 = .ok (.aload_n 0, 1) := by decide +kernel
theorem dX2_addKey_34 : decode cX2_addKey 34 = .ok (.getfield 36, 3) := by decide +kernel
theorem dX2_addKey_37 : decode cX2_addKey 37 = .ok (.iconst 0, 1) := by decide +kernel
theorem dX2_addKey_38 : decode cX2_addKey 38 = .ok (.iastore, 1) := by decide +kernel
theorem dX2_addKey_39 : decode cX2_addKey 39 = .ok (.aload_n 0, 1) := by decide +kernel
theorem dX2_addKey_40 : decode cX2_addKey 40 = .ok (.dup, 1) := by decide +kernel
theorem dX2_addKey_41 : decode cX2_addKey 41 = .ok (.getfield 36, 3) := by decide +kernel
theorem dX2_addKey_44 : decode cX2_addKey 44 = .ok (.iconst 1, 1) := by decide +kernel
theorem dX2_addKey_45 : decode cX2_addKey 45 = .ok (.iadd, 1) := by decide +kernel
theorem dX2_addKey_46 : decode cX2_addKey 46 = .ok (.putfield 36, 3) := by decide +kernel
theorem dX2_addKey_49 : decode cX2_addKey 49 = .ok (.aload_n 0, 1) := by decide +kernel
theorem dX2_addKey_50 : decode cX2_addKey 50 = .ok (.aload_n 0, 1) := by decide +kernel
theorem dX2_addKey_51 : decode cX2_addKey 51 = .ok (.getfield 36, 3) := by decide +kernel
theorem dX2_addKey_54 : decode cX2_addKey 54 = .ok (.iconst 1, 1) := by decide +kernel
theorem dX2_addKey_55 : decode cX2_addKey 55 = .ok (.isub, 1) := by decide +kernel
theorem dX2_addKey_56 : decode cX2_addKey 56 = .ok (.iconst 0, 1) := by decide +kernel
theorem dX2_addKey_57 : decode cX2_addKey 57 = .ok (.iload_n 3, 1) := by decide +kernel
theorem dX2_addKey_58 : decode cX2_addKey 58 = .ok (.invokevirtual 74, 3) := by decide +kernel
theorem dX2_addKey_61 : decode cX2_addKey 61 = .ok (.return_, 1) := by decide +kernel
theorem dX2_bring_0 : decode cX2_bring 0 = .ok (.aload_n 0, 1) := by decide +kernel
theorem dX2_bring_1 : decode cX2_bring 1 = .ok (.iload_n 1, 1) := by decide +kernel
theorem dX2_bring_2 : decode cX2_bring 2 = .ok (.invokevirtual 70, 3) := by decide +kernel
theorem dX2_bring_5 : decode cX2_bring 5 = .ok (.ifCond .eq 33, 3) := by decide +kernel
theorem dX2_bring_8 : decode cX2_bring 8 = .ok (.aload_n 0, 1) := by decide +kernel
theorem dX2_bring_9 : decode cX2_bring 9 = .ok (.getfield 18, 3) := by decide +kernel
theorem dX2_bring_12 : decode cX2_bring 12 = .ok (.iload_n 1, 1) := by decide +kernel
theorem dX2_bring_13 : decode cX2_bring 13 = .ok (.iload_n 2, 1) := by decide +kernel
theorem dX2_bring_14 : decode cX2_bring 14 = .ok (.iastore, 1) := by decide +kernel
theorem dX2_bring_15 : decode cX2_bring 15 = .ok (.aload_n 0, 1) := by decide +kernel
theorem dX2_bring_16 : decode cX2_bring 16 = .ok (.getfield 21, 3) := by decide +kernel
theorem dX2_bring_19 : decode cX2_bring 19 = .ok (.iload_n 1, 1) := by decide +kernel
theorem dX2_bring_20 : decode cX2_bring 20 = .ok (.iload_n 3, 1) := by decide +kernel
theorem dX2_bring_21 : decode cX2_bring 21 = .ok (.iastore, 1) := by decide +kernel
theorem dX2_bring_22 : decode cX2_bring 22 = .ok (.iload_n 2, 1) := by decide +kernel
theorem dX2_bring_23 : decode cX2_bring 23 = .ok (.ifCond .ne 15, 3) := by decide +kernel
theorem dX2_bring_26 : decode cX2_bring 26 = .ok (.aload_n 0, 1) := by decide +kernel
theorem dX2_bring_27 : decode cX2_bring 27 = .ok (.getfield 24, 3) := by decide +kernel
theorem dX2_bring_30 : decode cX2_bring 30 = .ok (.iload_n 1, 1) := by decide +kernel
theorem dX2_bring_31 : decode cX2_bring 31 = .ok (.dup2, 1) := by decide +kernel
theorem dX2_bring_32 : decode cX2_bring 32 = .ok (.iaload, 1) := by decide +kernel
theorem dX2_bring_33 : decode cX2_bring 33 = .ok (.iconst 1, 1) := by decide +kernel
theorem dX2_bring_34 : decode cX2_bring 34 = .ok (.iload_n 3, 1) := by decide +kernel
theorem dX2_bring_35 : decode cX2_bring 35 = .ok (.ishl, 1) := by decide +kernel
theorem dX2_bring_36 : decode cX2_bring 36 = .ok (.ior, 1) := by decide +kernel
theorem dX2_bring_37 : decode cX2_bring 37 = .ok (.iastore, 1) := by decide +kernel
theorem dX2_bring_38 : decode cX2_bring 38 = .ok (.return_, 1) := by decide +kernel
theorem dX2_changeTrust_0 : decode cX2_changeTrust 0 = .ok (.iload_n 1, 1) := by decide +kernel
theorem dX2_changeTrust_1 : decode cX2_changeTrust 1 = .ok (.iload_n 2, 1) := by decide +kernel
theorem dX2_changeTrust_2 : decode cX2_changeTrust 2 = .ok (.invokestatic 80, 3) := by decide +kernel
theorem dX2_changeTrust_5 : decode cX2_changeTrust 5 = .ok (.ifCond .eq 35, 3) := by decide +kernel
theorem dX2_changeTrust_8 : decode cX2_changeTrust 8 = .ok (.aload_n 0, 1) := by decide +kernel
theorem dX2_changeTrust_9 : decode cX2_changeTrust 9 = .ok (.iload_n 1, 1) := by decide +kernel
theorem dX2_changeTrust_10 : decode cX2_changeTrust 10 = .ok (.iload_n 2, 1) := by decide +kernel
theorem dX2_changeTrust_11 : decode cX2_changeTrust 11 = .ok (.invokevirtual 84, 3) := by decide +kernel
theorem dX2_changeTrust_14 : decode cX2_changeTrust 14 = .ok (.iload_n 3, 1) := by decide +kernel
theorem dX2_changeTrust_15 : decode cX2_changeTrust 15 = .ok (.iadd, 1) := by decide +kernel
theorem dX2_changeTrust_16 : decode cX2_changeTrust 16 = .ok (.istore 4, 2) := by decide +kernel
theorem dX2_changeTrust_18 : decode cX2_changeTrust 18 = .ok (.aload_n 0, 1) := by decide +kernel
theorem dX2_changeTrust_19 : decode cX2_changeTrust 19 = .ok (.getfield 30, 3) := by decide +kernel
theorem dX2_changeTrust_22 : decode cX2_changeTrust 22 = .ok (.iload_n 1, 1) := by decide +kernel
theorem dX2_changeTrust_23 : decode cX2_changeTrust 23 = .ok (.bipush 12, 2) := by decide +kernel
theorem dX2_changeTrust_25 : decode cX2_changeTrust 25 = .ok (.imul, 1) := by decide +kernel
theorem dX2_changeTrust_26 : decode cX2_changeTrust 26 = .ok (.iload_n 2, 1) := by decide +kernel
theorem dX2_changeTrust_27 : decode cX2_changeTrust 27 = .ok (.iadd, 1) := by decide +kernel
theorem dX2_changeTrust_28 : decode cX2_changeTrust 28 = .ok (.bipush (-3), 2) := by decide +kernel
theorem dX2_changeTrust_30 : decode cX2_changeTrust 30 = .ok (.iconst 3, 1) := by decide +kernel
theorem dX2_changeTrust_31 : decode cX2_changeTrust 31 = .ok (.iload 4, 2) := by decide +kernel
theorem dX2_changeTrust_33 : decode cX2_changeTrust 33 = .ok (.invokestatic 88, 3) := by decide +kernel
theorem dX2_changeTrust_36 : decode cX2_changeTrust 36 = .ok (.invokestatic 93, 3) := by decide +kernel
theorem dX2_changeTrust_39 : decode cX2_changeTrust 39 = .ok (.iastore, 1) := by decide +kernel
theorem dX2_changeTrust_40 : decode cX2_changeTrust 40 = .ok (.return_, 1) := by decide +kernel
theorem dX2_settleReach_0 : decode cX2_settleReach 0 = .ok (.iconst 0, 1) := by decide +kernel
theorem dX2_settleReach_1 : decode cX2_settleReach 1 = .ok (.istore_n 1, 1) := by decide +kernel
theorem dX2_settleReach_2 : decode cX2_settleReach 2 = .ok (.iload_n 1, 1) := by decide +kernel
theorem dX2_settleReach_3 : decode cX2_settleReach 3 = .ok (.bipush 6, 2) := by decide +kernel
theorem dX2_settleReach_5 : decode cX2_settleReach 5 = .ok (.if_icmp .ge 25, 3) := by decide +kernel
theorem dX2_settleReach_8 : decode cX2_settleReach 8 = .ok (.aload_n 0, 1) := by decide +kernel
theorem dX2_settleReach_9 : decode cX2_settleReach 9 = .ok (.getfield 33, 3) := by decide +kernel
theorem dX2_settleReach_12 : decode cX2_settleReach 12 = .ok (.iload_n 1, 1) := by decide +kernel
theorem dX2_settleReach_13 : decode cX2_settleReach 13 = .ok (.iconst 1, 1) := by decide +kernel
theorem dX2_settleReach_14 : decode cX2_settleReach 14 = .ok (.iload_n 1, 1) := by decide +kernel
theorem dX2_settleReach_15 : decode cX2_settleReach 15 = .ok (.ishl, 1) := by decide +kernel
theorem dX2_settleReach_16 : decode cX2_settleReach 16 = .ok (.aload_n 0, 1) := by decide +kernel
theorem dX2_settleReach_17 : decode cX2_settleReach 17 = .ok (.iconst 2, 1) := by decide +kernel
theorem dX2_settleReach_18 : decode cX2_settleReach 18 = .ok (.iload_n 1, 1) := by decide +kernel
theorem dX2_settleReach_19 : decode cX2_settleReach 19 = .ok (.invokevirtual 96, 3) := by decide +kernel
theorem dX2_settleReach_22 : decode cX2_settleReach 22 = .ok (.ior, 1) := by decide +kernel
theorem dX2_settleReach_23 : decode cX2_settleReach 23 = .ok (.iastore, 1) := by decide +kernel
theorem dX2_settleReach_24 : decode cX2_settleReach 24 = .ok (.iinc 1 1, 3) := by decide +kernel
theorem dX2_settleReach_27 : decode cX2_settleReach 27 = .ok (.goto (-25), 3) := by decide +kernel
theorem dX2_settleReach_30 : decode cX2_settleReach 30 = .ok (.iconst 0, 1) := by decide +kernel
theorem dX2_settleReach_31 : decode cX2_settleReach 31 = .ok (.istore_n 1, 1) := by decide +kernel
theorem dX2_settleReach_32 : decode cX2_settleReach 32 = .ok (.iload_n 1, 1) := by decide +kernel
theorem dX2_settleReach_33 : decode cX2_settleReach 33 = .ok (.bipush 6, 2) := by decide +kernel
theorem dX2_settleReach_35 : decode cX2_settleReach 35 = .ok (.if_icmp .ge 51, 3) := by decide +kernel
theorem dX2_settleReach_38 : decode cX2_settleReach 38 = .ok (.iconst 0, 1) := by decide +kernel
theorem dX2_settleReach_39 : decode cX2_settleReach 39 = .ok (.istore_n 2, 1) := by decide +kernel
theorem dX2_settleReach_40 : decode cX2_settleReach 40 = .ok (.iload_n 2, 1) := by decide +kernel
theorem dX2_settleReach_41 : decode cX2_settleReach 41 = .ok (.bipush 6, 2) := by decide +kernel
theorem dX2_settleReach_43 : decode cX2_settleReach 43 = .ok (.if_icmp .ge 37, 3) := by decide +kernel
theorem dX2_settleReach_46 : decode cX2_settleReach 46 = .ok (.aload_n 0, 1) := by decide +kernel
theorem dX2_settleReach_47 : decode cX2_settleReach 47 = .ok (.getfield 33, 3) := by decide +kernel
theorem dX2_settleReach_50 : decode cX2_settleReach 50 = .ok (.iload_n 2, 1) := by decide +kernel
theorem dX2_settleReach_51 : decode cX2_settleReach 51 = .ok (.iaload, 1) := by decide +kernel
theorem dX2_settleReach_52 : decode cX2_settleReach 52 = .ok (.iload_n 1, 1) := by decide +kernel
theorem dX2_settleReach_53 : decode cX2_settleReach 53 = .ok (.invokestatic 99, 3) := by decide +kernel
theorem dX2_settleReach_56 : decode cX2_settleReach 56 = .ok (.ifCond .eq 18, 3) := by decide +kernel
theorem dX2_settleReach_59 : decode cX2_settleReach 59 = .ok (.aload_n 0, 1) := by decide +kernel
theorem dX2_settleReach_60 : decode cX2_settleReach 60 = .ok (.getfield 33, 3) := by decide +kernel
theorem dX2_settleReach_63 : decode cX2_settleReach 63 = .ok (.iload_n 2, 1) := by decide +kernel
theorem dX2_settleReach_64 : decode cX2_settleReach 64 = .ok (.dup2, 1) := by decide +kernel
theorem dX2_settleReach_65 : decode cX2_settleReach 65 = .ok (.iaload, 1) := by decide +kernel
theorem dX2_settleReach_66 : decode cX2_settleReach 66 = .ok (.aload_n 0, 1) := by decide +kernel
theorem dX2_settleReach_67 : decode cX2_settleReach 67 = .ok (.getfield 33, 3) := by decide +kernel
theorem dX2_settleReach_70 : decode cX2_settleReach 70 = .ok (.iload_n 1, 1) := by decide +kernel
theorem dX2_settleReach_71 : decode cX2_settleReach 71 = .ok (.iaload, 1) := by decide +kernel
theorem dX2_settleReach_72 : decode cX2_settleReach 72 = .ok (.ior, 1) := by decide +kernel
theorem dX2_settleReach_73 : decode cX2_settleReach 73 = .ok (.iastore, 1) := by decide +kernel
theorem dX2_settleReach_74 : decode cX2_settleReach 74 = .ok (.iinc 2 1, 3) := by decide +kernel
theorem dX2_settleReach_77 : decode cX2_settleReach 77 = .ok (.goto (-37), 3) := by decide +kernel
theorem dX2_settleReach_80 : decode cX2_settleReach 80 = .ok (.iinc 1 1, 3) := by decide +kernel
theorem dX2_settleReach_83 : decode cX2_settleReach 83 = .ok (.goto (-51), 3) := by decide +kernel
theorem dX2_settleReach_86 : decode cX2_settleReach 86 = .ok (.return_, 1) := by decide +kernel
theorem dX2_isKey_0 : decode cX2_isKey 0 = .ok (.iload_n 1, 1) := by decide +kernel
theorem dX2_isKey_1 : decode cX2_isKey 1 = .ok (.ifCond .lt 15, 3) := by decide +kernel
theorem dX2_isKey_4 : decode cX2_isKey 4 = .ok (.iload_n 1, 1) := by decide +kernel
theorem dX2_isKey_5 : decode cX2_isKey 5 = .ok (.aload_n 0, 1) := by decide +kernel
theorem dX2_isKey_6 : decode cX2_isKey 6 = .ok (.getfield 36, 3) := by decide +kernel
theorem dX2_isKey_9 : decode cX2_isKey 9 = .ok (.if_icmp .ge 7, 3) := by decide +kernel
theorem dX2_isKey_12 : decode cX2_isKey 12 = .ok (.iconst 1, 1) := by decide +kernel
theorem dX2_isKey_13 : decode cX2_isKey 13 = .ok (.goto 4, 3) := by decide +kernel
theorem dX2_isKey_16 : decode cX2_isKey 16 = .ok (.iconst 0, 1) := by decide +kernel
theorem dX2_isKey_17 : decode cX2_isKey 17 = .ok (.ireturn, 1) := by decide +kernel
theorem dX2_arePersons_0 : decode cX2_arePersons 0 = .ok (.iload_n 0, 1) := by decide +kernel
theorem dX2_arePersons_1 : decode cX2_arePersons 1 = .ok (.ifCond .lt 23, 3) := by decide +kernel
theorem dX2_arePersons_4 : decode cX2_arePersons 4 = .ok (.iload_n 0, 1) := by decide +kernel
theorem dX2_arePersons_5 : decode cX2_arePersons 5 = .ok (.bipush 12, 2) := by decide +kernel
theorem dX2_arePersons_7 : decode cX2_arePersons 7 = .ok (.if_icmp .ge 17, 3) := by decide +kernel
theorem dX2_arePersons_10 : decode cX2_arePersons 10 = .ok (.iload_n 1, 1) := by decide +kernel
theorem dX2_arePersons_11 : decode cX2_arePersons 11 = .ok (.ifCond .lt 13, 3) := by decide +kernel
theorem dX2_arePersons_14 : decode cX2_arePersons 14 = .ok (.iload_n 1, 1) := by decide +kernel
theorem dX2_arePersons_15 : decode cX2_arePersons 15 = .ok (.bipush 12, 2) := by decide +kernel
theorem dX2_arePersons_17 : decode cX2_arePersons 17 = .ok (.if_icmp .ge 7, 3) := by decide +kernel
theorem dX2_arePersons_20 : decode cX2_arePersons 20 = .ok (.iconst 1, 1) := by decide +kernel
theorem dX2_arePersons_21 : decode cX2_arePersons 21 = .ok (.goto 4, 3) := by decide +kernel
theorem dX2_arePersons_24 : decode cX2_arePersons 24 = .ok (.iconst 0, 1) := by decide +kernel
theorem dX2_arePersons_25 : decode cX2_arePersons 25 = .ok (.ireturn, 1) := by decide +kernel
theorem dX2_trustOf_0 : decode cX2_trustOf 0 = .ok (.iload_n 1, 1) := by decide +kernel
theorem dX2_trustOf_1 : decode cX2_trustOf 1 = .ok (.iload_n 2, 1) := by decide +kernel
theorem dX2_trustOf_2 : decode cX2_trustOf 2 = .ok (.invokestatic 80, 3) := by decide +kernel
theorem dX2_trustOf_5 : decode cX2_trustOf 5 = .ok (.ifCond .eq 17, 3) := by decide +kernel
theorem dX2_trustOf_8 : decode cX2_trustOf 8 = .ok (.aload_n 0, 1) := by decide +kernel
theorem dX2_trustOf_9 : decode cX2_trustOf 9 = .ok (.getfield 30, 3) := by decide +kernel
theorem dX2_trustOf_12 : decode cX2_trustOf 12 = .ok (.iload_n 1, 1) := by decide +kernel
theorem dX2_trustOf_13 : decode cX2_trustOf 13 = .ok (.bipush 12, 2) := by decide +kernel
theorem dX2_trustOf_15 : decode cX2_trustOf 15 = .ok (.imul, 1) := by decide +kernel
theorem dX2_trustOf_16 : decode cX2_trustOf 16 = .ok (.iload_n 2, 1) := by decide +kernel
theorem dX2_trustOf_17 : decode cX2_trustOf 17 = .ok (.iadd, 1) := by decide +kernel
theorem dX2_trustOf_18 : decode cX2_trustOf 18 = .ok (.iaload, 1) := by decide +kernel
theorem dX2_trustOf_19 : decode cX2_trustOf 19 = .ok (.goto 4, 3) := by decide +kernel
theorem dX2_trustOf_22 : decode cX2_trustOf 22 = .ok (.iconst 0, 1) := by decide +kernel
theorem dX2_trustOf_23 : decode cX2_trustOf 23 = .ok (.ireturn, 1) := by decide +kernel
theorem dX2_changesOf_0 : decode cX2_changesOf 0 = .ok (.iload_n 1, 1) := by decide +kernel
theorem dX2_changesOf_1 : decode cX2_changesOf 1 = .ok (.ifCond .lt 18, 3) := by decide +kernel
theorem dX2_changesOf_4 : decode cX2_changesOf 4 = .ok (.iload_n 1, 1) := by decide +kernel
theorem dX2_changesOf_5 : decode cX2_changesOf 5 = .ok (.bipush 6, 2) := by decide +kernel
theorem dX2_changesOf_7 : decode cX2_changesOf 7 = .ok (.if_icmp .ge 12, 3) := by decide +kernel
theorem dX2_changesOf_10 : decode cX2_changesOf 10 = .ok (.aload_n 0, 1) := by decide +kernel
theorem dX2_changesOf_11 : decode cX2_changesOf 11 = .ok (.getfield 27, 3) := by decide +kernel
theorem dX2_changesOf_14 : decode cX2_changesOf 14 = .ok (.iload_n 1, 1) := by decide +kernel
theorem dX2_changesOf_15 : decode cX2_changesOf 15 = .ok (.iaload, 1) := by decide +kernel
theorem dX2_changesOf_16 : decode cX2_changesOf 16 = .ok (.goto 4, 3) := by decide +kernel
theorem dX2_changesOf_19 : decode cX2_changesOf 19 = .ok (.iconst 0, 1) := by decide +kernel
theorem dX2_changesOf_20 : decode cX2_changesOf 20 = .ok (.ireturn, 1) := by decide +kernel
theorem dX2_isLive_0 : decode cX2_isLive 0 = .ok (.aload_n 0, 1) := by decide +kernel
theorem dX2_isLive_1 : decode cX2_isLive 1 = .ok (.iload_n 1, 1) := by decide +kernel
theorem dX2_isLive_2 : decode cX2_isLive 2 = .ok (.invokevirtual 70, 3) := by decide +kernel
theorem dX2_isLive_5 : decode cX2_isLive 5 = .ok (.ifCond .eq 26, 3) := by decide +kernel
theorem dX2_isLive_8 : decode cX2_isLive 8 = .ok (.aload_n 0, 1) := by decide +kernel
theorem dX2_isLive_9 : decode cX2_isLive 9 = .ok (.getfield 15, 3) := by decide +kernel
theorem dX2_isLive_12 : decode cX2_isLive 12 = .ok (.iload_n 1, 1) := by decide +kernel
theorem dX2_isLive_13 : decode cX2_isLive 13 = .ok (.iaload, 1) := by decide +kernel
theorem dX2_isLive_14 : decode cX2_isLive 14 = .ok (.aload_n 0, 1) := by decide +kernel
theorem dX2_isLive_15 : decode cX2_isLive 15 = .ok (.aload_n 0, 1) := by decide +kernel
theorem dX2_isLive_16 : decode cX2_isLive 16 = .ok (.getfield 9, 3) := by decide +kernel
theorem dX2_isLive_19 : decode cX2_isLive 19 = .ok (.iload_n 1, 1) := by decide +kernel
theorem dX2_isLive_20 : decode cX2_isLive 20 = .ok (.iaload, 1) := by decide +kernel
theorem dX2_isLive_21 : decode cX2_isLive 21 = .ok (.invokevirtual 62, 3) := by decide +kernel
theorem dX2_isLive_24 : decode cX2_isLive 24 = .ok (.if_icmp .ne 7, 3) := by decide +kernel
theorem dX2_isLive_27 : decode cX2_isLive 27 = .ok (.iconst 1, 1) := by decide +kernel
theorem dX2_isLive_28 : decode cX2_isLive 28 = .ok (.goto 4, 3) := by decide +kernel
theorem dX2_isLive_31 : decode cX2_isLive 31 = .ok (.iconst 0, 1) := by decide +kernel
theorem dX2_isLive_32 : decode cX2_isLive 32 = .ok (.ireturn, 1) := by decide +kernel
theorem dX2_liveKeys_0 : decode cX2_liveKeys 0 = .ok (.iconst 0, 1) := by decide +kernel
theorem dX2_liveKeys_1 : decode cX2_liveKeys 1 = .ok (.istore_n 1, 1) := by decide +kernel
theorem dX2_liveKeys_2 : decode cX2_liveKeys 2 = .ok (.iconst 0, 1) := by decide +kernel
theorem dX2_liveKeys_3 : decode cX2_liveKeys 3 = .ok (.istore_n 2, 1) := by decide +kernel
theorem dX2_liveKeys_4 : decode cX2_liveKeys 4 = .ok (.iload_n 2, 1) := by decide +kernel
theorem dX2_liveKeys_5 : decode cX2_liveKeys 5 = .ok (.aload_n 0, 1) := by decide +kernel
theorem dX2_liveKeys_6 : decode cX2_liveKeys 6 = .ok (.getfield 36, 3) := by decide +kernel
theorem dX2_liveKeys_9 : decode cX2_liveKeys 9 = .ok (.if_icmp .ge 25, 3) := by decide +kernel
theorem dX2_liveKeys_12 : decode cX2_liveKeys 12 = .ok (.iload_n 1, 1) := by decide +kernel
theorem dX2_liveKeys_13 : decode cX2_liveKeys 13 = .ok (.aload_n 0, 1) := by decide +kernel
theorem dX2_liveKeys_14 : decode cX2_liveKeys 14 = .ok (.iload_n 2, 1) := by decide +kernel
theorem dX2_liveKeys_15 : decode cX2_liveKeys 15 = .ok (.invokevirtual 102, 3) := by decide +kernel
theorem dX2_liveKeys_18 : decode cX2_liveKeys 18 = .ok (.ifCond .eq 7, 3) := by decide +kernel
theorem dX2_liveKeys_21 : decode cX2_liveKeys 21 = .ok (.iconst 1, 1) := by decide +kernel
theorem dX2_liveKeys_22 : decode cX2_liveKeys 22 = .ok (.goto 4, 3) := by decide +kernel
theorem dX2_liveKeys_25 : decode cX2_liveKeys 25 = .ok (.iconst 0, 1) := by decide +kernel
theorem dX2_liveKeys_26 : decode cX2_liveKeys 26 = .ok (.iadd, 1) := by decide +kernel
theorem dX2_liveKeys_27 : decode cX2_liveKeys 27 = .ok (.istore_n 1, 1) := by decide +kernel
theorem dX2_liveKeys_28 : decode cX2_liveKeys 28 = .ok (.iinc 2 1, 3) := by decide +kernel
theorem dX2_liveKeys_31 : decode cX2_liveKeys 31 = .ok (.goto (-27), 3) := by decide +kernel
theorem dX2_liveKeys_34 : decode cX2_liveKeys 34 = .ok (.iload_n 1, 1) := by decide +kernel
theorem dX2_liveKeys_35 : decode cX2_liveKeys 35 = .ok (.ireturn, 1) := by decide +kernel
theorem dX2_liveKeysOf_0 : decode cX2_liveKeysOf 0 = .ok (.iconst 0, 1) := by decide +kernel
theorem dX2_liveKeysOf_1 : decode cX2_liveKeysOf 1 = .ok (.istore_n 2, 1) := by decide +kernel
theorem dX2_liveKeysOf_2 : decode cX2_liveKeysOf 2 = .ok (.iconst 0, 1) := by decide +kernel
theorem dX2_liveKeysOf_3 : decode cX2_liveKeysOf 3 = .ok (.istore_n 3, 1) := by decide +kernel
theorem dX2_liveKeysOf_4 : decode cX2_liveKeysOf 4 = .ok (.iload_n 3, 1) := by decide +kernel
theorem dX2_liveKeysOf_5 : decode cX2_liveKeysOf 5 = .ok (.aload_n 0, 1) := by decide +kernel
theorem dX2_liveKeysOf_6 : decode cX2_liveKeysOf 6 = .ok (.getfield 36, 3) := by decide +kernel
theorem dX2_liveKeysOf_9 : decode cX2_liveKeysOf 9 = .ok (.if_icmp .ge 37, 3) := by decide +kernel
theorem dX2_liveKeysOf_12 : decode cX2_liveKeysOf 12 = .ok (.iload_n 2, 1) := by decide +kernel
theorem dX2_liveKeysOf_13 : decode cX2_liveKeysOf 13 = .ok (.aload_n 0, 1) := by decide +kernel
theorem dX2_liveKeysOf_14 : decode cX2_liveKeysOf 14 = .ok (.getfield 9, 3) := by decide +kernel
theorem dX2_liveKeysOf_17 : decode cX2_liveKeysOf 17 = .ok (.iload_n 3, 1) := by decide +kernel
theorem dX2_liveKeysOf_18 : decode cX2_liveKeysOf 18 = .ok (.iaload, 1) := by decide +kernel
theorem dX2_liveKeysOf_19 : decode cX2_liveKeysOf 19 = .ok (.iload_n 1, 1) := by decide +kernel
theorem dX2_liveKeysOf_20 : decode cX2_liveKeysOf 20 = .ok (.if_icmp .ne 17, 3) := by decide +kernel
theorem dX2_liveKeysOf_23 : decode cX2_liveKeysOf 23 = .ok (.aload_n 0, 1) := by decide +kernel
theorem dX2_liveKeysOf_24 : decode cX2_liveKeysOf 24 = .ok (.iload_n 3, 1) := by decide +kernel
theorem dX2_liveKeysOf_25 : decode cX2_liveKeysOf 25 = .ok (.invokevirtual 102, 3) := by decide +kernel
theorem dX2_liveKeysOf_28 : decode cX2_liveKeysOf 28 = .ok (.ifCond .eq 9, 3) := by decide +kernel
theorem dX2_liveKeysOf_31 : decode cX2_liveKeysOf 31 = .ok (.iconst 1, 1) := by decide +kernel
theorem dX2_liveKeysOf_32 : decode cX2_liveKeysOf 32 = .ok (.iload_n 3, 1) := by decide +kernel
theorem dX2_liveKeysOf_33 : decode cX2_liveKeysOf 33 = .ok (.ishl, 1) := by decide +kernel
theorem dX2_liveKeysOf_34 : decode cX2_liveKeysOf 34 = .ok (.goto 4, 3) := by decide +kernel
theorem dX2_liveKeysOf_37 : decode cX2_liveKeysOf 37 = .ok (.iconst 0, 1) := by decide +kernel
theorem dX2_liveKeysOf_38 : decode cX2_liveKeysOf 38 = .ok (.ior, 1) := by decide +kernel
theorem dX2_liveKeysOf_39 : decode cX2_liveKeysOf 39 = .ok (.istore_n 2, 1) := by decide +kernel
theorem dX2_liveKeysOf_40 : decode cX2_liveKeysOf 40 = .ok (.iinc 3 1, 3) := by decide +kernel
theorem dX2_liveKeysOf_43 : decode cX2_liveKeysOf 43 = .ok (.goto (-39), 3) := by decide +kernel
theorem dX2_liveKeysOf_46 : decode cX2_liveKeysOf 46 = .ok (.iload_n 2, 1) := by decide +kernel
theorem dX2_liveKeysOf_47 : decode cX2_liveKeysOf 47 = .ok (.ireturn, 1) := by decide +kernel
theorem dX2_keysHeldBy_0 : decode cX2_keysHeldBy 0 = .ok (.iconst 0, 1) := by decide +kernel
theorem dX2_keysHeldBy_1 : decode cX2_keysHeldBy 1 = .ok (.istore_n 2, 1) := by decide +kernel
theorem dX2_keysHeldBy_2 : decode cX2_keysHeldBy 2 = .ok (.iconst 0, 1) := by decide +kernel
theorem dX2_keysHeldBy_3 : decode cX2_keysHeldBy 3 = .ok (.istore_n 3, 1) := by decide +kernel
theorem dX2_keysHeldBy_4 : decode cX2_keysHeldBy 4 = .ok (.iload_n 3, 1) := by decide +kernel
theorem dX2_keysHeldBy_5 : decode cX2_keysHeldBy 5 = .ok (.aload_n 0, 1) := by decide +kernel
theorem dX2_keysHeldBy_6 : decode cX2_keysHeldBy 6 = .ok (.getfield 36, 3) := by decide +kernel
theorem dX2_keysHeldBy_9 : decode cX2_keysHeldBy 9 = .ok (.if_icmp .ge 38, 3) := by decide +kernel
theorem dX2_keysHeldBy_12 : decode cX2_keysHeldBy 12 = .ok (.iload_n 2, 1) := by decide +kernel
theorem dX2_keysHeldBy_13 : decode cX2_keysHeldBy 13 = .ok (.aload_n 0, 1) := by decide +kernel
theorem dX2_keysHeldBy_14 : decode cX2_keysHeldBy 14 = .ok (.getfield 18, 3) := by decide +kernel
theorem dX2_keysHeldBy_17 : decode cX2_keysHeldBy 17 = .ok (.iload_n 3, 1) := by decide +kernel
theorem dX2_keysHeldBy_18 : decode cX2_keysHeldBy 18 = .ok (.iaload, 1) := by decide +kernel
theorem dX2_keysHeldBy_19 : decode cX2_keysHeldBy 19 = .ok (.ifCond .ne 19, 3) := by decide +kernel
theorem dX2_keysHeldBy_22 : decode cX2_keysHeldBy 22 = .ok (.aload_n 0, 1) := by decide +kernel
theorem dX2_keysHeldBy_23 : decode cX2_keysHeldBy 23 = .ok (.getfield 21, 3) := by decide +kernel
theorem dX2_keysHeldBy_26 : decode cX2_keysHeldBy 26 = .ok (.iload_n 3, 1) := by decide +kernel
theorem dX2_keysHeldBy_27 : decode cX2_keysHeldBy 27 = .ok (.iaload, 1) := by decide +kernel
theorem dX2_keysHeldBy_28 : decode cX2_keysHeldBy 28 = .ok (.iload_n 1, 1) := by decide +kernel
theorem dX2_keysHeldBy_29 : decode cX2_keysHeldBy 29 = .ok (.if_icmp .ne 9, 3) := by decide +kernel
theorem dX2_keysHeldBy_32 : decode cX2_keysHeldBy 32 = .ok (.iconst 1, 1) := by decide +kernel
theorem dX2_keysHeldBy_33 : decode cX2_keysHeldBy 33 = .ok (.iload_n 3, 1) := by decide +kernel
theorem dX2_keysHeldBy_34 : decode cX2_keysHeldBy 34 = .ok (.ishl, 1) := by decide +kernel
theorem dX2_keysHeldBy_35 : decode cX2_keysHeldBy 35 = .ok (.goto 4, 3) := by decide +kernel
theorem dX2_keysHeldBy_38 : decode cX2_keysHeldBy 38 = .ok (.iconst 0, 1) := by decide +kernel
theorem dX2_keysHeldBy_39 : decode cX2_keysHeldBy 39 = .ok (.ior, 1) := by decide +kernel
theorem dX2_keysHeldBy_40 : decode cX2_keysHeldBy 40 = .ok (.istore_n 2, 1) := by decide +kernel
theorem dX2_keysHeldBy_41 : decode cX2_keysHeldBy 41 = .ok (.iinc 3 1, 3) := by decide +kernel
theorem dX2_keysHeldBy_44 : decode cX2_keysHeldBy 44 = .ok (.goto (-40), 3) := by decide +kernel
theorem dX2_keysHeldBy_47 : decode cX2_keysHeldBy 47 = .ok (.iload_n 2, 1) := by decide +kernel
theorem dX2_keysHeldBy_48 : decode cX2_keysHeldBy 48 = .ok (.ireturn, 1) := by decide +kernel
theorem dX2_keyDetail_0 : decode cX2_keyDetail 0 = .ok (.aload_n 0, 1) := by decide +kernel
theorem dX2_keyDetail_1 : decode cX2_keyDetail 1 = .ok (.iload_n 1, 1) := by decide +kernel
theorem dX2_keyDetail_2 : decode cX2_keyDetail 2 = .ok (.invokevirtual 70, 3) := by decide +kernel
theorem dX2_keyDetail_5 : decode cX2_keyDetail 5 = .ok (.ifCond .ne 5, 3) := by decide +kernel
theorem dX2_keyDetail_8 : decode cX2_keyDetail 8 = .ok (.iconst 0, 1) := by decide +kernel
theorem dX2_keyDetail_9 : decode cX2_keyDetail 9 = .ok (.ireturn, 1) := by decide +kernel
theorem dX2_keyDetail_10 : decode cX2_keyDetail 10 = .ok (.iload_n 2, 1) := by decide +kernel
theorem dX2_keyDetail_11 : decode cX2_keyDetail 11 = .ok (.tableswitch 64 0 3 #[29, 36, 50, 57], 29) := by decide +kernel
theorem dX2_keyDetail_40 : decode cX2_keyDetail 40 = .ok (.aload_n 0, 1) := by decide +kernel
theorem dX2_keyDetail_41 : decode cX2_keyDetail 41 = .ok (.getfield 9, 3) := by decide +kernel
theorem dX2_keyDetail_44 : decode cX2_keyDetail 44 = .ok (.iload_n 1, 1) := by decide +kernel
theorem dX2_keyDetail_45 : decode cX2_keyDetail 45 = .ok (.iaload, 1) := by decide +kernel
theorem dX2_keyDetail_46 : decode cX2_keyDetail 46 = .ok (.ireturn, 1) := by decide +kernel
theorem dX2_keyDetail_47 : decode cX2_keyDetail 47 = .ok (.aload_n 0, 1) := by decide +kernel
theorem dX2_keyDetail_48 : decode cX2_keyDetail 48 = .ok (.iload_n 1, 1) := by decide +kernel
theorem dX2_keyDetail_49 : decode cX2_keyDetail 49 = .ok (.invokevirtual 102, 3) := by decide +kernel
theorem dX2_keyDetail_52 : decode cX2_keyDetail 52 = .ok (.ifCond .eq 7, 3) := by decide +kernel
theorem dX2_keyDetail_55 : decode cX2_keyDetail 55 = .ok (.iconst 1, 1) := by decide +kernel
theorem dX2_keyDetail_56 : decode cX2_keyDetail 56 = .ok (.goto 4, 3) := by decide +kernel
theorem dX2_keyDetail_59 : decode cX2_keyDetail 59 = .ok (.iconst 0, 1) := by decide +kernel
theorem dX2_keyDetail_60 : decode cX2_keyDetail 60 = .ok (.ireturn, 1) := by decide +kernel
theorem dX2_keyDetail_61 : decode cX2_keyDetail 61 = .ok (.aload_n 0, 1) := by decide +kernel
theorem dX2_keyDetail_62 : decode cX2_keyDetail 62 = .ok (.getfield 18, 3) := by decide +kernel
theorem dX2_keyDetail_65 : decode cX2_keyDetail 65 = .ok (.iload_n 1, 1) := by decide +kernel
theorem dX2_keyDetail_66 : decode cX2_keyDetail 66 = .ok (.iaload, 1) := by decide +kernel
theorem dX2_keyDetail_67 : decode cX2_keyDetail 67 = .ok (.ireturn, 1) := by decide +kernel
theorem dX2_keyDetail_68 : decode cX2_keyDetail 68 = .ok (.aload_n 0, 1) := by decide +kernel
theorem dX2_keyDetail_69 : decode cX2_keyDetail 69 = .ok (.getfield 21, 3) := by decide +kernel
theorem dX2_keyDetail_72 : decode cX2_keyDetail 72 = .ok (.iload_n 1, 1) := by decide +kernel
theorem dX2_keyDetail_73 : decode cX2_keyDetail 73 = .ok (.iaload, 1) := by decide +kernel
theorem dX2_keyDetail_74 : decode cX2_keyDetail 74 = .ok (.ireturn, 1) := by decide +kernel
theorem dX2_keyDetail_75 : decode cX2_keyDetail 75 = .ok (.aload_n 0, 1) := by decide +kernel
theorem dX2_keyDetail_76 : decode cX2_keyDetail 76 = .ok (.getfield 24, 3) := by decide +kernel
theorem dX2_keyDetail_79 : decode cX2_keyDetail 79 = .ok (.iload_n 1, 1) := by decide +kernel
theorem dX2_keyDetail_80 : decode cX2_keyDetail 80 = .ok (.iaload, 1) := by decide +kernel
theorem dX2_keyDetail_81 : decode cX2_keyDetail 81 = .ok (.ireturn, 1) := by decide +kernel
theorem dX2_opens_0 : decode cX2_opens 0 = .ok (.iconst 0, 1) := by decide +kernel
theorem dX2_opens_1 : decode cX2_opens 1 = .ok (.istore_n 3, 1) := by decide +kernel
theorem dX2_opens_2 : decode cX2_opens 2 = .ok (.iconst 0, 1) := by decide +kernel
theorem dX2_opens_3 : decode cX2_opens 3 = .ok (.istore 4, 2) := by decide +kernel
theorem dX2_opens_5 : decode cX2_opens 5 = .ok (.iload 4, 2) := by decide +kernel
theorem dX2_opens_7 : decode cX2_opens 7 = .ok (.aload_n 0, 1) := by decide +kernel
theorem dX2_opens_8 : decode cX2_opens 8 = .ok (.getfield 36, 3) := by decide +kernel
theorem dX2_opens_11 : decode cX2_opens 11 = .ok (.if_icmp .ge 73, 3) := by decide +kernel
theorem dX2_opens_14 : decode cX2_opens 14 = .ok (.aload_n 0, 1) := by decide +kernel
theorem dX2_opens_15 : decode cX2_opens 15 = .ok (.getfield 18, 3) := by decide +kernel
theorem dX2_opens_18 : decode cX2_opens 18 = .ok (.iload 4, 2) := by decide +kernel
theorem dX2_opens_20 : decode cX2_opens 20 = .ok (.iaload, 1) := by decide +kernel
theorem dX2_opens_21 : decode cX2_opens 21 = .ok (.iload_n 1, 1) := by decide +kernel
theorem dX2_opens_22 : decode cX2_opens 22 = .ok (.if_icmp .ne 23, 3) := by decide +kernel
theorem dX2_opens_25 : decode cX2_opens 25 = .ok (.iload_n 2, 1) := by decide +kernel
theorem dX2_opens_26 : decode cX2_opens 26 = .ok (.iconst (-1), 1) := by decide +kernel
theorem dX2_opens_27 : decode cX2_opens 27 = .ok (.if_icmp .eq 14, 3) := by decide +kernel
theorem dX2_opens_30 : decode cX2_opens 30 = .ok (.aload_n 0, 1) := by decide +kernel
theorem dX2_opens_31 : decode cX2_opens 31 = .ok (.getfield 21, 3) := by decide +kernel
theorem dX2_opens_34 : decode cX2_opens 34 = .ok (.iload 4, 2) := by decide +kernel
theorem dX2_opens_36 : decode cX2_opens 36 = .ok (.iaload, 1) := by decide +kernel
theorem dX2_opens_37 : decode cX2_opens 37 = .ok (.iload_n 2, 1) := by decide +kernel
theorem dX2_opens_38 : decode cX2_opens 38 = .ok (.if_icmp .ne 7, 3) := by decide +kernel
theorem dX2_opens_41 : decode cX2_opens 41 = .ok (.iconst 1, 1) := by decide +kernel
theorem dX2_opens_42 : decode cX2_opens 42 = .ok (.goto 4, 3) := by decide +kernel
theorem dX2_opens_45 : decode cX2_opens 45 = .ok (.iconst 0, 1) := by decide +kernel
theorem dX2_opens_46 : decode cX2_opens 46 = .ok (.istore 5, 2) := by decide +kernel
theorem dX2_opens_48 : decode cX2_opens 48 = .ok (.iload_n 3, 1) := by decide +kernel
theorem dX2_opens_49 : decode cX2_opens 49 = .ok (.iload 5, 2) := by decide +kernel
theorem dX2_opens_51 : decode cX2_opens 51 = .ok (.ifCond .eq 24, 3) := by decide +kernel
theorem dX2_opens_54 : decode cX2_opens 54 = .ok (.aload_n 0, 1) := by decide +kernel
theorem dX2_opens_55 : decode cX2_opens 55 = .ok (.iload 4, 2) := by decide +kernel
theorem dX2_opens_57 : decode cX2_opens 57 = .ok (.invokevirtual 102, 3) := by decide +kernel
theorem dX2_opens_60 : decode cX2_opens 60 = .ok (.ifCond .eq 15, 3) := by decide +kernel
theorem dX2_opens_63 : decode cX2_opens 63 = .ok (.iconst 1, 1) := by decide +kernel
theorem dX2_opens_64 : decode cX2_opens 64 = .ok (.aload_n 0, 1) := by decide +kernel
theorem dX2_opens_65 : decode cX2_opens 65 = .ok (.getfield 9, 3) := by decide +kernel
theorem dX2_opens_68 : decode cX2_opens 68 = .ok (.iload 4, 2) := by decide +kernel
theorem dX2_opens_70 : decode cX2_opens 70 = .ok (.iaload, 1) := by decide +kernel
theorem dX2_opens_71 : decode cX2_opens 71 = .ok (.ishl, 1) := by decide +kernel
theorem dX2_opens_72 : decode cX2_opens 72 = .ok (.goto 4, 3) := by decide +kernel
theorem dX2_opens_75 : decode cX2_opens 75 = .ok (.iconst 0, 1) := by decide +kernel
theorem dX2_opens_76 : decode cX2_opens 76 = .ok (.ior, 1) := by decide +kernel
theorem dX2_opens_77 : decode cX2_opens 77 = .ok (.istore_n 3, 1) := by decide +kernel
theorem dX2_opens_78 : decode cX2_opens 78 = .ok (.iinc 4 1, 3) := by decide +kernel
theorem dX2_opens_81 : decode cX2_opens 81 = .ok (.goto (-76), 3) := by decide +kernel
theorem dX2_opens_84 : decode cX2_opens 84 = .ok (.iload_n 3, 1) := by decide +kernel
theorem dX2_opens_85 : decode cX2_opens 85 = .ok (.ireturn, 1) := by decide +kernel
theorem dX2_passedOpens_0 : decode cX2_passedOpens 0 = .ok (.iconst 0, 1) := by decide +kernel
theorem dX2_passedOpens_1 : decode cX2_passedOpens 1 = .ok (.istore_n 2, 1) := by decide +kernel
theorem dX2_passedOpens_2 : decode cX2_passedOpens 2 = .ok (.iconst 0, 1) := by decide +kernel
theorem dX2_passedOpens_3 : decode cX2_passedOpens 3 = .ok (.istore_n 3, 1) := by decide +kernel
theorem dX2_passedOpens_4 : decode cX2_passedOpens 4 = .ok (.iload_n 3, 1) := by decide +kernel
theorem dX2_passedOpens_5 : decode cX2_passedOpens 5 = .ok (.aload_n 0, 1) := by decide +kernel
theorem dX2_passedOpens_6 : decode cX2_passedOpens 6 = .ok (.getfield 36, 3) := by decide +kernel
theorem dX2_passedOpens_9 : decode cX2_passedOpens 9 = .ok (.if_icmp .ge 45, 3) := by decide +kernel
theorem dX2_passedOpens_12 : decode cX2_passedOpens 12 = .ok (.iload_n 2, 1) := by decide +kernel
theorem dX2_passedOpens_13 : decode cX2_passedOpens 13 = .ok (.aload_n 0, 1) := by decide +kernel
theorem dX2_passedOpens_14 : decode cX2_passedOpens 14 = .ok (.getfield 24, 3) := by decide +kernel
theorem dX2_passedOpens_17 : decode cX2_passedOpens 17 = .ok (.iload_n 3, 1) := by decide +kernel
theorem dX2_passedOpens_18 : decode cX2_passedOpens 18 = .ok (.iaload, 1) := by decide +kernel
theorem dX2_passedOpens_19 : decode cX2_passedOpens 19 = .ok (.iload_n 1, 1) := by decide +kernel
theorem dX2_passedOpens_20 : decode cX2_passedOpens 20 = .ok (.invokestatic 99, 3) := by decide +kernel
theorem dX2_passedOpens_23 : decode cX2_passedOpens 23 = .ok (.ifCond .eq 22, 3) := by decide +kernel
theorem dX2_passedOpens_26 : decode cX2_passedOpens 26 = .ok (.aload_n 0, 1) := by decide +kernel
theorem dX2_passedOpens_27 : decode cX2_passedOpens 27 = .ok (.iload_n 3, 1) := by decide +kernel
theorem dX2_passedOpens_28 : decode cX2_passedOpens 28 = .ok (.invokevirtual 102, 3) := by decide +kernel
theorem dX2_passedOpens_31 : decode cX2_passedOpens 31 = .ok (.ifCond .eq 14, 3) := by decide +kernel
theorem dX2_passedOpens_34 : decode cX2_passedOpens 34 = .ok (.iconst 1, 1) := by decide +kernel
theorem dX2_passedOpens_35 : decode cX2_passedOpens 35 = .ok (.aload_n 0, 1) := by decide +kernel
theorem dX2_passedOpens_36 : decode cX2_passedOpens 36 = .ok (.getfield 9, 3) := by decide +kernel
theorem dX2_passedOpens_39 : decode cX2_passedOpens 39 = .ok (.iload_n 3, 1) := by decide +kernel
theorem dX2_passedOpens_40 : decode cX2_passedOpens 40 = .ok (.iaload, 1) := by decide +kernel
theorem dX2_passedOpens_41 : decode cX2_passedOpens 41 = .ok (.ishl, 1) := by decide +kernel
theorem dX2_passedOpens_42 : decode cX2_passedOpens 42 = .ok (.goto 4, 3) := by decide +kernel
theorem dX2_passedOpens_45 : decode cX2_passedOpens 45 = .ok (.iconst 0, 1) := by decide +kernel
theorem dX2_passedOpens_46 : decode cX2_passedOpens 46 = .ok (.ior, 1) := by decide +kernel
theorem dX2_passedOpens_47 : decode cX2_passedOpens 47 = .ok (.istore_n 2, 1) := by decide +kernel
theorem dX2_passedOpens_48 : decode cX2_passedOpens 48 = .ok (.iinc 3 1, 3) := by decide +kernel
theorem dX2_passedOpens_51 : decode cX2_passedOpens 51 = .ok (.goto (-47), 3) := by decide +kernel
theorem dX2_passedOpens_54 : decode cX2_passedOpens 54 = .ok (.iload_n 2, 1) := by decide +kernel
theorem dX2_passedOpens_55 : decode cX2_passedOpens 55 = .ok (.ireturn, 1) := by decide +kernel
theorem dX2_comesFrom_0 : decode cX2_comesFrom 0 = .ok (.iload_n 1, 1) := by decide +kernel
theorem dX2_comesFrom_1 : decode cX2_comesFrom 1 = .ok (.istore_n 2, 1) := by decide +kernel
theorem dX2_comesFrom_2 : decode cX2_comesFrom 2 = .ok (.iconst 0, 1) := by decide +kernel
theorem dX2_comesFrom_3 : decode cX2_comesFrom 3 = .ok (.istore_n 3, 1) := by decide +kernel
theorem dX2_comesFrom_4 : decode cX2_comesFrom 4 = .ok (.iload_n 3, 1) := by decide +kernel
theorem dX2_comesFrom_5 : decode cX2_comesFrom 5 = .ok (.bipush 6, 2) := by decide +kernel
theorem dX2_comesFrom_7 : decode cX2_comesFrom 7 = .ok (.if_icmp .ge 30, 3) := by decide +kernel
theorem dX2_comesFrom_10 : decode cX2_comesFrom 10 = .ok (.iload_n 2, 1) := by decide +kernel
theorem dX2_comesFrom_11 : decode cX2_comesFrom 11 = .ok (.iload_n 1, 1) := by decide +kernel
theorem dX2_comesFrom_12 : decode cX2_comesFrom 12 = .ok (.iload_n 3, 1) := by decide +kernel
theorem dX2_comesFrom_13 : decode cX2_comesFrom 13 = .ok (.invokestatic 99, 3) := by decide +kernel
theorem dX2_comesFrom_16 : decode cX2_comesFrom 16 = .ok (.ifCond .eq 12, 3) := by decide +kernel
theorem dX2_comesFrom_19 : decode cX2_comesFrom 19 = .ok (.aload_n 0, 1) := by decide +kernel
theorem dX2_comesFrom_20 : decode cX2_comesFrom 20 = .ok (.getfield 33, 3) := by decide +kernel
theorem dX2_comesFrom_23 : decode cX2_comesFrom 23 = .ok (.iload_n 3, 1) := by decide +kernel
theorem dX2_comesFrom_24 : decode cX2_comesFrom 24 = .ok (.iaload, 1) := by decide +kernel
theorem dX2_comesFrom_25 : decode cX2_comesFrom 25 = .ok (.goto 4, 3) := by decide +kernel
theorem dX2_comesFrom_28 : decode cX2_comesFrom 28 = .ok (.iconst 0, 1) := by decide +kernel
theorem dX2_comesFrom_29 : decode cX2_comesFrom 29 = .ok (.ior, 1) := by decide +kernel
theorem dX2_comesFrom_30 : decode cX2_comesFrom 30 = .ok (.istore_n 2, 1) := by decide +kernel
theorem dX2_comesFrom_31 : decode cX2_comesFrom 31 = .ok (.iinc 3 1, 3) := by decide +kernel
theorem dX2_comesFrom_34 : decode cX2_comesFrom 34 = .ok (.goto (-30), 3) := by decide +kernel
theorem dX2_comesFrom_37 : decode cX2_comesFrom 37 = .ok (.iload_n 2, 1) := by decide +kernel
theorem dX2_comesFrom_38 : decode cX2_comesFrom 38 = .ok (.ireturn, 1) := by decide +kernel
theorem dX3_init_0 : decode cX3_init 0 = .ok (.aload_n 0, 1) := by decide +kernel
theorem dX3_init_1 : decode cX3_init 1 = .ok (.invokespecial 3, 3) := by decide +kernel
theorem dX3_init_4 : decode cX3_init 4 = .ok (.aload_n 0, 1) := by decide +kernel
theorem dX3_init_5 : decode cX3_init 5 = .ok (.bipush 120, 2) := by decide +kernel
theorem dX3_init_7 : decode cX3_init 7 = .ok (.newarray .int, 2) := by decide +kernel
theorem dX3_init_9 : decode cX3_init 9 = .ok (.putfield 9, 3) := by decide +kernel
theorem dX3_init_12 : decode cX3_init 12 = .ok (.aload_n 0, 1) := by decide +kernel
theorem dX3_init_13 : decode cX3_init 13 = .ok (.bipush (-9), 2) := by decide +kernel
theorem dX3_init_15 : decode cX3_init 15 = .ok (.putfield 15, 3) := by decide +kernel
theorem dX3_init_18 : decode cX3_init 18 = .ok (.return_, 1) := by decide +kernel
theorem dX3_begin_0 : decode cX3_begin 0 = .ok (.aload_n 0, 1) := by decide +kernel
theorem dX3_begin_1 : decode cX3_begin 1 = .ok (.bipush 120, 2) := by decide +kernel
theorem dX3_begin_3 : decode cX3_begin 3 = .ok (.iconst 0, 1) := by decide +kernel
theorem dX3_begin_4 : decode cX3_begin 4 = .ok (.aload_n 1, 1) := by decide +kernel
theorem dX3_begin_5 : decode cX3_begin 5 = .ok (.iload_n 2, 1) := by decide +kernel
theorem dX3_begin_6 : decode cX3_begin 6 = .ok (.invokevirtual 19, 3) := by decide +kernel
theorem dX3_begin_9 : decode cX3_begin 9 = .ok (.invokestatic 25, 3) := by decide +kernel
theorem dX3_begin_12 : decode cX3_begin 12 = .ok (.invokestatic 31, 3) := by decide +kernel
theorem dX3_begin_15 : decode cX3_begin 15 = .ok (.putfield 34, 3) := by decide +kernel
theorem dX3_begin_18 : decode cX3_begin 18 = .ok (.iconst 0, 1) := by decide +kernel
theorem dX3_begin_19 : decode cX3_begin 19 = .ok (.istore_n 3, 1) := by decide +kernel
theorem dX3_begin_20 : decode cX3_begin 20 = .ok (.iload_n 3, 1) := by decide +kernel
theorem dX3_begin_21 : decode cX3_begin 21 = .ok (.aload_n 0, 1) := by decide +kernel
theorem dX3_begin_22 : decode cX3_begin 22 = .ok (.getfield 34, 3) := by decide +kernel
theorem dX3_begin_25 : decode cX3_begin 25 = .ok (.if_icmp .ge 21, 3) := by decide +kernel
theorem dX3_begin_28 : decode cX3_begin 28 = .ok (.aload_n 0, 1) := by decide +kernel
theorem dX3_begin_29 : decode cX3_begin 29 = .ok (.getfield 9, 3) := by decide +kernel
theorem dX3_begin_32 : decode cX3_begin 32 = .ok (.iload_n 3, 1) := by decide +kernel
theorem dX3_begin_33 : decode cX3_begin 33 = .ok (.aload_n 1, 1) := by decide +kernel
theorem dX3_begin_34 : decode cX3_begin 34 = .ok (.iload_n 2, 1) := by decide +kernel
theorem dX3_begin_35 : decode cX3_begin 35 = .ok (.iload_n 3, 1) := by decide +kernel
theorem dX3_begin_36 : decode cX3_begin 36 = .ok (.invokevirtual 37, 3) := by decide +kernel
theorem dX3_begin_39 : decode cX3_begin 39 = .ok (.iastore, 1) := by decide +kernel
theorem dX3_begin_40 : decode cX3_begin 40 = .ok (.iinc 3 1, 3) := by decide +kernel
theorem dX3_begin_43 : decode cX3_begin 43 = .ok (.goto (-23), 3) := by decide +kernel
theorem dX3_begin_46 : decode cX3_begin 46 = .ok (.aload_n 0, 1) := by decide +kernel
theorem dX3_begin_47 : decode cX3_begin 47 = .ok (.iconst 0, 1) := by decide +kernel
theorem dX3_begin_48 : decode cX3_begin 48 = .ok (.putfield 40, 3) := by decide +kernel
theorem dX3_begin_51 : decode cX3_begin 51 = .ok (.aload_n 0, 1) := by decide +kernel
theorem dX3_begin_52 : decode cX3_begin 52 = .ok (.bipush (-9), 2) := by decide +kernel
theorem dX3_begin_54 : decode cX3_begin 54 = .ok (.putfield 15, 3) := by decide +kernel
theorem dX3_begin_57 : decode cX3_begin 57 = .ok (.return_, 1) := by decide +kernel
theorem dX3_readStreet_0 : decode cX3_readStreet 0 = .ok (.aload_n 1, 1) := by decide +kernel
theorem dX3_readStreet_1 : decode cX3_readStreet 1 = .ok (.invokevirtual 43, 3) := by decide +kernel
theorem dX3_readStreet_4 : decode cX3_readStreet 4 = .ok (.iconst 0, 1) := by decide +kernel
theorem dX3_readStreet_5 : decode cX3_readStreet 5 = .ok (.istore_n 2, 1) := by decide +kernel
theorem dX3_readStreet_6 : decode cX3_readStreet 6 = .ok (.iload_n 2, 1) := by decide +kernel
theorem dX3_readStreet_7 : decode cX3_readStreet 7 = .ok (.aload_n 0, 1) := by decide +kernel
theorem dX3_readStreet_8 : decode cX3_readStreet 8 = .ok (.getfield 34, 3) := by decide +kernel
theorem dX3_readStreet_11 : decode cX3_readStreet 11 = .ok (.if_icmp .gt 71, 3) := by decide +kernel
theorem dX3_readStreet_14 : decode cX3_readStreet 14 = .ok (.aload_n 0, 1) := by decide +kernel
theorem dX3_readStreet_15 : decode cX3_readStreet 15 = .ok (.invokevirtual 48, 3) := by decide +kernel
theorem dX3_readStreet_18 : decode cX3_readStreet 18 = .ok (.ifCond .eq 64, 3) := by decide +kernel
theorem dX3_readStreet_21 : decode cX3_readStreet 21 = .ok (.aload_n 0, 1) := by decide +kernel
theorem dX3_readStreet_22 : decode cX3_readStreet 22 = .ok (.invokevirtual 52, 3) := by decide +kernel
theorem dX3_readStreet_25 : decode cX3_readStreet 25 = .ok (.istore_n 3, 1) := by decide +kernel
theorem dX3_readStreet_26 : decode cX3_readStreet 26 = .ok (.iload_n 3, 1) := by decide +kernel
theorem dX3_readStreet_27 : decode cX3_readStreet 27 = .ok (.bipush 104, 2) := by decide +kernel
theorem dX3_readStreet_29 : decode cX3_readStreet 29 = .ok (.if_icmp .ne 20, 3) := by decide +kernel
theorem dX3_readStreet_32 : decode cX3_readStreet 32 = .ok (.aload_n 1, 1) := by decide +kernel
theorem dX3_readStreet_33 : decode cX3_readStreet 33 = .ok (.getfield 56, 3) := by decide +kernel
theorem dX3_readStreet_36 : decode cX3_readStreet 36 = .ok (.bipush 6, 2) := by decide +kernel
theorem dX3_readStreet_38 : decode cX3_readStreet 38 = .ok (.if_icmp .ge 11, 3) := by decide +kernel
theorem dX3_readStreet_41 : decode cX3_readStreet 41 = .ok (.aload_n 0, 1) := by decide +kernel
theorem dX3_readStreet_42 : decode cX3_readStreet 42 = .ok (.aload_n 1, 1) := by decide +kernel
theorem dX3_readStreet_43 : decode cX3_readStreet 43 = .ok (.invokevirtual 59, 3) := by decide +kernel
theorem dX3_readStreet_46 : decode cX3_readStreet 46 = .ok (.goto 30, 3) := by decide +kernel
theorem dX3_readStreet_49 : decode cX3_readStreet 49 = .ok (.iload_n 3, 1) := by decide +kernel
theorem dX3_readStreet_50 : decode cX3_readStreet 50 = .ok (.bipush 112, 2) := by decide +kernel
theorem dX3_readStreet_52 : decode cX3_readStreet 52 = .ok (.if_icmp .ne 20, 3) := by decide +kernel
theorem dX3_readStreet_55 : decode cX3_readStreet 55 = .ok (.aload_n 1, 1) := by decide +kernel
theorem dX3_readStreet_56 : decode cX3_readStreet 56 = .ok (.getfield 63, 3) := by decide +kernel
theorem dX3_readStreet_59 : decode cX3_readStreet 59 = .ok (.bipush 12, 2) := by decide +kernel
theorem dX3_readStreet_61 : decode cX3_readStreet 61 = .ok (.if_icmp .ge 11, 3) := by decide +kernel
theorem dX3_readStreet_64 : decode cX3_readStreet 64 = .ok (.aload_n 0, 1) := by decide +kernel
theorem dX3_readStreet_65 : decode cX3_readStreet 65 = .ok (.aload_n 1, 1) := by decide +kernel
theorem dX3_readStreet_66 : decode cX3_readStreet 66 = .ok (.invokevirtual 66, 3) := by decide +kernel
theorem dX3_readStreet_69 : decode cX3_readStreet 69 = .ok (.goto 7, 3) := by decide +kernel
theorem dX3_readStreet_72 : decode cX3_readStreet 72 = .ok (.aload_n 0, 1) := by decide +kernel
theorem dX3_readStreet_73 : decode cX3_readStreet 73 = .ok (.invokevirtual 69, 3) := by decide +kernel
theorem dX3_readStreet_76 : decode cX3_readStreet 76 = .ok (.iinc 2 1, 3) := by decide +kernel
theorem dX3_readStreet_79 : decode cX3_readStreet 79 = .ok (.goto (-73), 3) := by decide +kernel
theorem dX3_readStreet_82 : decode cX3_readStreet 82 = .ok (.return_, 1) := by decide +kernel
theorem dX3_readHouse_0 : decode cX3_readHouse 0 = .ok (.aload_n 0, 1) := by decide +kernel
theorem dX3_readHouse_1 : decode cX3_readHouse 1 = .ok (.dup, 1) := by decide +kernel
theorem dX3_readHouse_2 : decode cX3_readHouse 2 = .ok (.getfield 40, 3) := by decide +kernel
theorem dX3_readHouse_5 : decode cX3_readHouse 5 = .ok (.iconst 1, 1) := by decide +kernel
theorem dX3_readHouse_6 : decode cX3_readHouse 6 = .ok (.iadd, 1) := by decide +kernel
theorem dX3_readHouse_7 : decode cX3_readHouse 7 = .ok (.putfield 40, 3) := by decide +kernel
theorem dX3_readHouse_10 : decode cX3_readHouse 10 = .ok (.aload_n 0, 1) := by decide +kernel
theorem dX3_readHouse_11 : decode cX3_readHouse 11 = .ok (.bipush 100, 2) := by decide +kernel
theorem dX3_readHouse_13 : decode cX3_readHouse 13 = .ok (.invokevirtual 72, 3) := by decide +kernel
theorem dX3_readHouse_16 : decode cX3_readHouse 16 = .ok (.istore_n 2, 1) := by decide +kernel
theorem dX3_readHouse_17 : decode cX3_readHouse 17 = .ok (.aload_n 0, 1) := by decide +kernel
theorem dX3_readHouse_18 : decode cX3_readHouse 18 = .ok (.getfield 15, 3) := by decide +kernel
theorem dX3_readHouse_21 : decode cX3_readHouse 21 = .ok (.bipush (-9), 2) := by decide +kernel
theorem dX3_readHouse_23 : decode cX3_readHouse 23 = .ok (.if_icmp .ne 8, 3) := by decide +kernel
theorem dX3_readHouse_26 : decode cX3_readHouse 26 = .ok (.aload_n 1, 1) := by decide +kernel
theorem dX3_readHouse_27 : decode cX3_readHouse 27 = .ok (.iload_n 2, 1) := by decide +kernel
theorem dX3_readHouse_28 : decode cX3_readHouse 28 = .ok (.invokevirtual 75, 3) := by decide +kernel
theorem dX3_readHouse_31 : decode cX3_readHouse 31 = .ok (.return_, 1) := by decide +kernel
theorem dX3_readPerson_0 : decode cX3_readPerson 0 = .ok (.aload_n 0, 1) := by decide +kernel
theorem dX3_readPerson_1 : decode cX3_readPerson 1 = .ok (.dup, 1) := by decide +kernel
theorem dX3_readPerson_2 : decode cX3_readPerson 2 = .ok (.getfield 40, 3) := by decide +kernel
theorem dX3_readPerson_5 : decode cX3_readPerson 5 = .ok (.iconst 1, 1) := by decide +kernel
theorem dX3_readPerson_6 : decode cX3_readPerson 6 = .ok (.iadd, 1) := by decide +kernel
theorem dX3_readPerson_7 : decode cX3_readPerson 7 = .ok (.putfield 40, 3) := by decide +kernel
theorem dX3_readPerson_10 : decode cX3_readPerson 10 = .ok (.bipush (-9), 2) := by decide +kernel
theorem dX3_readPerson_12 : decode cX3_readPerson 12 = .ok (.istore_n 2, 1) := by decide +kernel
theorem dX3_readPerson_13 : decode cX3_readPerson 13 = .ok (.aload_n 0, 1) := by decide +kernel
theorem dX3_readPerson_14 : decode cX3_readPerson 14 = .ok (.invokevirtual 52, 3) := by decide +kernel
theorem dX3_readPerson_17 : decode cX3_readPerson 17 = .ok (.bipush 45, 2) := by decide +kernel
theorem dX3_readPerson_19 : decode cX3_readPerson 19 = .ok (.if_icmp .ne 16, 3) := by decide +kernel
theorem dX3_readPerson_22 : decode cX3_readPerson 22 = .ok (.aload_n 0, 1) := by decide +kernel
theorem dX3_readPerson_23 : decode cX3_readPerson 23 = .ok (.dup, 1) := by decide +kernel
theorem dX3_readPerson_24 : decode cX3_readPerson 24 = .ok (.getfield 40, 3) := by decide +kernel
theorem dX3_readPerson_27 : decode cX3_readPerson 27 = .ok (.iconst 1, 1) := by decide +kernel
theorem dX3_readPerson_28 : decode cX3_readPerson 28 = .ok (.iadd, 1) := by decide +kernel
theorem dX3_readPerson_29 : decode cX3_readPerson 29 = .ok (.putfield 40, 3) := by decide +kernel
theorem dX3_readPerson_32 : decode cX3_readPerson 32 = .ok (.goto 12, 3) := by decide +kernel
theorem dX3_readPerson_35 : decode cX3_readPerson 35 = .ok (.aload_n 0, 1) := by decide +kernel
theorem dX3_readPerson_36 : decode cX3_readPerson 36 = .ok (.aload_n 1, 1) := by decide +kernel
theorem dX3_readPerson_37 : decode cX3_readPerson 37 = .ok (.getfield 56, 3) := by decide +kernel
theorem dX3_readPerson_40 : decode cX3_readPerson 40 = .ok (.invokevirtual 79, 3) := by decide +kernel
theorem dX3_readPerson_43 : decode cX3_readPerson 43 = .ok (.istore_n 2, 1) := by decide +kernel
theorem dX3_readPerson_44 : decode cX3_readPerson 44 = .ok (.aload_n 0, 1) := by decide +kernel
theorem dX3_readPerson_45 : decode cX3_readPerson 45 = .ok (.bipush 58, 2) := by decide +kernel
theorem dX3_readPerson_47 : decode cX3_readPerson 47 = .ok (.invokevirtual 82, 3) := by decide +kernel
theorem dX3_readPerson_50 : decode cX3_readPerson 50 = .ok (.aload_n 0, 1) := by decide +kernel
theorem dX3_readPerson_51 : decode cX3_readPerson 51 = .ok (.bipush 13, 2) := by decide +kernel
theorem dX3_readPerson_53 : decode cX3_readPerson 53 = .ok (.invokevirtual 72, 3) := by decide +kernel
theorem dX3_readPerson_56 : decode cX3_readPerson 56 = .ok (.istore_n 3, 1) := by decide +kernel
theorem dX3_readPerson_57 : decode cX3_readPerson 57 = .ok (.aload_n 0, 1) := by decide +kernel
theorem dX3_readPerson_58 : decode cX3_readPerson 58 = .ok (.getfield 15, 3) := by decide +kernel
theorem dX3_readPerson_61 : decode cX3_readPerson 61 = .ok (.bipush (-9), 2) := by decide +kernel
theorem dX3_readPerson_63 : decode cX3_readPerson 63 = .ok (.if_icmp .ne 9, 3) := by decide +kernel
theorem dX3_readPerson_66 : decode cX3_readPerson 66 = .ok (.aload_n 1, 1) := by decide +kernel
theorem dX3_readPerson_67 : decode cX3_readPerson 67 = .ok (.iload_n 2, 1) := by decide +kernel
theorem dX3_readPerson_68 : decode cX3_readPerson 68 = .ok (.iload_n 3, 1) := by decide +kernel
theorem dX3_readPerson_69 : decode cX3_readPerson 69 = .ok (.invokevirtual 85, 3) := by decide +kernel
theorem dX3_readPerson_72 : decode cX3_readPerson 72 = .ok (.return_, 1) := by decide +kernel
theorem dX3_readYear_0 : decode cX3_readYear 0 = .ok (.aload_n 1, 1) := by decide +kernel
theorem dX3_readYear_1 : decode cX3_readYear 1 = .ok (.iconst 0, 1) := by decide +kernel
theorem dX3_readYear_2 : decode cX3_readYear 2 = .ok (.invokevirtual 89, 3) := by decide +kernel
theorem dX3_readYear_5 : decode cX3_readYear 5 = .ok (.iload_n 3, 1) := by decide +kernel
theorem dX3_readYear_6 : decode cX3_readYear 6 = .ok (.istore 5, 2) := by decide +kernel
theorem dX3_readYear_8 : decode cX3_readYear 8 = .ok (.iconst 0, 1) := by decide +kernel
theorem dX3_readYear_9 : decode cX3_readYear 9 = .ok (.istore 6, 2) := by decide +kernel
theorem dX3_readYear_11 : decode cX3_readYear 11 = .ok (.iload 6, 2) := by decide +kernel
theorem dX3_readYear_13 : decode cX3_readYear 13 = .ok (.aload_n 0, 1) := by decide +kernel
theorem dX3_readYear_14 : decode cX3_readYear 14 = .ok (.getfield 34, 3) := by decide +kernel
theorem dX3_readYear_17 : decode cX3_readYear 17 = .ok (.if_icmp .gt 93, 3) := by decide +kernel
theorem dX3_readYear_20 : decode cX3_readYear 20 = .ok (.aload_n 0, 1) := by decide +kernel
theorem dX3_readYear_21 : decode cX3_readYear 21 = .ok (.invokevirtual 48, 3) := by decide +kernel
theorem dX3_readYear_24 : decode cX3_readYear 24 = .ok (.ifCond .eq 86, 3) := by decide +kernel
theorem dX3_readYear_27 : decode cX3_readYear 27 = .ok (.aload_n 0, 1) := by decide +kernel
theorem dX3_readYear_28 : decode cX3_readYear 28 = .ok (.invokevirtual 52, 3) := by decide +kernel
theorem dX3_readYear_31 : decode cX3_readYear 31 = .ok (.invokestatic 94, 3) := by decide +kernel
theorem dX3_readYear_34 : decode cX3_readYear 34 = .ok (.istore 7, 2) := by decide +kernel
theorem dX3_readYear_36 : decode cX3_readYear 36 = .ok (.iload 7, 2) := by decide +kernel
theorem dX3_readYear_38 : decode cX3_readYear 38 = .ok (.invokestatic 97, 3) := by decide +kernel
theorem dX3_readYear_41 : decode cX3_readYear 41 = .ok (.istore 8, 2) := by decide +kernel
theorem dX3_readYear_43 : decode cX3_readYear 43 = .ok (.iload 7, 2) := by decide +kernel
theorem dX3_readYear_45 : decode cX3_readYear 45 = .ok (.ifCond .eq 27, 3) := by decide +kernel
theorem dX3_readYear_48 : decode cX3_readYear 48 = .ok (.iload 4, 2) := by decide +kernel
theorem dX3_readYear_50 : decode cX3_readYear 50 = .ok (.aload_n 1, 1) := by decide +kernel
theorem dX3_readYear_51 : decode cX3_readYear 51 = .ok (.getfield 101, 3) := by decide +kernel
theorem dX3_readYear_54 : decode cX3_readYear 54 = .ok (.iadd, 1) := by decide +kernel
theorem dX3_readYear_55 : decode cX3_readYear 55 = .ok (.bipush 40, 2) := by decide +kernel
theorem dX3_readYear_57 : decode cX3_readYear 57 = .ok (.if_icmp .ge 15, 3) := by decide +kernel
theorem dX3_readYear_60 : decode cX3_readYear 60 = .ok (.iload 8, 2) := by decide +kernel
theorem dX3_readYear_62 : decode cX3_readYear 62 = .ok (.ifCond .eq 17, 3) := by decide +kernel
theorem dX3_readYear_65 : decode cX3_readYear 65 = .ok (.iload 5, 2) := by decide +kernel
theorem dX3_readYear_67 : decode cX3_readYear 67 = .ok (.bipush 24, 2) := by decide +kernel
theorem dX3_readYear_69 : decode cX3_readYear 69 = .ok (.if_icmp .lt 10, 3) := by decide +kernel
theorem dX3_readYear_72 : decode cX3_readYear 72 = .ok (.aload_n 0, 1) := by decide +kernel
theorem dX3_readYear_73 : decode cX3_readYear 73 = .ok (.invokevirtual 69, 3) := by decide +kernel
theorem dX3_readYear_76 : decode cX3_readYear 76 = .ok (.goto 28, 3) := by decide +kernel
theorem dX3_readYear_79 : decode cX3_readYear 79 = .ok (.aload_n 0, 1) := by decide +kernel
theorem dX3_readYear_80 : decode cX3_readYear 80 = .ok (.aload_n 1, 1) := by decide +kernel
theorem dX3_readYear_81 : decode cX3_readYear 81 = .ok (.iload 7, 2) := by decide +kernel
theorem dX3_readYear_83 : decode cX3_readYear 83 = .ok (.aload_n 2, 1) := by decide +kernel
theorem dX3_readYear_84 : decode cX3_readYear 84 = .ok (.iload 5, 2) := by decide +kernel
theorem dX3_readYear_86 : decode cX3_readYear 86 = .ok (.invokevirtual 102, 3) := by decide +kernel
theorem dX3_readYear_89 : decode cX3_readYear 89 = .ok (.iload 5, 2) := by decide +kernel
theorem dX3_readYear_91 : decode cX3_readYear 91 = .ok (.iload 8, 2) := by decide +kernel
theorem dX3_readYear_93 : decode cX3_readYear 93 = .ok (.ifCond .eq 7, 3) := by decide +kernel
theorem dX3_readYear_96 : decode cX3_readYear 96 = .ok (.iconst 1, 1) := by decide +kernel
theorem dX3_readYear_97 : decode cX3_readYear 97 = .ok (.goto 4, 3) := by decide +kernel
theorem dX3_readYear_100 : decode cX3_readYear 100 = .ok (.iconst 0, 1) := by decide +kernel
theorem dX3_readYear_101 : decode cX3_readYear 101 = .ok (.iadd, 1) := by decide +kernel
theorem dX3_readYear_102 : decode cX3_readYear 102 = .ok (.istore 5, 2) := by decide +kernel
theorem dX3_readYear_104 : decode cX3_readYear 104 = .ok (.iinc 6 1, 3) := by decide +kernel
theorem dX3_readYear_107 : decode cX3_readYear 107 = .ok (.goto (-96), 3) := by decide +kernel
theorem dX3_readYear_110 : decode cX3_readYear 110 = .ok (.return_, 1) := by decide +kernel
theorem dX3_readEvent_0 : decode cX3_readEvent 0 = .ok (.iload_n 2, 1) := by decide +kernel
theorem dX3_readEvent_1 : decode cX3_readEvent 1 = .ok (.bipush 7, 2) := by decide +kernel
theorem dX3_readEvent_3 : decode cX3_readEvent 3 = .ok (.if_icmp .eq 7, 3) := by decide +kernel
theorem dX3_readEvent_6 : decode cX3_readEvent 6 = .ok (.iconst 0, 1) := by decide +kernel
theorem dX3_readEvent_7 : decode cX3_readEvent 7 = .ok (.goto 17, 3) := by decide +kernel
theorem dX3_readEvent_10 : decode cX3_readEvent 10 = .ok (.aload_n 0, 1) := by decide +kernel
theorem dX3_readEvent_11 : decode cX3_readEvent 11 = .ok (.invokevirtual 52, 3) := by decide +kernel
theorem dX3_readEvent_14 : decode cX3_readEvent 14 = .ok (.bipush 102, 2) := by decide +kernel
theorem dX3_readEvent_16 : decode cX3_readEvent 16 = .ok (.if_icmp .ne 7, 3) := by decide +kernel
theorem dX3_readEvent_19 : decode cX3_readEvent 19 = .ok (.iconst 1, 1) := by decide +kernel
theorem dX3_readEvent_20 : decode cX3_readEvent 20 = .ok (.goto 4, 3) := by decide +kernel
theorem dX3_readEvent_23 : decode cX3_readEvent 23 = .ok (.iconst (-1), 1) := by decide +kernel
theorem dX3_readEvent_24 : decode cX3_readEvent 24 = .ok (.istore 5, 2) := by decide +kernel
theorem dX3_readEvent_26 : decode cX3_readEvent 26 = .ok (.iconst 0, 1) := by decide +kernel
theorem dX3_readEvent_27 : decode cX3_readEvent 27 = .ok (.istore 6, 2) := by decide +kernel
theorem dX3_readEvent_29 : decode cX3_readEvent 29 = .ok (.iconst 0, 1) := by decide +kernel
theorem dX3_readEvent_30 : decode cX3_readEvent 30 = .ok (.istore 7, 2) := by decide +kernel
theorem dX3_readEvent_32 : decode cX3_readEvent 32 = .ok (.aload_n 0, 1) := by decide +kernel
theorem dX3_readEvent_33 : decode cX3_readEvent 33 = .ok (.dup, 1) := by decide +kernel
theorem dX3_readEvent_34 : decode cX3_readEvent 34 = .ok (.getfield 40, 3) := by decide +kernel
theorem dX3_readEvent_37 : decode cX3_readEvent 37 = .ok (.iconst 1, 1) := by decide +kernel
theorem dX3_readEvent_38 : decode cX3_readEvent 38 = .ok (.iadd, 1) := by decide +kernel
theorem dX3_readEvent_39 : decode cX3_readEvent 39 = .ok (.putfield 40, 3) := by decide +kernel
theorem dX3_readEvent_42 : decode cX3_readEvent 42 = .ok (.iload_n 2, 1) := by decide +kernel
theorem dX3_readEvent_43 : decode cX3_readEvent 43 = .ok (.iconst 1, 1) := by decide +kernel
theorem dX3_readEvent_44 : decode cX3_readEvent 44 = .ok (.if_icmp .eq 9, 3) := by decide +kernel
theorem dX3_readEvent_47 : decode cX3_readEvent 47 = .ok (.iload_n 2, 1) := by decide +kernel
theorem dX3_readEvent_48 : decode cX3_readEvent 48 = .ok (.bipush 6, 2) := by decide +kernel
theorem dX3_readEvent_50 : decode cX3_readEvent 50 = .ok (.if_icmp .ne 16, 3) := by decide +kernel
theorem dX3_readEvent_53 : decode cX3_readEvent 53 = .ok (.aload_n 0, 1) := by decide +kernel
theorem dX3_readEvent_54 : decode cX3_readEvent 54 = .ok (.aload_n 3, 1) := by decide +kernel
theorem dX3_readEvent_55 : decode cX3_readEvent 55 = .ok (.getfield 56, 3) := by decide +kernel
theorem dX3_readEvent_58 : decode cX3_readEvent 58 = .ok (.invokevirtual 79, 3) := by decide +kernel
theorem dX3_readEvent_61 : decode cX3_readEvent 61 = .ok (.istore 6, 2) := by decide +kernel
theorem dX3_readEvent_63 : decode cX3_readEvent 63 = .ok (.goto 24, 3) := by decide +kernel
theorem dX3_readEvent_66 : decode cX3_readEvent 66 = .ok (.aload_n 0, 1) := by decide +kernel
theorem dX3_readEvent_67 : decode cX3_readEvent 67 = .ok (.iload_n 2, 1) := by decide +kernel
theorem dX3_readEvent_68 : decode cX3_readEvent 68 = .ok (.bipush 7, 2) := by decide +kernel
theorem dX3_readEvent_70 : decode cX3_readEvent 70 = .ok (.if_icmp .ne 10, 3) := by decide +kernel
theorem dX3_readEvent_73 : decode cX3_readEvent 73 = .ok (.aload_n 3, 1) := by decide +kernel
theorem dX3_readEvent_74 : decode cX3_readEvent 74 = .ok (.getfield 63, 3) := by decide +kernel
theorem dX3_readEvent_77 : decode cX3_readEvent 77 = .ok (.goto 5, 3) := by decide +kernel
theorem dX3_readEvent_80 : decode cX3_readEvent 80 = .ok (.iload 4, 2) := by decide +kernel
theorem dX3_readEvent_82 : decode cX3_readEvent 82 = .ok (.invokevirtual 72, 3) := by decide +kernel
theorem dX3_readEvent_85 : decode cX3_readEvent 85 = .ok (.istore 6, 2) := by decide +kernel
theorem dX3_readEvent_87 : decode cX3_readEvent 87 = .ok (.iload_n 2, 1) := by decide +kernel
theorem dX3_readEvent_88 : decode cX3_readEvent 88 = .ok (.bipush 6, 2) := by decide +kernel
theorem dX3_readEvent_90 : decode cX3_readEvent 90 = .ok (.if_icmp .eq 42, 3) := by decide +kernel
theorem dX3_readEvent_93 : decode cX3_readEvent 93 = .ok (.aload_n 0, 1) := by decide +kernel
theorem dX3_readEvent_94 : decode cX3_readEvent 94 = .ok (.iload_n 2, 1) := by decide +kernel
theorem dX3_readEvent_95 : decode cX3_readEvent 95 = .ok (.invokestatic 106, 3) := by decide +kernel
theorem dX3_readEvent_98 : decode cX3_readEvent 98 = .ok (.invokevirtual 82, 3) := by decide +kernel
theorem dX3_readEvent_101 : decode cX3_readEvent 101 = .ok (.iload_n 2, 1) := by decide +kernel
theorem dX3_readEvent_102 : decode cX3_readEvent 102 = .ok (.iconst 4, 1) := by decide +kernel
theorem dX3_readEvent_103 : decode cX3_readEvent 103 = .ok (.if_icmp .eq 8, 3) := by decide +kernel
theorem dX3_readEvent_106 : decode cX3_readEvent 106 = .ok (.iload_n 2, 1) := by decide +kernel
theorem dX3_readEvent_107 : decode cX3_readEvent 107 = .ok (.iconst 5, 1) := by decide +kernel
theorem dX3_readEvent_108 : decode cX3_readEvent 108 = .ok (.if_icmp .ne 14, 3) := by decide +kernel
theorem dX3_readEvent_111 : decode cX3_readEvent 111 = .ok (.aload_n 0, 1) := by decide +kernel
theorem dX3_readEvent_112 : decode cX3_readEvent 112 = .ok (.aload_n 3, 1) := by decide +kernel
theorem dX3_readEvent_113 : decode cX3_readEvent 113 = .ok (.getfield 56, 3) := by decide +kernel
theorem dX3_readEvent_116 : decode cX3_readEvent 116 = .ok (.invokevirtual 79, 3) := by decide +kernel
theorem dX3_readEvent_119 : decode cX3_readEvent 119 = .ok (.goto 11, 3) := by decide +kernel
theorem dX3_readEvent_122 : decode cX3_readEvent 122 = .ok (.aload_n 0, 1) := by decide +kernel
theorem dX3_readEvent_123 : decode cX3_readEvent 123 = .ok (.aload_n 3, 1) := by decide +kernel
theorem dX3_readEvent_124 : decode cX3_readEvent 124 = .ok (.getfield 63, 3) := by decide +kernel
theorem dX3_readEvent_127 : decode cX3_readEvent 127 = .ok (.invokevirtual 72, 3) := by decide +kernel
theorem dX3_readEvent_130 : decode cX3_readEvent 130 = .ok (.istore 7, 2) := by decide +kernel
theorem dX3_readEvent_132 : decode cX3_readEvent 132 = .ok (.iload_n 2, 1) := by decide +kernel
theorem dX3_readEvent_133 : decode cX3_readEvent 133 = .ok (.bipush 7, 2) := by decide +kernel
theorem dX3_readEvent_135 : decode cX3_readEvent 135 = .ok (.if_icmp .ne 14, 3) := by decide +kernel
theorem dX3_readEvent_138 : decode cX3_readEvent 138 = .ok (.iload 6, 2) := by decide +kernel
theorem dX3_readEvent_140 : decode cX3_readEvent 140 = .ok (.iload 7, 2) := by decide +kernel
theorem dX3_readEvent_142 : decode cX3_readEvent 142 = .ok (.if_icmp .ne 7, 3) := by decide +kernel
theorem dX3_readEvent_145 : decode cX3_readEvent 145 = .ok (.aload_n 0, 1) := by decide +kernel
theorem dX3_readEvent_146 : decode cX3_readEvent 146 = .ok (.invokevirtual 69, 3) := by decide +kernel
theorem dX3_readEvent_149 : decode cX3_readEvent 149 = .ok (.aload_n 0, 1) := by decide +kernel
theorem dX3_readEvent_150 : decode cX3_readEvent 150 = .ok (.getfield 15, 3) := by decide +kernel
theorem dX3_readEvent_153 : decode cX3_readEvent 153 = .ok (.bipush (-9), 2) := by decide +kernel
theorem dX3_readEvent_155 : decode cX3_readEvent 155 = .ok (.if_icmp .ne 14, 3) := by decide +kernel
theorem dX3_readEvent_158 : decode cX3_readEvent 158 = .ok (.aload_n 1, 1) := by decide +kernel
theorem dX3_readEvent_159 : decode cX3_readEvent 159 = .ok (.iload_n 2, 1) := by decide +kernel
theorem dX3_readEvent_160 : decode cX3_readEvent 160 = .ok (.iload 6, 2) := by decide +kernel
theorem dX3_readEvent_162 : decode cX3_readEvent 162 = .ok (.iload 7, 2) := by decide +kernel
theorem dX3_readEvent_164 : decode cX3_readEvent 164 = .ok (.iload 5, 2) := by decide +kernel
theorem dX3_readEvent_166 : decode cX3_readEvent 166 = .ok (.invokevirtual 109, 3) := by decide +kernel
theorem dX3_readEvent_169 : decode cX3_readEvent 169 = .ok (.return_, 1) := by decide +kernel
theorem dX3_kindOf_0 : decode cX3_kindOf 0 = .ok (.iload_n 0, 1) := by decide +kernel
theorem dX3_kindOf_1 : decode cX3_kindOf 1 = .ok (.tableswitch 119 99 120 #[105, 119, 119, 116, 107, 119, 111, 119, 119, 109, 103, 119, 119, 119, 116, 119, 119, 119, 119, 119, 119, 113], 103) := by decide +kernel
theorem dX3_kindOf_104 : decode cX3_kindOf 104 = .ok (.iconst 1, 1) := by decide +kernel
theorem dX3_kindOf_105 : decode cX3_kindOf 105 = .ok (.ireturn, 1) := by decide +kernel
theorem dX3_kindOf_106 : decode cX3_kindOf 106 = .ok (.iconst 2, 1) := by decide +kernel
theorem dX3_kindOf_107 : decode cX3_kindOf 107 = .ok (.ireturn, 1) := by decide +kernel
theorem dX3_kindOf_108 : decode cX3_kindOf 108 = .ok (.iconst 3, 1) := by decide +kernel
theorem dX3_kindOf_109 : decode cX3_kindOf 109 = .ok (.ireturn, 1) := by decide +kernel
theorem dX3_kindOf_110 : decode cX3_kindOf 110 = .ok (.iconst 4, 1) := by decide +kernel
theorem dX3_kindOf_111 : decode cX3_kindOf 111 = .ok (.ireturn, 1) := by decide +kernel
theorem dX3_kindOf_112 : decode cX3_kindOf 112 = .ok (.iconst 5, 1) := by decide +kernel
theorem dX3_kindOf_113 : decode cX3_kindOf 113 = .ok (.ireturn, 1) := by decide +kernel
theorem dX3_kindOf_114 : decode cX3_kindOf 114 = .ok (.bipush 6, 2) := by decide +kernel
theorem dX3_kindOf_116 : decode cX3_kindOf 116 = .ok (.ireturn, 1) := by decide +kernel
theorem dX3_kindOf_117 : decode cX3_kindOf 117 = .ok (.bipush 7, 2) := by decide +kernel
theorem dX3_kindOf_119 : decode cX3_kindOf 119 = .ok (.ireturn, 1) := by decide +kernel
theorem dX3_kindOf_120 : decode cX3_kindOf 120 = .ok (.iconst 0, 1) := by decide +kernel
theorem dX3_kindOf_121 : decode cX3_kindOf 121 = .ok (.ireturn, 1) := by decide +kernel
theorem dX3_joint_0 : decode cX3_joint 0 = .ok (.iload_n 0, 1) := by decide +kernel
theorem dX3_joint_1 : decode cX3_joint 1 = .ok (.iconst 4, 1) := by decide +kernel
theorem dX3_joint_2 : decode cX3_joint 2 = .ok (.if_icmp .eq 8, 3) := by decide +kernel
theorem dX3_joint_5 : decode cX3_joint 5 = .ok (.iload_n 0, 1) := by decide +kernel
theorem dX3_joint_6 : decode cX3_joint 6 = .ok (.iconst 5, 1) := by decide +kernel
theorem dX3_joint_7 : decode cX3_joint 7 = .ok (.if_icmp .ne 6, 3) := by decide +kernel
theorem dX3_joint_10 : decode cX3_joint 10 = .ok (.bipush 64, 2) := by decide +kernel
theorem dX3_joint_12 : decode cX3_joint 12 = .ok (.ireturn, 1) := by decide +kernel
theorem dX3_joint_13 : decode cX3_joint 13 = .ok (.iload_n 0, 1) := by decide +kernel
theorem dX3_joint_14 : decode cX3_joint 14 = .ok (.bipush 7, 2) := by decide +kernel
theorem dX3_joint_16 : decode cX3_joint 16 = .ok (.if_icmp .ne 8, 3) := by decide +kernel
theorem dX3_joint_19 : decode cX3_joint 19 = .ok (.bipush 47, 2) := by decide +kernel
theorem dX3_joint_21 : decode cX3_joint 21 = .ok (.goto 5, 3) := by decide +kernel
theorem dX3_joint_24 : decode cX3_joint 24 = .ok (.bipush 62, 2) := by decide +kernel
theorem dX3_joint_26 : decode cX3_joint 26 = .ok (.ireturn, 1) := by decide +kernel
theorem dX3_skipToItem_0 : decode cX3_skipToItem 0 = .ok (.iconst 0, 1) := by decide +kernel
theorem dX3_skipToItem_1 : decode cX3_skipToItem 1 = .ok (.istore_n 1, 1) := by decide +kernel
theorem dX3_skipToItem_2 : decode cX3_skipToItem 2 = .ok (.iload_n 1, 1) := by decide +kernel
theorem dX3_skipToItem_3 : decode cX3_skipToItem 3 = .ok (.aload_n 0, 1) := by decide +kernel
theorem dX3_skipToItem_4 : decode cX3_skipToItem 4 = .ok (.getfield 34, 3) := by decide +kernel
theorem dX3_skipToItem_7 : decode cX3_skipToItem 7 = .ok (.if_icmp .ge 28, 3) := by decide +kernel
theorem dX3_skipToItem_10 : decode cX3_skipToItem 10 = .ok (.aload_n 0, 1) := by decide +kernel
theorem dX3_skipToItem_11 : decode cX3_skipToItem 11 = .ok (.invokevirtual 52, 3) := by decide +kernel
theorem dX3_skipToItem_14 : decode cX3_skipToItem 14 = .ok (.bipush 32, 2) := by decide +kernel
theorem dX3_skipToItem_16 : decode cX3_skipToItem 16 = .ok (.if_icmp .ne 19, 3) := by decide +kernel
theorem dX3_skipToItem_19 : decode cX3_skipToItem 19 = .ok (.aload_n 0, 1) := by decide +kernel
theorem dX3_skipToItem_20 : decode cX3_skipToItem 20 = .ok (.dup, 1) := by decide +kernel
theorem dX3_skipToItem_21 : decode cX3_skipToItem 21 = .ok (.getfield 40, 3) := by decide +kernel
theorem dX3_skipToItem_24 : decode cX3_skipToItem 24 = .ok (.iconst 1, 1) := by decide +kernel
theorem dX3_skipToItem_25 : decode cX3_skipToItem 25 = .ok (.iadd, 1) := by decide +kernel
theorem dX3_skipToItem_26 : decode cX3_skipToItem 26 = .ok (.putfield 40, 3) := by decide +kernel
theorem dX3_skipToItem_29 : decode cX3_skipToItem 29 = .ok (.iinc 1 1, 3) := by decide +kernel
theorem dX3_skipToItem_32 : decode cX3_skipToItem 32 = .ok (.goto (-30), 3) := by decide +kernel
theorem dX3_skipToItem_35 : decode cX3_skipToItem 35 = .ok (.aload_n 0, 1) := by decide +kernel
theorem dX3_skipToItem_36 : decode cX3_skipToItem 36 = .ok (.getfield 15, 3) := by decide +kernel
theorem dX3_skipToItem_39 : decode cX3_skipToItem 39 = .ok (.bipush (-9), 2) := by decide +kernel
theorem dX3_skipToItem_41 : decode cX3_skipToItem 41 = .ok (.if_icmp .ne 18, 3) := by decide +kernel
theorem dX3_skipToItem_44 : decode cX3_skipToItem 44 = .ok (.aload_n 0, 1) := by decide +kernel
theorem dX3_skipToItem_45 : decode cX3_skipToItem 45 = .ok (.getfield 40, 3) := by decide +kernel
theorem dX3_skipToItem_48 : decode cX3_skipToItem 48 = .ok (.aload_n 0, 1) := by decide +kernel
theorem dX3_skipToItem_49 : decode cX3_skipToItem 49 = .ok (.getfield 34, 3) := by decide +kernel
theorem dX3_skipToItem_52 : decode cX3_skipToItem 52 = .ok (.if_icmp .ge 7, 3) := by decide +kernel
theorem dX3_skipToItem_55 : decode cX3_skipToItem 55 = .ok (.iconst 1, 1) := by decide +kernel
theorem dX3_skipToItem_56 : decode cX3_skipToItem 56 = .ok (.goto 4, 3) := by decide +kernel
theorem dX3_skipToItem_59 : decode cX3_skipToItem 59 = .ok (.iconst 0, 1) := by decide +kernel
theorem dX3_skipToItem_60 : decode cX3_skipToItem 60 = .ok (.ireturn, 1) := by decide +kernel
theorem dX3_sign_0 : decode cX3_sign 0 = .ok (.aload_n 0, 1) := by decide +kernel
theorem dX3_sign_1 : decode cX3_sign 1 = .ok (.getfield 40, 3) := by decide +kernel
theorem dX3_sign_4 : decode cX3_sign 4 = .ok (.ifCond .lt 26, 3) := by decide +kernel
theorem dX3_sign_7 : decode cX3_sign 7 = .ok (.aload_n 0, 1) := by decide +kernel
theorem dX3_sign_8 : decode cX3_sign 8 = .ok (.getfield 40, 3) := by decide +kernel
theorem dX3_sign_11 : decode cX3_sign 11 = .ok (.aload_n 0, 1) := by decide +kernel
theorem dX3_sign_12 : decode cX3_sign 12 = .ok (.getfield 34, 3) := by decide +kernel
theorem dX3_sign_15 : decode cX3_sign 15 = .ok (.if_icmp .ge 15, 3) := by decide +kernel
theorem dX3_sign_18 : decode cX3_sign 18 = .ok (.aload_n 0, 1) := by decide +kernel
theorem dX3_sign_19 : decode cX3_sign 19 = .ok (.getfield 9, 3) := by decide +kernel
theorem dX3_sign_22 : decode cX3_sign 22 = .ok (.aload_n 0, 1) := by decide +kernel
theorem dX3_sign_23 : decode cX3_sign 23 = .ok (.getfield 40, 3) := by decide +kernel
theorem dX3_sign_26 : decode cX3_sign 26 = .ok (.iaload, 1) := by decide +kernel
theorem dX3_sign_27 : decode cX3_sign 27 = .ok (.goto 6, 3) := by decide +kernel
theorem dX3_sign_30 : decode cX3_sign 30 = .ok (.sipush 1000, 3) := by decide +kernel
theorem dX3_sign_33 : decode cX3_sign 33 = .ok (.ireturn, 1) := by decide +kernel
theorem dX3_stop_0 : decode cX3_stop 0 = .ok (.aload_n 0, 1) := by decide +kernel
theorem dX3_stop_1 : decode cX3_stop 1 = .ok (.getfield 15, 3) := by decide +kernel
theorem dX3_stop_4 : decode cX3_stop 4 = .ok (.bipush (-9), 2) := by decide +kernel
theorem dX3_stop_6 : decode cX3_stop 6 = .ok (.if_icmp .ne 11, 3) := by decide +kernel
theorem dX3_stop_9 : decode cX3_stop 9 = .ok (.aload_n 0, 1) := by decide +kernel
theorem dX3_stop_10 : decode cX3_stop 10 = .ok (.aload_n 0, 1) := by decide +kernel
theorem dX3_stop_11 : decode cX3_stop 11 = .ok (.getfield 40, 3) := by decide +kernel
theorem dX3_stop_14 : decode cX3_stop 14 = .ok (.putfield 15, 3) := by decide +kernel
theorem dX3_stop_17 : decode cX3_stop 17 = .ok (.return_, 1) := by decide +kernel
theorem dX3_expect_0 : decode cX3_expect 0 = .ok (.aload_n 0, 1) := by decide +kernel
theorem dX3_expect_1 : decode cX3_expect 1 = .ok (.getfield 15, 3) := by decide +kernel
theorem dX3_expect_4 : decode cX3_expect 4 = .ok (.bipush (-9), 2) := by decide +kernel
theorem dX3_expect_6 : decode cX3_expect 6 = .ok (.if_icmp .ne 24, 3) := by decide +kernel
theorem dX3_expect_9 : decode cX3_expect 9 = .ok (.aload_n 0, 1) := by decide +kernel
theorem dX3_expect_10 : decode cX3_expect 10 = .ok (.invokevirtual 52, 3) := by decide +kernel
theorem dX3_expect_13 : decode cX3_expect 13 = .ok (.iload_n 1, 1) := by decide +kernel
theorem dX3_expect_14 : decode cX3_expect 14 = .ok (.if_icmp .ne 16, 3) := by decide +kernel
theorem dX3_expect_17 : decode cX3_expect 17 = .ok (.aload_n 0, 1) := by decide +kernel
theorem dX3_expect_18 : decode cX3_expect 18 = .ok (.dup, 1) := by decide +kernel
theorem dX3_expect_19 : decode cX3_expect 19 = .ok (.getfield 40, 3) := by decide +kernel
theorem dX3_expect_22 : decode cX3_expect 22 = .ok (.iconst 1, 1) := by decide +kernel
theorem dX3_expect_23 : decode cX3_expect 23 = .ok (.iadd, 1) := by decide +kernel
theorem dX3_expect_24 : decode cX3_expect 24 = .ok (.putfield 40, 3) := by decide +kernel
theorem dX3_expect_27 : decode cX3_expect 27 = .ok (.goto 7, 3) := by decide +kernel
theorem dX3_expect_30 : decode cX3_expect 30 = .ok (.aload_n 0, 1) := by decide +kernel
theorem dX3_expect_31 : decode cX3_expect 31 = .ok (.invokevirtual 69, 3) := by decide +kernel
theorem dX3_expect_34 : decode cX3_expect 34 = .ok (.return_, 1) := by decide +kernel
theorem dX3_figure_0 : decode cX3_figure 0 = .ok (.aload_n 0, 1) := by decide +kernel
theorem dX3_figure_1 : decode cX3_figure 1 = .ok (.invokevirtual 52, 3) := by decide +kernel
theorem dX3_figure_4 : decode cX3_figure 4 = .ok (.bipush 48, 2) := by decide +kernel
theorem dX3_figure_6 : decode cX3_figure 6 = .ok (.isub, 1) := by decide +kernel
theorem dX3_figure_7 : decode cX3_figure 7 = .ok (.istore_n 2, 1) := by decide +kernel
theorem dX3_figure_8 : decode cX3_figure 8 = .ok (.aload_n 0, 1) := by decide +kernel
theorem dX3_figure_9 : decode cX3_figure 9 = .ok (.getfield 15, 3) := by decide +kernel
theorem dX3_figure_12 : decode cX3_figure 12 = .ok (.bipush (-9), 2) := by decide +kernel
theorem dX3_figure_14 : decode cX3_figure 14 = .ok (.if_icmp .ne 18, 3) := by decide +kernel
theorem dX3_figure_17 : decode cX3_figure 17 = .ok (.iload_n 2, 1) := by decide +kernel
theorem dX3_figure_18 : decode cX3_figure 18 = .ok (.ifCond .lt 14, 3) := by decide +kernel
theorem dX3_figure_21 : decode cX3_figure 21 = .ok (.iload_n 2, 1) := by decide +kernel
theorem dX3_figure_22 : decode cX3_figure 22 = .ok (.bipush 9, 2) := by decide +kernel
theorem dX3_figure_24 : decode cX3_figure 24 = .ok (.if_icmp .gt 8, 3) := by decide +kernel
theorem dX3_figure_27 : decode cX3_figure 27 = .ok (.iload_n 2, 1) := by decide +kernel
theorem dX3_figure_28 : decode cX3_figure 28 = .ok (.iload_n 1, 1) := by decide +kernel
theorem dX3_figure_29 : decode cX3_figure 29 = .ok (.if_icmp .lt 9, 3) := by decide +kernel
theorem dX3_figure_32 : decode cX3_figure 32 = .ok (.aload_n 0, 1) := by decide +kernel
theorem dX3_figure_33 : decode cX3_figure 33 = .ok (.invokevirtual 69, 3) := by decide +kernel
theorem dX3_figure_36 : decode cX3_figure 36 = .ok (.iconst 0, 1) := by decide +kernel
theorem dX3_figure_37 : decode cX3_figure 37 = .ok (.ireturn, 1) := by decide +kernel
theorem dX3_figure_38 : decode cX3_figure 38 = .ok (.aload_n 0, 1) := by decide +kernel
theorem dX3_figure_39 : decode cX3_figure 39 = .ok (.dup, 1) := by decide +kernel
theorem dX3_figure_40 : decode cX3_figure 40 = .ok (.getfield 40, 3) := by decide +kernel
theorem dX3_figure_43 : decode cX3_figure 43 = .ok (.iconst 1, 1) := by decide +kernel
theorem dX3_figure_44 : decode cX3_figure 44 = .ok (.iadd, 1) := by decide +kernel
theorem dX3_figure_45 : decode cX3_figure 45 = .ok (.putfield 40, 3) := by decide +kernel
theorem dX3_figure_48 : decode cX3_figure 48 = .ok (.iload_n 2, 1) := by decide +kernel
theorem dX3_figure_49 : decode cX3_figure 49 = .ok (.ireturn, 1) := by decide +kernel
theorem dX3_number_0 : decode cX3_number 0 = .ok (.aload_n 0, 1) := by decide +kernel
theorem dX3_number_1 : decode cX3_number 1 = .ok (.bipush 10, 2) := by decide +kernel
theorem dX3_number_3 : decode cX3_number 3 = .ok (.invokevirtual 79, 3) := by decide +kernel
theorem dX3_number_6 : decode cX3_number 6 = .ok (.istore_n 2, 1) := by decide +kernel
theorem dX3_number_7 : decode cX3_number 7 = .ok (.aload_n 0, 1) := by decide +kernel
theorem dX3_number_8 : decode cX3_number 8 = .ok (.invokevirtual 52, 3) := by decide +kernel
theorem dX3_number_11 : decode cX3_number 11 = .ok (.bipush 48, 2) := by decide +kernel
theorem dX3_number_13 : decode cX3_number 13 = .ok (.if_icmp .lt 24, 3) := by decide +kernel
theorem dX3_number_16 : decode cX3_number 16 = .ok (.aload_n 0, 1) := by decide +kernel
theorem dX3_number_17 : decode cX3_number 17 = .ok (.invokevirtual 52, 3) := by decide +kernel
theorem dX3_number_20 : decode cX3_number 20 = .ok (.bipush 57, 2) := by decide +kernel
theorem dX3_number_22 : decode cX3_number 22 = .ok (.if_icmp .gt 15, 3) := by decide +kernel
theorem dX3_number_25 : decode cX3_number 25 = .ok (.bipush 10, 2) := by decide +kernel
theorem dX3_number_27 : decode cX3_number 27 = .ok (.iload_n 2, 1) := by decide +kernel
theorem dX3_number_28 : decode cX3_number 28 = .ok (.imul, 1) := by decide +kernel
theorem dX3_number_29 : decode cX3_number 29 = .ok (.aload_n 0, 1) := by decide +kernel
theorem dX3_number_30 : decode cX3_number 30 = .ok (.bipush 10, 2) := by decide +kernel
theorem dX3_number_32 : decode cX3_number 32 = .ok (.invokevirtual 79, 3) := by decide +kernel
theorem dX3_number_35 : decode cX3_number 35 = .ok (.iadd, 1) := by decide +kernel
theorem dX3_number_36 : decode cX3_number 36 = .ok (.istore_n 2, 1) := by decide +kernel
theorem dX3_number_37 : decode cX3_number 37 = .ok (.iload_n 2, 1) := by decide +kernel
theorem dX3_number_38 : decode cX3_number 38 = .ok (.iload_n 1, 1) := by decide +kernel
theorem dX3_number_39 : decode cX3_number 39 = .ok (.if_icmp .lt 7, 3) := by decide +kernel
theorem dX3_number_42 : decode cX3_number 42 = .ok (.aload_n 0, 1) := by decide +kernel
theorem dX3_number_43 : decode cX3_number 43 = .ok (.invokevirtual 69, 3) := by decide +kernel
theorem dX3_number_46 : decode cX3_number 46 = .ok (.iload_n 2, 1) := by decide +kernel
theorem dX3_number_47 : decode cX3_number 47 = .ok (.ireturn, 1) := by decide +kernel
theorem dX4_init_0 : decode cX4_init 0 = .ok (.aload_n 0, 1) := by decide +kernel
theorem dX4_init_1 : decode cX4_init 1 = .ok (.invokespecial 3, 3) := by decide +kernel
theorem dX4_init_4 : decode cX4_init 4 = .ok (.aload_n 0, 1) := by decide +kernel
theorem dX4_init_5 : decode cX4_init 5 = .ok (.iload_n 2, 1) := by decide +kernel
theorem dX4_init_6 : decode cX4_init 6 = .ok (.putfield 9, 3) := by decide +kernel
theorem dX4_init_9 : decode cX4_init 9 = .ok (.aload_n 0, 1) := by decide +kernel
theorem dX4_init_10 : decode cX4_init 10 = .ok (.iload_n 1, 1) := by decide +kernel
theorem dX4_init_11 : decode cX4_init 11 = .ok (.newarray .int, 2) := by decide +kernel
theorem dX4_init_13 : decode cX4_init 13 = .ok (.putfield 15, 3) := by decide +kernel
theorem dX4_init_16 : decode cX4_init 16 = .ok (.aload_n 0, 1) := by decide +kernel
theorem dX4_init_17 : decode cX4_init 17 = .ok (.iload_n 1, 1) := by decide +kernel
theorem dX4_init_18 : decode cX4_init 18 = .ok (.iload_n 2, 1) := by decide +kernel
theorem dX4_init_19 : decode cX4_init 19 = .ok (.imul, 1) := by decide +kernel
theorem dX4_init_20 : decode cX4_init 20 = .ok (.newarray .int, 2) := by decide +kernel
theorem dX4_init_22 : decode cX4_init 22 = .ok (.putfield 19, 3) := by decide +kernel
theorem dX4_init_25 : decode cX4_init 25 = .ok (.iconst 0, 1) := by decide +kernel
theorem dX4_init_26 : decode cX4_init 26 = .ok (.istore_n 3, 1) := by decide +kernel
theorem dX4_init_27 : decode cX4_init 27 = .ok (.iload_n 3, 1) := by decide +kernel
theorem dX4_init_28 : decode cX4_init 28 = .ok (.iload_n 1, 1) := by decide +kernel
theorem dX4_init_29 : decode cX4_init 29 = .ok (.if_icmp .ge 16, 3) := by decide +kernel
theorem dX4_init_32 : decode cX4_init 32 = .ok (.aload_n 0, 1) := by decide +kernel
theorem dX4_init_33 : decode cX4_init 33 = .ok (.getfield 15, 3) := by decide +kernel
theorem dX4_init_36 : decode cX4_init 36 = .ok (.iload_n 3, 1) := by decide +kernel
theorem dX4_init_37 : decode cX4_init 37 = .ok (.iconst (-1), 1) := by decide +kernel
theorem dX4_init_38 : decode cX4_init 38 = .ok (.iastore, 1) := by decide +kernel
theorem dX4_init_39 : decode cX4_init 39 = .ok (.iinc 3 1, 3) := by decide +kernel
theorem dX4_init_42 : decode cX4_init 42 = .ok (.goto (-15), 3) := by decide +kernel
theorem dX4_init_45 : decode cX4_init 45 = .ok (.return_, 1) := by decide +kernel
theorem dX4_knows_0 : decode cX4_knows 0 = .ok (.iload_n 1, 1) := by decide +kernel
theorem dX4_knows_1 : decode cX4_knows 1 = .ok (.ifCond .lt 16, 3) := by decide +kernel
theorem dX4_knows_4 : decode cX4_knows 4 = .ok (.iload_n 1, 1) := by decide +kernel
theorem dX4_knows_5 : decode cX4_knows 5 = .ok (.aload_n 0, 1) := by decide +kernel
theorem dX4_knows_6 : decode cX4_knows 6 = .ok (.getfield 15, 3) := by decide +kernel
theorem dX4_knows_9 : decode cX4_knows 9 = .ok (.arraylength, 1) := by decide +kernel
theorem dX4_knows_10 : decode cX4_knows 10 = .ok (.if_icmp .ge 7, 3) := by decide +kernel
theorem dX4_knows_13 : decode cX4_knows 13 = .ok (.iconst 1, 1) := by decide +kernel
theorem dX4_knows_14 : decode cX4_knows 14 = .ok (.goto 4, 3) := by decide +kernel
theorem dX4_knows_17 : decode cX4_knows 17 = .ok (.iconst 0, 1) := by decide +kernel
theorem dX4_knows_18 : decode cX4_knows 18 = .ok (.ireturn, 1) := by decide +kernel
theorem dX4_isThere_0 : decode cX4_isThere 0 = .ok (.aload_n 0, 1) := by decide +kernel
theorem dX4_isThere_1 : decode cX4_isThere 1 = .ok (.iload_n 1, 1) := by decide +kernel
theorem dX4_isThere_2 : decode cX4_isThere 2 = .ok (.invokevirtual 22, 3) := by decide +kernel
theorem dX4_isThere_5 : decode cX4_isThere 5 = .ok (.ifCond .lt 7, 3) := by decide +kernel
theorem dX4_isThere_8 : decode cX4_isThere 8 = .ok (.iconst 1, 1) := by decide +kernel
theorem dX4_isThere_9 : decode cX4_isThere 9 = .ok (.goto 4, 3) := by decide +kernel
theorem dX4_isThere_12 : decode cX4_isThere 12 = .ok (.iconst 0, 1) := by decide +kernel
theorem dX4_isThere_13 : decode cX4_isThere 13 = .ok (.ireturn, 1) := by decide +kernel
theorem dX4_sizeOf_0 : decode cX4_sizeOf 0 = .ok (.aload_n 0, 1) := by decide +kernel
theorem dX4_sizeOf_1 : decode cX4_sizeOf 1 = .ok (.iload_n 1, 1) := by decide +kernel
theorem dX4_sizeOf_2 : decode cX4_sizeOf 2 = .ok (.invokevirtual 26, 3) := by decide +kernel
theorem dX4_sizeOf_5 : decode cX4_sizeOf 5 = .ok (.ifCond .eq 12, 3) := by decide +kernel
theorem dX4_sizeOf_8 : decode cX4_sizeOf 8 = .ok (.aload_n 0, 1) := by decide +kernel
theorem dX4_sizeOf_9 : decode cX4_sizeOf 9 = .ok (.getfield 15, 3) := by decide +kernel
theorem dX4_sizeOf_12 : decode cX4_sizeOf 12 = .ok (.iload_n 1, 1) := by decide +kernel
theorem dX4_sizeOf_13 : decode cX4_sizeOf 13 = .ok (.iaload, 1) := by decide +kernel
theorem dX4_sizeOf_14 : decode cX4_sizeOf 14 = .ok (.goto 4, 3) := by decide +kernel
theorem dX4_sizeOf_17 : decode cX4_sizeOf 17 = .ok (.iconst (-1), 1) := by decide +kernel
theorem dX4_sizeOf_18 : decode cX4_sizeOf 18 = .ok (.ireturn, 1) := by decide +kernel
theorem dX4_spans_0 : decode cX4_spans 0 = .ok (.iload_n 2, 1) := by decide +kernel
theorem dX4_spans_1 : decode cX4_spans 1 = .ok (.ifCond .lt 22, 3) := by decide +kernel
theorem dX4_spans_4 : decode cX4_spans 4 = .ok (.iload_n 3, 1) := by decide +kernel
theorem dX4_spans_5 : decode cX4_spans 5 = .ok (.ifCond .lt 18, 3) := by decide +kernel
theorem dX4_spans_8 : decode cX4_spans 8 = .ok (.iload_n 2, 1) := by decide +kernel
theorem dX4_spans_9 : decode cX4_spans 9 = .ok (.aload_n 0, 1) := by decide +kernel
theorem dX4_spans_10 : decode cX4_spans 10 = .ok (.iload_n 1, 1) := by decide +kernel
theorem dX4_spans_11 : decode cX4_spans 11 = .ok (.invokevirtual 22, 3) := by decide +kernel
theorem dX4_spans_14 : decode cX4_spans 14 = .ok (.iload_n 3, 1) := by decide +kernel
theorem dX4_spans_15 : decode cX4_spans 15 = .ok (.isub, 1) := by decide +kernel
theorem dX4_spans_16 : decode cX4_spans 16 = .ok (.if_icmp .gt 7, 3) := by decide +kernel
theorem dX4_spans_19 : decode cX4_spans 19 = .ok (.iconst 1, 1) := by decide +kernel
theorem dX4_spans_20 : decode cX4_spans 20 = .ok (.goto 4, 3) := by decide +kernel
theorem dX4_spans_23 : decode cX4_spans 23 = .ok (.iconst 0, 1) := by decide +kernel
theorem dX4_spans_24 : decode cX4_spans 24 = .ok (.ireturn, 1) := by decide +kernel
theorem dX4_get_0 : decode cX4_get 0 = .ok (.aload_n 0, 1) := by decide +kernel
theorem dX4_get_1 : decode cX4_get 1 = .ok (.iload_n 1, 1) := by decide +kernel
theorem dX4_get_2 : decode cX4_get 2 = .ok (.iload_n 2, 1) := by decide +kernel
theorem dX4_get_3 : decode cX4_get 3 = .ok (.iconst 1, 1) := by decide +kernel
theorem dX4_get_4 : decode cX4_get 4 = .ok (.invokevirtual 30, 3) := by decide +kernel
theorem dX4_get_7 : decode cX4_get 7 = .ok (.ifCond .eq 19, 3) := by decide +kernel
theorem dX4_get_10 : decode cX4_get 10 = .ok (.aload_n 0, 1) := by decide +kernel
theorem dX4_get_11 : decode cX4_get 11 = .ok (.getfield 19, 3) := by decide +kernel
theorem dX4_get_14 : decode cX4_get 14 = .ok (.iload_n 1, 1) := by decide +kernel
theorem dX4_get_15 : decode cX4_get 15 = .ok (.aload_n 0, 1) := by decide +kernel
theorem dX4_get_16 : decode cX4_get 16 = .ok (.getfield 9, 3) := by decide +kernel
theorem dX4_get_19 : decode cX4_get 19 = .ok (.imul, 1) := by decide +kernel
theorem dX4_get_20 : decode cX4_get 20 = .ok (.iload_n 2, 1) := by decide +kernel
theorem dX4_get_21 : decode cX4_get 21 = .ok (.iadd, 1) := by decide +kernel
theorem dX4_get_22 : decode cX4_get 22 = .ok (.iaload, 1) := by decide +kernel
theorem dX4_get_23 : decode cX4_get 23 = .ok (.goto 6, 3) := by decide +kernel
theorem dX4_get_26 : decode cX4_get 26 = .ok (.sipush 1000, 3) := by decide +kernel
theorem dX4_get_29 : decode cX4_get 29 = .ok (.ireturn, 1) := by decide +kernel
theorem dX4_set_0 : decode cX4_set 0 = .ok (.aload_n 0, 1) := by decide +kernel
theorem dX4_set_1 : decode cX4_set 1 = .ok (.iload_n 1, 1) := by decide +kernel
theorem dX4_set_2 : decode cX4_set 2 = .ok (.iload_n 2, 1) := by decide +kernel
theorem dX4_set_3 : decode cX4_set 3 = .ok (.iconst 1, 1) := by decide +kernel
theorem dX4_set_4 : decode cX4_set 4 = .ok (.invokevirtual 30, 3) := by decide +kernel
theorem dX4_set_7 : decode cX4_set 7 = .ok (.ifCond .eq 17, 3) := by decide +kernel
theorem dX4_set_10 : decode cX4_set 10 = .ok (.aload_n 0, 1) := by decide +kernel
theorem dX4_set_11 : decode cX4_set 11 = .ok (.getfield 19, 3) := by decide +kernel
theorem dX4_set_14 : decode cX4_set 14 = .ok (.iload_n 1, 1) := by decide +kernel
theorem dX4_set_15 : decode cX4_set 15 = .ok (.aload_n 0, 1) := by decide +kernel
theorem dX4_set_16 : decode cX4_set 16 = .ok (.getfield 9, 3) := by decide +kernel
theorem dX4_set_19 : decode cX4_set 19 = .ok (.imul, 1) := by decide +kernel
theorem dX4_set_20 : decode cX4_set 20 = .ok (.iload_n 2, 1) := by decide +kernel
theorem dX4_set_21 : decode cX4_set 21 = .ok (.iadd, 1) := by decide +kernel
theorem dX4_set_22 : decode cX4_set 22 = .ok (.iload_n 3, 1) := by decide +kernel
theorem dX4_set_23 : decode cX4_set 23 = .ok (.iastore, 1) := by decide +kernel
theorem dX4_set_24 : decode cX4_set 24 = .ok (.return_, 1) := by decide +kernel
theorem dX4_renew_0 : decode cX4_renew 0 = .ok (.aload_n 0, 1) := by decide +kernel
theorem dX4_renew_1 : decode cX4_renew 1 = .ok (.iload_n 1, 1) := by decide +kernel
theorem dX4_renew_2 : decode cX4_renew 2 = .ok (.invokevirtual 26, 3) := by decide +kernel
theorem dX4_renew_5 : decode cX4_renew 5 = .ok (.ifCond .eq 52, 3) := by decide +kernel
theorem dX4_renew_8 : decode cX4_renew 8 = .ok (.iload_n 2, 1) := by decide +kernel
theorem dX4_renew_9 : decode cX4_renew 9 = .ok (.ifCond .lt 48, 3) := by decide +kernel
theorem dX4_renew_12 : decode cX4_renew 12 = .ok (.iload_n 2, 1) := by decide +kernel
theorem dX4_renew_13 : decode cX4_renew 13 = .ok (.aload_n 0, 1) := by decide +kernel
theorem dX4_renew_14 : decode cX4_renew 14 = .ok (.getfield 9, 3) := by decide +kernel
theorem dX4_renew_17 : decode cX4_renew 17 = .ok (.if_icmp .gt 40, 3) := by decide +kernel
theorem dX4_renew_20 : decode cX4_renew 20 = .ok (.aload_n 0, 1) := by decide +kernel
theorem dX4_renew_21 : decode cX4_renew 21 = .ok (.getfield 15, 3) := by decide +kernel
theorem dX4_renew_24 : decode cX4_renew 24 = .ok (.iload_n 1, 1) := by decide +kernel
theorem dX4_renew_25 : decode cX4_renew 25 = .ok (.iload_n 2, 1) := by decide +kernel
theorem dX4_renew_26 : decode cX4_renew 26 = .ok (.iastore, 1) := by decide +kernel
theorem dX4_renew_27 : decode cX4_renew 27 = .ok (.iconst 0, 1) := by decide +kernel
theorem dX4_renew_28 : decode cX4_renew 28 = .ok (.istore 4, 2) := by decide +kernel
theorem dX4_renew_30 : decode cX4_renew 30 = .ok (.iload 4, 2) := by decide +kernel
theorem dX4_renew_32 : decode cX4_renew 32 = .ok (.iload_n 2, 1) := by decide +kernel
theorem dX4_renew_33 : decode cX4_renew 33 = .ok (.if_icmp .ge 24, 3) := by decide +kernel
theorem dX4_renew_36 : decode cX4_renew 36 = .ok (.aload_n 0, 1) := by decide +kernel
theorem dX4_renew_37 : decode cX4_renew 37 = .ok (.getfield 19, 3) := by decide +kernel
theorem dX4_renew_40 : decode cX4_renew 40 = .ok (.iload_n 1, 1) := by decide +kernel
theorem dX4_renew_41 : decode cX4_renew 41 = .ok (.aload_n 0, 1) := by decide +kernel
theorem dX4_renew_42 : decode cX4_renew 42 = .ok (.getfield 9, 3) := by decide +kernel
theorem dX4_renew_45 : decode cX4_renew 45 = .ok (.imul, 1) := by decide +kernel
theorem dX4_renew_46 : decode cX4_renew 46 = .ok (.iload 4, 2) := by decide +kernel
theorem dX4_renew_48 : decode cX4_renew 48 = .ok (.iadd, 1) := by decide +kernel
theorem dX4_renew_49 : decode cX4_renew 49 = .ok (.iload_n 3, 1) := by decide +kernel
theorem dX4_renew_50 : decode cX4_renew 50 = .ok (.iastore, 1) := by decide +kernel
theorem dX4_renew_51 : decode cX4_renew 51 = .ok (.iinc 4 1, 3) := by decide +kernel
theorem dX4_renew_54 : decode cX4_renew 54 = .ok (.goto (-24), 3) := by decide +kernel
theorem dX4_renew_57 : decode cX4_renew 57 = .ok (.return_, 1) := by decide +kernel
theorem dX4_drop_0 : decode cX4_drop 0 = .ok (.aload_n 0, 1) := by decide +kernel
theorem dX4_drop_1 : decode cX4_drop 1 = .ok (.iload_n 1, 1) := by decide +kernel
theorem dX4_drop_2 : decode cX4_drop 2 = .ok (.invokevirtual 26, 3) := by decide +kernel
theorem dX4_drop_5 : decode cX4_drop 5 = .ok (.ifCond .eq 10, 3) := by decide +kernel
theorem dX4_drop_8 : decode cX4_drop 8 = .ok (.aload_n 0, 1) := by decide +kernel
theorem dX4_drop_9 : decode cX4_drop 9 = .ok (.getfield 15, 3) := by decide +kernel
theorem dX4_drop_12 : decode cX4_drop 12 = .ok (.iload_n 1, 1) := by decide +kernel
theorem dX4_drop_13 : decode cX4_drop 13 = .ok (.iconst (-1), 1) := by decide +kernel
theorem dX4_drop_14 : decode cX4_drop 14 = .ok (.iastore, 1) := by decide +kernel
theorem dX4_drop_15 : decode cX4_drop 15 = .ok (.return_, 1) := by decide +kernel
theorem dX4_move_0 : decode cX4_move 0 = .ok (.aload_n 0, 1) := by decide +kernel
theorem dX4_move_1 : decode cX4_move 1 = .ok (.iload_n 1, 1) := by decide +kernel
theorem dX4_move_2 : decode cX4_move 2 = .ok (.iload_n 2, 1) := by decide +kernel
theorem dX4_move_3 : decode cX4_move 3 = .ok (.iload 5, 2) := by decide +kernel
theorem dX4_move_5 : decode cX4_move 5 = .ok (.invokevirtual 30, 3) := by decide +kernel
theorem dX4_move_8 : decode cX4_move 8 = .ok (.ifCond .eq 45, 3) := by decide +kernel
theorem dX4_move_11 : decode cX4_move 11 = .ok (.aload_n 0, 1) := by decide +kernel
theorem dX4_move_12 : decode cX4_move 12 = .ok (.iload_n 3, 1) := by decide +kernel
theorem dX4_move_13 : decode cX4_move 13 = .ok (.iload 4, 2) := by decide +kernel
theorem dX4_move_15 : decode cX4_move 15 = .ok (.iload 5, 2) := by decide +kernel
theorem dX4_move_17 : decode cX4_move 17 = .ok (.invokevirtual 30, 3) := by decide +kernel
theorem dX4_move_20 : decode cX4_move 20 = .ok (.ifCond .eq 33, 3) := by decide +kernel
theorem dX4_move_23 : decode cX4_move 23 = .ok (.aload_n 0, 1) := by decide +kernel
theorem dX4_move_24 : decode cX4_move 24 = .ok (.getfield 19, 3) := by decide +kernel
theorem dX4_move_27 : decode cX4_move 27 = .ok (.iload_n 1, 1) := by decide +kernel
theorem dX4_move_28 : decode cX4_move 28 = .ok (.aload_n 0, 1) := by decide +kernel
theorem dX4_move_29 : decode cX4_move 29 = .ok (.getfield 9, 3) := by decide +kernel
theorem dX4_move_32 : decode cX4_move 32 = .ok (.imul, 1) := by decide +kernel
theorem dX4_move_33 : decode cX4_move 33 = .ok (.iload_n 2, 1) := by decide +kernel
theorem dX4_move_34 : decode cX4_move 34 = .ok (.iadd, 1) := by decide +kernel
theorem dX4_move_35 : decode cX4_move 35 = .ok (.aload_n 0, 1) := by decide +kernel
theorem dX4_move_36 : decode cX4_move 36 = .ok (.getfield 19, 3) := by decide +kernel
theorem dX4_move_39 : decode cX4_move 39 = .ok (.iload_n 3, 1) := by decide +kernel
theorem dX4_move_40 : decode cX4_move 40 = .ok (.aload_n 0, 1) := by decide +kernel
theorem dX4_move_41 : decode cX4_move 41 = .ok (.getfield 9, 3) := by decide +kernel
theorem dX4_move_44 : decode cX4_move 44 = .ok (.imul, 1) := by decide +kernel
theorem dX4_move_45 : decode cX4_move 45 = .ok (.iload 4, 2) := by decide +kernel
theorem dX4_move_47 : decode cX4_move 47 = .ok (.iadd, 1) := by decide +kernel
theorem dX4_move_48 : decode cX4_move 48 = .ok (.iload 5, 2) := by decide +kernel
theorem dX4_move_50 : decode cX4_move 50 = .ok (.invokestatic 34, 3) := by decide +kernel
theorem dX4_move_53 : decode cX4_move 53 = .ok (.return_, 1) := by decide +kernel
theorem dX4_sumOf_0 : decode cX4_sumOf 0 = .ok (.lconst 0, 1) := by decide +kernel
theorem dX4_sumOf_1 : decode cX4_sumOf 1 = .ok (.lstore_n 2, 1) := by decide +kernel
theorem dX4_sumOf_2 : decode cX4_sumOf 2 = .ok (.aload_n 0, 1) := by decide +kernel
theorem dX4_sumOf_3 : decode cX4_sumOf 3 = .ok (.iload_n 1, 1) := by decide +kernel
theorem dX4_sumOf_4 : decode cX4_sumOf 4 = .ok (.invokevirtual 22, 3) := by decide +kernel
theorem dX4_sumOf_7 : decode cX4_sumOf 7 = .ok (.istore 4, 2) := by decide +kernel
theorem dX4_sumOf_9 : decode cX4_sumOf 9 = .ok (.iconst 0, 1) := by decide +kernel
theorem dX4_sumOf_10 : decode cX4_sumOf 10 = .ok (.istore 5, 2) := by decide +kernel
theorem dX4_sumOf_12 : decode cX4_sumOf 12 = .ok (.iload 5, 2) := by decide +kernel
theorem dX4_sumOf_14 : decode cX4_sumOf 14 = .ok (.iload 4, 2) := by decide +kernel
theorem dX4_sumOf_16 : decode cX4_sumOf 16 = .ok (.if_icmp .ge 20, 3) := by decide +kernel
theorem dX4_sumOf_19 : decode cX4_sumOf 19 = .ok (.lload_n 2, 1) := by decide +kernel
theorem dX4_sumOf_20 : decode cX4_sumOf 20 = .ok (.aload_n 0, 1) := by decide +kernel
theorem dX4_sumOf_21 : decode cX4_sumOf 21 = .ok (.iload_n 1, 1) := by decide +kernel
theorem dX4_sumOf_22 : decode cX4_sumOf 22 = .ok (.iload 5, 2) := by decide +kernel
theorem dX4_sumOf_24 : decode cX4_sumOf 24 = .ok (.invokevirtual 40, 3) := by decide +kernel
theorem dX4_sumOf_27 : decode cX4_sumOf 27 = .ok (.i2l, 1) := by decide +kernel
theorem dX4_sumOf_28 : decode cX4_sumOf 28 = .ok (.ladd, 1) := by decide +kernel
theorem dX4_sumOf_29 : decode cX4_sumOf 29 = .ok (.lstore_n 2, 1) := by decide +kernel
theorem dX4_sumOf_30 : decode cX4_sumOf 30 = .ok (.iinc 5 1, 3) := by decide +kernel
theorem dX4_sumOf_33 : decode cX4_sumOf 33 = .ok (.goto (-21), 3) := by decide +kernel
theorem dX4_sumOf_36 : decode cX4_sumOf 36 = .ok (.lload_n 2, 1) := by decide +kernel
theorem dX4_sumOf_37 : decode cX4_sumOf 37 = .ok (.lreturn, 1) := by decide +kernel
theorem dX4_present_0 : decode cX4_present 0 = .ok (.iconst 0, 1) := by decide +kernel
theorem dX4_present_1 : decode cX4_present 1 = .ok (.istore_n 1, 1) := by decide +kernel
theorem dX4_present_2 : decode cX4_present 2 = .ok (.iconst 0, 1) := by decide +kernel
theorem dX4_present_3 : decode cX4_present 3 = .ok (.istore_n 2, 1) := by decide +kernel
theorem dX4_present_4 : decode cX4_present 4 = .ok (.iload_n 2, 1) := by decide +kernel
theorem dX4_present_5 : decode cX4_present 5 = .ok (.aload_n 0, 1) := by decide +kernel
theorem dX4_present_6 : decode cX4_present 6 = .ok (.getfield 15, 3) := by decide +kernel
theorem dX4_present_9 : decode cX4_present 9 = .ok (.arraylength, 1) := by decide +kernel
theorem dX4_present_10 : decode cX4_present 10 = .ok (.if_icmp .ge 25, 3) := by decide +kernel
theorem dX4_present_13 : decode cX4_present 13 = .ok (.iload_n 1, 1) := by decide +kernel
theorem dX4_present_14 : decode cX4_present 14 = .ok (.aload_n 0, 1) := by decide +kernel
theorem dX4_present_15 : decode cX4_present 15 = .ok (.iload_n 2, 1) := by decide +kernel
theorem dX4_present_16 : decode cX4_present 16 = .ok (.invokevirtual 44, 3) := by decide +kernel
theorem dX4_present_19 : decode cX4_present 19 = .ok (.ifCond .eq 7, 3) := by decide +kernel
theorem dX4_present_22 : decode cX4_present 22 = .ok (.iconst 1, 1) := by decide +kernel
theorem dX4_present_23 : decode cX4_present 23 = .ok (.goto 4, 3) := by decide +kernel
theorem dX4_present_26 : decode cX4_present 26 = .ok (.iconst 0, 1) := by decide +kernel
theorem dX4_present_27 : decode cX4_present 27 = .ok (.iadd, 1) := by decide +kernel
theorem dX4_present_28 : decode cX4_present 28 = .ok (.istore_n 1, 1) := by decide +kernel
theorem dX4_present_29 : decode cX4_present 29 = .ok (.iinc 2 1, 3) := by decide +kernel
theorem dX4_present_32 : decode cX4_present 32 = .ok (.goto (-28), 3) := by decide +kernel
theorem dX4_present_35 : decode cX4_present 35 = .ok (.iload_n 1, 1) := by decide +kernel
theorem dX4_present_36 : decode cX4_present 36 = .ok (.ireturn, 1) := by decide +kernel
theorem dX4_digestOn_0 : decode cX4_digestOn 0 = .ok (.lload_n 1, 1) := by decide +kernel
theorem dX4_digestOn_1 : decode cX4_digestOn 1 = .ok (.lstore_n 3, 1) := by decide +kernel
theorem dX4_digestOn_2 : decode cX4_digestOn 2 = .ok (.iconst 0, 1) := by decide +kernel
theorem dX4_digestOn_3 : decode cX4_digestOn 3 = .ok (.istore 5, 2) := by decide +kernel
theorem dX4_digestOn_5 : decode cX4_digestOn 5 = .ok (.iload 5, 2) := by decide +kernel
theorem dX4_digestOn_7 : decode cX4_digestOn 7 = .ok (.aload_n 0, 1) := by decide +kernel
theorem dX4_digestOn_8 : decode cX4_digestOn 8 = .ok (.getfield 15, 3) := by decide +kernel
theorem dX4_digestOn_11 : decode cX4_digestOn 11 = .ok (.arraylength, 1) := by decide +kernel
theorem dX4_digestOn_12 : decode cX4_digestOn 12 = .ok (.if_icmp .ge 61, 3) := by decide +kernel
theorem dX4_digestOn_15 : decode cX4_digestOn 15 = .ok (.ldc2_w 47, 3) := by decide +kernel
theorem dX4_digestOn_18 : decode cX4_digestOn 18 = .ok (.lload_n 3, 1) := by decide +kernel
theorem dX4_digestOn_19 : decode cX4_digestOn 19 = .ok (.lmul, 1) := by decide +kernel
theorem dX4_digestOn_20 : decode cX4_digestOn 20 = .ok (.aload_n 0, 1) := by decide +kernel
theorem dX4_digestOn_21 : decode cX4_digestOn 21 = .ok (.getfield 15, 3) := by decide +kernel
theorem dX4_digestOn_24 : decode cX4_digestOn 24 = .ok (.iload 5, 2) := by decide +kernel
theorem dX4_digestOn_26 : decode cX4_digestOn 26 = .ok (.iaload, 1) := by decide +kernel
theorem dX4_digestOn_27 : decode cX4_digestOn 27 = .ok (.i2l, 1) := by decide +kernel
theorem dX4_digestOn_28 : decode cX4_digestOn 28 = .ok (.ladd, 1) := by decide +kernel
theorem dX4_digestOn_29 : decode cX4_digestOn 29 = .ok (.lstore_n 3, 1) := by decide +kernel
theorem dX4_digestOn_30 : decode cX4_digestOn 30 = .ok (.iconst 0, 1) := by decide +kernel
theorem dX4_digestOn_31 : decode cX4_digestOn 31 = .ok (.istore 6, 2) := by decide +kernel
theorem dX4_digestOn_33 : decode cX4_digestOn 33 = .ok (.iload 6, 2) := by decide +kernel
theorem dX4_digestOn_35 : decode cX4_digestOn 35 = .ok (.aload_n 0, 1) := by decide +kernel
theorem dX4_digestOn_36 : decode cX4_digestOn 36 = .ok (.getfield 15, 3) := by decide +kernel
theorem dX4_digestOn_39 : decode cX4_digestOn 39 = .ok (.iload 5, 2) := by decide +kernel
theorem dX4_digestOn_41 : decode cX4_digestOn 41 = .ok (.iaload, 1) := by decide +kernel
theorem dX4_digestOn_42 : decode cX4_digestOn 42 = .ok (.if_icmp .ge 25, 3) := by decide +kernel
theorem dX4_digestOn_45 : decode cX4_digestOn 45 = .ok (.ldc2_w 47, 3) := by decide +kernel
theorem dX4_digestOn_48 : decode cX4_digestOn 48 = .ok (.lload_n 3, 1) := by decide +kernel
theorem dX4_digestOn_49 : decode cX4_digestOn 49 = .ok (.lmul, 1) := by decide +kernel
theorem dX4_digestOn_50 : decode cX4_digestOn 50 = .ok (.aload_n 0, 1) := by decide +kernel
theorem dX4_digestOn_51 : decode cX4_digestOn 51 = .ok (.iload 5, 2) := by decide +kernel
theorem dX4_digestOn_53 : decode cX4_digestOn 53 = .ok (.iload 6, 2) := by decide +kernel
theorem dX4_digestOn_55 : decode cX4_digestOn 55 = .ok (.invokevirtual 40, 3) := by decide +kernel
theorem dX4_digestOn_58 : decode cX4_digestOn 58 = .ok (.i2l, 1) := by decide +kernel
theorem dX4_digestOn_59 : decode cX4_digestOn 59 = .ok (.ladd, 1) := by decide +kernel
theorem dX4_digestOn_60 : decode cX4_digestOn 60 = .ok (.lstore_n 3, 1) := by decide +kernel
theorem dX4_digestOn_61 : decode cX4_digestOn 61 = .ok (.iinc 6 1, 3) := by decide +kernel
theorem dX4_digestOn_64 : decode cX4_digestOn 64 = .ok (.goto (-31), 3) := by decide +kernel
theorem dX4_digestOn_67 : decode cX4_digestOn 67 = .ok (.iinc 5 1, 3) := by decide +kernel
theorem dX4_digestOn_70 : decode cX4_digestOn 70 = .ok (.goto (-65), 3) := by decide +kernel
theorem dX4_digestOn_73 : decode cX4_digestOn 73 = .ok (.lload_n 3, 1) := by decide +kernel
theorem dX4_digestOn_74 : decode cX4_digestOn 74 = .ok (.lreturn, 1) := by decide +kernel
theorem dX5_init_0 : decode cX5_init 0 = .ok (.aload_n 0, 1) := by decide +kernel
theorem dX5_init_1 : decode cX5_init 1 = .ok (.invokespecial 3, 3) := by decide +kernel
theorem dX5_init_4 : decode cX5_init 4 = .ok (.aload_n 0, 1) := by decide +kernel
theorem dX5_init_5 : decode cX5_init 5 = .ok (.bipush 6, 2) := by decide +kernel
theorem dX5_init_7 : decode cX5_init 7 = .ok (.newarray .int, 2) := by decide +kernel
theorem dX5_init_9 : decode cX5_init 9 = .ok (.putfield 9, 3) := by decide +kernel
theorem dX5_init_12 : decode cX5_init 12 = .ok (.aload_n 0, 1) := by decide +kernel
theorem dX5_init_13 : decode cX5_init 13 = .ok (.bipush 12, 2) := by decide +kernel
theorem dX5_init_15 : decode cX5_init 15 = .ok (.newarray .int, 2) := by decide +kernel
theorem dX5_init_17 : decode cX5_init 17 = .ok (.putfield 15, 3) := by decide +kernel
theorem dX5_init_20 : decode cX5_init 20 = .ok (.aload_n 0, 1) := by decide +kernel
theorem dX5_init_21 : decode cX5_init 21 = .ok (.bipush 12, 2) := by decide +kernel
theorem dX5_init_23 : decode cX5_init 23 = .ok (.newarray .int, 2) := by decide +kernel
theorem dX5_init_25 : decode cX5_init 25 = .ok (.putfield 18, 3) := by decide +kernel
theorem dX5_init_28 : decode cX5_init 28 = .ok (.return_, 1) := by decide +kernel
theorem dX5_clear_0 : decode cX5_clear 0 = .ok (.aload_n 0, 1) := by decide +kernel
theorem dX5_clear_1 : decode cX5_clear 1 = .ok (.iconst 0, 1) := by decide +kernel
theorem dX5_clear_2 : decode cX5_clear 2 = .ok (.putfield 21, 3) := by decide +kernel
theorem dX5_clear_5 : decode cX5_clear 5 = .ok (.aload_n 0, 1) := by decide +kernel
theorem dX5_clear_6 : decode cX5_clear 6 = .ok (.iconst 0, 1) := by decide +kernel
theorem dX5_clear_7 : decode cX5_clear 7 = .ok (.putfield 25, 3) := by decide +kernel
theorem dX5_clear_10 : decode cX5_clear 10 = .ok (.return_, 1) := by decide +kernel
theorem dX5_addHouse_0 : decode cX5_addHouse 0 = .ok (.aload_n 0, 1) := by decide +kernel
theorem dX5_addHouse_1 : decode cX5_addHouse 1 = .ok (.getfield 21, 3) := by decide +kernel
theorem dX5_addHouse_4 : decode cX5_addHouse 4 = .ok (.bipush 6, 2) := by decide +kernel
theorem dX5_addHouse_6 : decode cX5_addHouse 6 = .ok (.if_icmp .ge 23, 3) := by decide +kernel
theorem dX5_addHouse_9 : decode cX5_addHouse 9 = .ok (.aload_n 0, 1) := by decide +kernel
theorem dX5_addHouse_10 : decode cX5_addHouse 10 = .ok (.getfield 9, 3) := by decide +kernel
theorem dX5_addHouse_13 : decode cX5_addHouse 13 = .ok (.aload_n 0, 1) := by decide +kernel
theorem dX5_addHouse_14 : decode cX5_addHouse 14 = .ok (.getfield 21, 3) := by decide +kernel
theorem dX5_addHouse_17 : decode cX5_addHouse 17 = .ok (.iload_n 1, 1) := by decide +kernel
theorem dX5_addHouse_18 : decode cX5_addHouse 18 = .ok (.iastore, 1) := by decide +kernel
theorem dX5_addHouse_19 : decode cX5_addHouse 19 = .ok (.aload_n 0, 1) := by decide +kernel
theorem dX5_addHouse_20 : decode cX5_addHouse 20 = .ok (.dup, 1) := by decide +kernel
theorem dX5_addHouse_21 : decode cX5_addHouse 21 = .ok (.getfield 21, 3) := by decide +kernel
theorem dX5_addHouse_24 : decode cX5_addHouse 24 = .ok (.iconst 1, 1) := by decide +kernel
theorem dX5_addHouse_25 : decode cX5_addHouse 25 = .ok (.iadd, 1) := by decide +kernel
theorem dX5_addHouse_26 : decode cX5_addHouse 26 = .ok (.putfield 21, 3) := by decide +kernel
theorem dX5_addHouse_29 : decode cX5_addHouse 29 = .ok (.return_, 1) := by decide +kernel
theorem dX5_addPerson_0 : decode cX5_addPerson 0 = .ok (.aload_n 0, 1) := by decide +kernel
theorem dX5_addPerson_1 : decode cX5_addPerson 1 = .ok (.getfield 25, 3) := by decide +kernel
theorem dX5_addPerson_4 : decode cX5_addPerson 4 = .ok (.bipush 12, 2) := by decide +kernel
theorem dX5_addPerson_6 : decode cX5_addPerson 6 = .ok (.if_icmp .ge 33, 3) := by decide +kernel
theorem dX5_addPerson_9 : decode cX5_addPerson 9 = .ok (.aload_n 0, 1) := by decide +kernel
theorem dX5_addPerson_10 : decode cX5_addPerson 10 = .ok (.getfield 15, 3) := by decide +kernel
theorem dX5_addPerson_13 : decode cX5_addPerson 13 = .ok (.aload_n 0, 1) := by decide +kernel
theorem dX5_addPerson_14 : decode cX5_addPerson 14 = .ok (.getfield 25, 3) := by decide +kernel
theorem dX5_addPerson_17 : decode cX5_addPerson 17 = .ok (.iload_n 1, 1) := by decide +kernel
theorem dX5_addPerson_18 : decode cX5_addPerson 18 = .ok (.iastore, 1) := by decide +kernel
theorem dX5_addPerson_19 : decode cX5_addPerson 19 = .ok (.aload_n 0, 1) := by decide +kernel
theorem dX5_addPerson_20 : decode cX5_addPerson 20 = .ok (.getfield 18, 3) := by decide +kernel
theorem dX5_addPerson_23 : decode cX5_addPerson 23 = .ok (.aload_n 0, 1) := by decide +kernel
theorem dX5_addPerson_24 : decode cX5_addPerson 24 = .ok (.getfield 25, 3) := by decide +kernel
theorem dX5_addPerson_27 : decode cX5_addPerson 27 = .ok (.iload_n 2, 1) := by decide +kernel
theorem dX5_addPerson_28 : decode cX5_addPerson 28 = .ok (.iastore, 1) := by decide +kernel
theorem dX5_addPerson_29 : decode cX5_addPerson 29 = .ok (.aload_n 0, 1) := by decide +kernel
theorem dX5_addPerson_30 : decode cX5_addPerson 30 = .ok (.dup, 1) := by decide +kernel
theorem dX5_addPerson_31 : decode cX5_addPerson 31 = .ok (.getfield 25, 3) := by decide +kernel
theorem dX5_addPerson_34 : decode cX5_addPerson 34 = .ok (.iconst 1, 1) := by decide +kernel
theorem dX5_addPerson_35 : decode cX5_addPerson 35 = .ok (.iadd, 1) := by decide +kernel
theorem dX5_addPerson_36 : decode cX5_addPerson 36 = .ok (.putfield 25, 3) := by decide +kernel
theorem dX5_addPerson_39 : decode cX5_addPerson 39 = .ok (.return_, 1) := by decide +kernel
theorem dX5_allHouses_0 : decode cX5_allHouses 0 = .ok (.iconst 1, 1) := by decide +kernel
theorem dX5_allHouses_1 : decode cX5_allHouses 1 = .ok (.aload_n 0, 1) := by decide +kernel
theorem dX5_allHouses_2 : decode cX5_allHouses 2 = .ok (.getfield 21, 3) := by decide +kernel
theorem dX5_allHouses_5 : decode cX5_allHouses 5 = .ok (.ishl, 1) := by decide +kernel
theorem dX5_allHouses_6 : decode cX5_allHouses 6 = .ok (.iconst 1, 1) := by decide +kernel
theorem dX5_allHouses_7 : decode cX5_allHouses 7 = .ok (.isub, 1) := by decide +kernel
theorem dX5_allHouses_8 : decode cX5_allHouses 8 = .ok (.ireturn, 1) := by decide +kernel
theorem dX5_costOf_0 : decode cX5_costOf 0 = .ok (.iload_n 1, 1) := by decide +kernel
theorem dX5_costOf_1 : decode cX5_costOf 1 = .ok (.ifCond .lt 20, 3) := by decide +kernel
theorem dX5_costOf_4 : decode cX5_costOf 4 = .ok (.iload_n 1, 1) := by decide +kernel
theorem dX5_costOf_5 : decode cX5_costOf 5 = .ok (.aload_n 0, 1) := by decide +kernel
theorem dX5_costOf_6 : decode cX5_costOf 6 = .ok (.getfield 21, 3) := by decide +kernel
theorem dX5_costOf_9 : decode cX5_costOf 9 = .ok (.if_icmp .ge 12, 3) := by decide +kernel
theorem dX5_costOf_12 : decode cX5_costOf 12 = .ok (.aload_n 0, 1) := by decide +kernel
theorem dX5_costOf_13 : decode cX5_costOf 13 = .ok (.getfield 9, 3) := by decide +kernel
theorem dX5_costOf_16 : decode cX5_costOf 16 = .ok (.iload_n 1, 1) := by decide +kernel
theorem dX5_costOf_17 : decode cX5_costOf 17 = .ok (.iaload, 1) := by decide +kernel
theorem dX5_costOf_18 : decode cX5_costOf 18 = .ok (.goto 4, 3) := by decide +kernel
theorem dX5_costOf_21 : decode cX5_costOf 21 = .ok (.iconst 0, 1) := by decide +kernel
theorem dX5_costOf_22 : decode cX5_costOf 22 = .ok (.ireturn, 1) := by decide +kernel
theorem dX5_homeOf_0 : decode cX5_homeOf 0 = .ok (.iload_n 1, 1) := by decide +kernel
theorem dX5_homeOf_1 : decode cX5_homeOf 1 = .ok (.ifCond .lt 20, 3) := by decide +kernel
theorem dX5_homeOf_4 : decode cX5_homeOf 4 = .ok (.iload_n 1, 1) := by decide +kernel
theorem dX5_homeOf_5 : decode cX5_homeOf 5 = .ok (.aload_n 0, 1) := by decide +kernel
theorem dX5_homeOf_6 : decode cX5_homeOf 6 = .ok (.getfield 25, 3) := by decide +kernel
theorem dX5_homeOf_9 : decode cX5_homeOf 9 = .ok (.if_icmp .ge 12, 3) := by decide +kernel
theorem dX5_homeOf_12 : decode cX5_homeOf 12 = .ok (.aload_n 0, 1) := by decide +kernel
theorem dX5_homeOf_13 : decode cX5_homeOf 13 = .ok (.getfield 15, 3) := by decide +kernel
theorem dX5_homeOf_16 : decode cX5_homeOf 16 = .ok (.iload_n 1, 1) := by decide +kernel
theorem dX5_homeOf_17 : decode cX5_homeOf 17 = .ok (.iaload, 1) := by decide +kernel
theorem dX5_homeOf_18 : decode cX5_homeOf 18 = .ok (.goto 5, 3) := by decide +kernel
theorem dX5_homeOf_21 : decode cX5_homeOf 21 = .ok (.bipush (-9), 2) := by decide +kernel
theorem dX5_homeOf_23 : decode cX5_homeOf 23 = .ok (.ireturn, 1) := by decide +kernel
theorem dX5_answersOf_0 : decode cX5_answersOf 0 = .ok (.iload_n 1, 1) := by decide +kernel
theorem dX5_answersOf_1 : decode cX5_answersOf 1 = .ok (.ifCond .lt 20, 3) := by decide +kernel
theorem dX5_answersOf_4 : decode cX5_answersOf 4 = .ok (.iload_n 1, 1) := by decide +kernel
theorem dX5_answersOf_5 : decode cX5_answersOf 5 = .ok (.aload_n 0, 1) := by decide +kernel
theorem dX5_answersOf_6 : decode cX5_answersOf 6 = .ok (.getfield 25, 3) := by decide +kernel
theorem dX5_answersOf_9 : decode cX5_answersOf 9 = .ok (.if_icmp .ge 12, 3) := by decide +kernel
theorem dX5_answersOf_12 : decode cX5_answersOf 12 = .ok (.aload_n 0, 1) := by decide +kernel
theorem dX5_answersOf_13 : decode cX5_answersOf 13 = .ok (.getfield 18, 3) := by decide +kernel
theorem dX5_answersOf_16 : decode cX5_answersOf 16 = .ok (.iload_n 1, 1) := by decide +kernel
theorem dX5_answersOf_17 : decode cX5_answersOf 17 = .ok (.iaload, 1) := by decide +kernel
theorem dX5_answersOf_18 : decode cX5_answersOf 18 = .ok (.goto 4, 3) := by decide +kernel
theorem dX5_answersOf_21 : decode cX5_answersOf 21 = .ok (.iconst 0, 1) := by decide +kernel
theorem dX5_answersOf_22 : decode cX5_answersOf 22 = .ok (.ireturn, 1) := by decide +kernel
theorem dX5_peopleOf_0 : decode cX5_peopleOf 0 = .ok (.iconst 0, 1) := by decide +kernel
theorem dX5_peopleOf_1 : decode cX5_peopleOf 1 = .ok (.istore_n 2, 1) := by decide +kernel
theorem dX5_peopleOf_2 : decode cX5_peopleOf 2 = .ok (.iconst 0, 1) := by decide +kernel
theorem dX5_peopleOf_3 : decode cX5_peopleOf 3 = .ok (.istore_n 3, 1) := by decide +kernel
theorem dX5_peopleOf_4 : decode cX5_peopleOf 4 = .ok (.iload_n 3, 1) := by decide +kernel
theorem dX5_peopleOf_5 : decode cX5_peopleOf 5 = .ok (.aload_n 0, 1) := by decide +kernel
theorem dX5_peopleOf_6 : decode cX5_peopleOf 6 = .ok (.getfield 25, 3) := by decide +kernel
theorem dX5_peopleOf_9 : decode cX5_peopleOf 9 = .ok (.if_icmp .ge 29, 3) := by decide +kernel
theorem dX5_peopleOf_12 : decode cX5_peopleOf 12 = .ok (.iload_n 2, 1) := by decide +kernel
theorem dX5_peopleOf_13 : decode cX5_peopleOf 13 = .ok (.aload_n 0, 1) := by decide +kernel
theorem dX5_peopleOf_14 : decode cX5_peopleOf 14 = .ok (.getfield 15, 3) := by decide +kernel
theorem dX5_peopleOf_17 : decode cX5_peopleOf 17 = .ok (.iload_n 3, 1) := by decide +kernel
theorem dX5_peopleOf_18 : decode cX5_peopleOf 18 = .ok (.iaload, 1) := by decide +kernel
theorem dX5_peopleOf_19 : decode cX5_peopleOf 19 = .ok (.iload_n 1, 1) := by decide +kernel
theorem dX5_peopleOf_20 : decode cX5_peopleOf 20 = .ok (.if_icmp .ne 9, 3) := by decide +kernel
theorem dX5_peopleOf_23 : decode cX5_peopleOf 23 = .ok (.iconst 1, 1) := by decide +kernel
theorem dX5_peopleOf_24 : decode cX5_peopleOf 24 = .ok (.iload_n 3, 1) := by decide +kernel
theorem dX5_peopleOf_25 : decode cX5_peopleOf 25 = .ok (.ishl, 1) := by decide +kernel
theorem dX5_peopleOf_26 : decode cX5_peopleOf 26 = .ok (.goto 4, 3) := by decide +kernel
theorem dX5_peopleOf_29 : decode cX5_peopleOf 29 = .ok (.iconst 0, 1) := by decide +kernel
theorem dX5_peopleOf_30 : decode cX5_peopleOf 30 = .ok (.ior, 1) := by decide +kernel
theorem dX5_peopleOf_31 : decode cX5_peopleOf 31 = .ok (.istore_n 2, 1) := by decide +kernel
theorem dX5_peopleOf_32 : decode cX5_peopleOf 32 = .ok (.iinc 3 1, 3) := by decide +kernel
theorem dX5_peopleOf_35 : decode cX5_peopleOf 35 = .ok (.goto (-31), 3) := by decide +kernel
theorem dX5_peopleOf_38 : decode cX5_peopleOf 38 = .ok (.iload_n 2, 1) := by decide +kernel
theorem dX5_peopleOf_39 : decode cX5_peopleOf 39 = .ok (.ireturn, 1) := by decide +kernel
theorem dX6_init_0 : decode cX6_init 0 = .ok (.aload_n 0, 1) := by decide +kernel
theorem dX6_init_1 : decode cX6_init 1 = .ok (.invokespecial 3, 3) := by decide +kernel
theorem dX6_init_4 : decode cX6_init 4 = .ok (.aload_n 0, 1) := by decide +kernel
theorem dX6_init_5 : decode cX6_init 5 = .ok (.bipush 6, 2) := by decide +kernel
theorem dX6_init_7 : decode cX6_init 7 = .ok (.newarray .int, 2) := by decide +kernel
theorem dX6_init_9 : decode cX6_init 9 = .ok (.putfield 9, 3) := by decide +kernel
theorem dX6_init_12 : decode cX6_init 12 = .ok (.aload_n 0, 1) := by decide +kernel
theorem dX6_init_13 : decode cX6_init 13 = .ok (.bipush 6, 2) := by decide +kernel
theorem dX6_init_15 : decode cX6_init 15 = .ok (.newarray .int, 2) := by decide +kernel
theorem dX6_init_17 : decode cX6_init 17 = .ok (.putfield 15, 3) := by decide +kernel
theorem dX6_init_20 : decode cX6_init 20 = .ok (.aload_n 0, 1) := by decide +kernel
theorem dX6_init_21 : decode cX6_init 21 = .ok (.sipush 4096, 3) := by decide +kernel
theorem dX6_init_24 : decode cX6_init 24 = .ok (.newarray .int, 2) := by decide +kernel
theorem dX6_init_26 : decode cX6_init 26 = .ok (.putfield 18, 3) := by decide +kernel
theorem dX6_init_29 : decode cX6_init 29 = .ok (.aload_n 0, 1) := by decide +kernel
theorem dX6_init_30 : decode cX6_init 30 = .ok (.sipush 4374, 3) := by decide +kernel
theorem dX6_init_33 : decode cX6_init 33 = .ok (.newarray .int, 2) := by decide +kernel
theorem dX6_init_35 : decode cX6_init 35 = .ok (.putfield 21, 3) := by decide +kernel
theorem dX6_init_38 : decode cX6_init 38 = .ok (.return_, 1) := by decide +kernel
theorem dX6_begin_0 : decode cX6_begin 0 = .ok (.aload_n 0, 1) := by decide +kernel
theorem dX6_begin_1 : decode cX6_begin 1 = .ok (.iload_n 1, 1) := by decide +kernel
theorem dX6_begin_2 : decode cX6_begin 2 = .ok (.putfield 24, 3) := by decide +kernel
theorem dX6_begin_5 : decode cX6_begin 5 = .ok (.aload_n 0, 1) := by decide +kernel
theorem dX6_begin_6 : decode cX6_begin 6 = .ok (.iload_n 2, 1) := by decide +kernel
theorem dX6_begin_7 : decode cX6_begin 7 = .ok (.putfield 28, 3) := by decide +kernel
theorem dX6_begin_10 : decode cX6_begin 10 = .ok (.iconst 0, 1) := by decide +kernel
theorem dX6_begin_11 : decode cX6_begin 11 = .ok (.istore_n 3, 1) := by decide +kernel
theorem dX6_begin_12 : decode cX6_begin 12 = .ok (.iload_n 3, 1) := by decide +kernel
theorem dX6_begin_13 : decode cX6_begin 13 = .ok (.bipush 6, 2) := by decide +kernel
theorem dX6_begin_15 : decode cX6_begin 15 = .ok (.if_icmp .ge 23, 3) := by decide +kernel
theorem dX6_begin_18 : decode cX6_begin 18 = .ok (.aload_n 0, 1) := by decide +kernel
theorem dX6_begin_19 : decode cX6_begin 19 = .ok (.getfield 9, 3) := by decide +kernel
theorem dX6_begin_22 : decode cX6_begin 22 = .ok (.iload_n 3, 1) := by decide +kernel
theorem dX6_begin_23 : decode cX6_begin 23 = .ok (.iconst 0, 1) := by decide +kernel
theorem dX6_begin_24 : decode cX6_begin 24 = .ok (.iastore, 1) := by decide +kernel
theorem dX6_begin_25 : decode cX6_begin 25 = .ok (.aload_n 0, 1) := by decide +kernel
theorem dX6_begin_26 : decode cX6_begin 26 = .ok (.getfield 15, 3) := by decide +kernel
theorem dX6_begin_29 : decode cX6_begin 29 = .ok (.iload_n 3, 1) := by decide +kernel
theorem dX6_begin_30 : decode cX6_begin 30 = .ok (.iconst 0, 1) := by decide +kernel
theorem dX6_begin_31 : decode cX6_begin 31 = .ok (.iastore, 1) := by decide +kernel
theorem dX6_begin_32 : decode cX6_begin 32 = .ok (.iinc 3 1, 3) := by decide +kernel
theorem dX6_begin_35 : decode cX6_begin 35 = .ok (.goto (-23), 3) := by decide +kernel
theorem dX6_begin_38 : decode cX6_begin 38 = .ok (.return_, 1) := by decide +kernel
theorem dX6_seenAt_0 : decode cX6_seenAt 0 = .ok (.iload_n 1, 1) := by decide +kernel
theorem dX6_seenAt_1 : decode cX6_seenAt 1 = .ok (.ifCond .lt 19, 3) := by decide +kernel
theorem dX6_seenAt_4 : decode cX6_seenAt 4 = .ok (.iload_n 1, 1) := by decide +kernel
theorem dX6_seenAt_5 : decode cX6_seenAt 5 = .ok (.bipush 6, 2) := by decide +kernel
theorem dX6_seenAt_7 : decode cX6_seenAt 7 = .ok (.if_icmp .ge 13, 3) := by decide +kernel
theorem dX6_seenAt_10 : decode cX6_seenAt 10 = .ok (.aload_n 0, 1) := by decide +kernel
theorem dX6_seenAt_11 : decode cX6_seenAt 11 = .ok (.getfield 9, 3) := by decide +kernel
theorem dX6_seenAt_14 : decode cX6_seenAt 14 = .ok (.iload_n 1, 1) := by decide +kernel
theorem dX6_seenAt_15 : decode cX6_seenAt 15 = .ok (.dup2, 1) := by decide +kernel
theorem dX6_seenAt_16 : decode cX6_seenAt 16 = .ok (.iaload, 1) := by decide +kernel
theorem dX6_seenAt_17 : decode cX6_seenAt 17 = .ok (.iload_n 2, 1) := by decide +kernel
theorem dX6_seenAt_18 : decode cX6_seenAt 18 = .ok (.ior, 1) := by decide +kernel
theorem dX6_seenAt_19 : decode cX6_seenAt 19 = .ok (.iastore, 1) := by decide +kernel
theorem dX6_seenAt_20 : decode cX6_seenAt 20 = .ok (.return_, 1) := by decide +kernel
theorem dX6_goneInto_0 : decode cX6_goneInto 0 = .ok (.iload_n 1, 1) := by decide +kernel
theorem dX6_goneInto_1 : decode cX6_goneInto 1 = .ok (.ifCond .lt 19, 3) := by decide +kernel
theorem dX6_goneInto_4 : decode cX6_goneInto 4 = .ok (.iload_n 1, 1) := by decide +kernel
theorem dX6_goneInto_5 : decode cX6_goneInto 5 = .ok (.bipush 6, 2) := by decide +kernel
theorem dX6_goneInto_7 : decode cX6_goneInto 7 = .ok (.if_icmp .ge 13, 3) := by decide +kernel
theorem dX6_goneInto_10 : decode cX6_goneInto 10 = .ok (.aload_n 0, 1) := by decide +kernel
theorem dX6_goneInto_11 : decode cX6_goneInto 11 = .ok (.getfield 15, 3) := by decide +kernel
theorem dX6_goneInto_14 : decode cX6_goneInto 14 = .ok (.iload_n 1, 1) := by decide +kernel
theorem dX6_goneInto_15 : decode cX6_goneInto 15 = .ok (.dup2, 1) := by decide +kernel
theorem dX6_goneInto_16 : decode cX6_goneInto 16 = .ok (.iaload, 1) := by decide +kernel
theorem dX6_goneInto_17 : decode cX6_goneInto 17 = .ok (.iload_n 2, 1) := by decide +kernel
theorem dX6_goneInto_18 : decode cX6_goneInto 18 = .ok (.ior, 1) := by decide +kernel
theorem dX6_goneInto_19 : decode cX6_goneInto 19 = .ok (.iastore, 1) := by decide +kernel
theorem dX6_goneInto_20 : decode cX6_goneInto 20 = .ok (.return_, 1) := by decide +kernel
theorem dX6_quickest_0 : decode cX6_quickest 0 = .ok (.aload_n 0, 1) := by decide +kernel
theorem dX6_quickest_1 : decode cX6_quickest 1 = .ok (.iload_n 2, 1) := by decide +kernel
theorem dX6_quickest_2 : decode cX6_quickest 2 = .ok (.putfield 31, 3) := by decide +kernel
theorem dX6_quickest_5 : decode cX6_quickest 5 = .ok (.aload_n 0, 1) := by decide +kernel
theorem dX6_quickest_6 : decode cX6_quickest 6 = .ok (.iconst 0, 1) := by decide +kernel
theorem dX6_quickest_7 : decode cX6_quickest 7 = .ok (.putfield 34, 3) := by decide +kernel
theorem dX6_quickest_10 : decode cX6_quickest 10 = .ok (.aload_n 0, 1) := by decide +kernel
theorem dX6_quickest_11 : decode cX6_quickest 11 = .ok (.aload_n 0, 1) := by decide +kernel
theorem dX6_quickest_12 : decode cX6_quickest 12 = .ok (.getfield 37, 3) := by decide +kernel
theorem dX6_quickest_15 : decode cX6_quickest 15 = .ok (.ldc 40, 2) := by decide +kernel
theorem dX6_quickest_17 : decode cX6_quickest 17 = .ok (.if_icmp .lt 7, 3) := by decide +kernel
theorem dX6_quickest_20 : decode cX6_quickest 20 = .ok (.iconst 1, 1) := by decide +kernel
theorem dX6_quickest_21 : decode cX6_quickest 21 = .ok (.goto 9, 3) := by decide +kernel
theorem dX6_quickest_24 : decode cX6_quickest 24 = .ok (.aload_n 0, 1) := by decide +kernel
theorem dX6_quickest_25 : decode cX6_quickest 25 = .ok (.getfield 37, 3) := by decide +kernel
theorem dX6_quickest_28 : decode cX6_quickest 28 = .ok (.iconst 1, 1) := by decide +kernel
theorem dX6_quickest_29 : decode cX6_quickest 29 = .ok (.iadd, 1) := by decide +kernel
theorem dX6_quickest_30 : decode cX6_quickest 30 = .ok (.putfield 37, 3) := by decide +kernel
theorem dX6_quickest_33 : decode cX6_quickest 33 = .ok (.aload_n 0, 1) := by decide +kernel
theorem dX6_quickest_34 : decode cX6_quickest 34 = .ok (.aload_n 0, 1) := by decide +kernel
theorem dX6_quickest_35 : decode cX6_quickest 35 = .ok (.getfield 28, 3) := by decide +kernel
theorem dX6_quickest_38 : decode cX6_quickest 38 = .ok (.iload_n 1, 1) := by decide +kernel
theorem dX6_quickest_39 : decode cX6_quickest 39 = .ok (.iconst 0, 1) := by decide +kernel
theorem dX6_quickest_40 : decode cX6_quickest 40 = .ok (.invokevirtual 41, 3) := by decide +kernel
theorem dX6_quickest_43 : decode cX6_quickest 43 = .ok (.iconst 0, 1) := by decide +kernel
theorem dX6_quickest_44 : decode cX6_quickest 44 = .ok (.istore 4, 2) := by decide +kernel
theorem dX6_quickest_46 : decode cX6_quickest 46 = .ok (.aload_n 0, 1) := by decide +kernel
theorem dX6_quickest_47 : decode cX6_quickest 47 = .ok (.getfield 34, 3) := by decide +kernel
theorem dX6_quickest_50 : decode cX6_quickest 50 = .ok (.istore 5, 2) := by decide +kernel
theorem dX6_quickest_52 : decode cX6_quickest 52 = .ok (.iconst 0, 1) := by decide +kernel
theorem dX6_quickest_53 : decode cX6_quickest 53 = .ok (.istore 6, 2) := by decide +kernel
theorem dX6_quickest_55 : decode cX6_quickest 55 = .ok (.iload 6, 2) := by decide +kernel
theorem dX6_quickest_57 : decode cX6_quickest 57 = .ok (.aload_n 0, 1) := by decide +kernel
theorem dX6_quickest_58 : decode cX6_quickest 58 = .ok (.getfield 34, 3) := by decide +kernel
theorem dX6_quickest_61 : decode cX6_quickest 61 = .ok (.if_icmp .ge 104, 3) := by decide +kernel
theorem dX6_quickest_64 : decode cX6_quickest 64 = .ok (.iload 6, 2) := by decide +kernel
theorem dX6_quickest_66 : decode cX6_quickest 66 = .ok (.sipush 4374, 3) := by decide +kernel
theorem dX6_quickest_69 : decode cX6_quickest 69 = .ok (.if_icmp .ge 96, 3) := by decide +kernel
theorem dX6_quickest_72 : decode cX6_quickest 72 = .ok (.iload 6, 2) := by decide +kernel
theorem dX6_quickest_74 : decode cX6_quickest 74 = .ok (.iload 5, 2) := by decide +kernel
theorem dX6_quickest_76 : decode cX6_quickest 76 = .ok (.if_icmp .ne 12, 3) := by decide +kernel
theorem dX6_quickest_79 : decode cX6_quickest 79 = .ok (.iinc 4 1, 3) := by decide +kernel
theorem dX6_quickest_82 : decode cX6_quickest 82 = .ok (.aload_n 0, 1) := by decide +kernel
theorem dX6_quickest_83 : decode cX6_quickest 83 = .ok (.getfield 34, 3) := by decide +kernel
theorem dX6_quickest_86 : decode cX6_quickest 86 = .ok (.istore 5, 2) := by decide +kernel
theorem dX6_quickest_88 : decode cX6_quickest 88 = .ok (.aload_n 0, 1) := by decide +kernel
theorem dX6_quickest_89 : decode cX6_quickest 89 = .ok (.getfield 21, 3) := by decide +kernel
theorem dX6_quickest_92 : decode cX6_quickest 92 = .ok (.iload 6, 2) := by decide +kernel
theorem dX6_quickest_94 : decode cX6_quickest 94 = .ok (.iaload, 1) := by decide +kernel
theorem dX6_quickest_95 : decode cX6_quickest 95 = .ok (.sipush 4096, 3) := by decide +kernel
theorem dX6_quickest_98 : decode cX6_quickest 98 = .ok (.idiv, 1) := by decide +kernel
theorem dX6_quickest_99 : decode cX6_quickest 99 = .ok (.istore 7, 2) := by decide +kernel
theorem dX6_quickest_101 : decode cX6_quickest 101 = .ok (.aload_n 0, 1) := by decide +kernel
theorem dX6_quickest_102 : decode cX6_quickest 102 = .ok (.getfield 21, 3) := by decide +kernel
theorem dX6_quickest_105 : decode cX6_quickest 105 = .ok (.iload 6, 2) := by decide +kernel
theorem dX6_quickest_107 : decode cX6_quickest 107 = .ok (.iaload, 1) := by decide +kernel
theorem dX6_quickest_108 : decode cX6_quickest 108 = .ok (.bipush 64, 2) := by decide +kernel
theorem dX6_quickest_110 : decode cX6_quickest 110 = .ok (.irem, 1) := by decide +kernel
theorem dX6_quickest_111 : decode cX6_quickest 111 = .ok (.istore 8, 2) := by decide +kernel
theorem dX6_quickest_113 : decode cX6_quickest 113 = .ok (.iload 8, 2) := by decide +kernel
theorem dX6_quickest_115 : decode cX6_quickest 115 = .ok (.aload_n 0, 1) := by decide +kernel
theorem dX6_quickest_116 : decode cX6_quickest 116 = .ok (.getfield 31, 3) := by decide +kernel
theorem dX6_quickest_119 : decode cX6_quickest 119 = .ok (.if_icmp .ne 19, 3) := by decide +kernel
theorem dX6_quickest_122 : decode cX6_quickest 122 = .ok (.iload_n 3, 1) := by decide +kernel
theorem dX6_quickest_123 : decode cX6_quickest 123 = .ok (.ifCond .eq 12, 3) := by decide +kernel
theorem dX6_quickest_126 : decode cX6_quickest 126 = .ok (.iload 7, 2) := by decide +kernel
theorem dX6_quickest_128 : decode cX6_quickest 128 = .ok (.aload_n 0, 1) := by decide +kernel
theorem dX6_quickest_129 : decode cX6_quickest 129 = .ok (.getfield 28, 3) := by decide +kernel
theorem dX6_quickest_132 : decode cX6_quickest 132 = .ok (.if_icmp .ne 6, 3) := by decide +kernel
theorem dX6_quickest_135 : decode cX6_quickest 135 = .ok (.iload 4, 2) := by decide +kernel
theorem dX6_quickest_137 : decode cX6_quickest 137 = .ok (.ireturn, 1) := by decide +kernel
theorem dX6_quickest_138 : decode cX6_quickest 138 = .ok (.aload_n 0, 1) := by decide +kernel
theorem dX6_quickest_139 : decode cX6_quickest 139 = .ok (.iload 7, 2) := by decide +kernel
theorem dX6_quickest_141 : decode cX6_quickest 141 = .ok (.aload_n 0, 1) := by decide +kernel
theorem dX6_quickest_142 : decode cX6_quickest 142 = .ok (.getfield 21, 3) := by decide +kernel
theorem dX6_quickest_145 : decode cX6_quickest 145 = .ok (.iload 6, 2) := by decide +kernel
theorem dX6_quickest_147 : decode cX6_quickest 147 = .ok (.iaload, 1) := by decide +kernel
theorem dX6_quickest_148 : decode cX6_quickest 148 = .ok (.bipush 64, 2) := by decide +kernel
theorem dX6_quickest_150 : decode cX6_quickest 150 = .ok (.idiv, 1) := by decide +kernel
theorem dX6_quickest_151 : decode cX6_quickest 151 = .ok (.bipush 64, 2) := by decide +kernel
theorem dX6_quickest_153 : decode cX6_quickest 153 = .ok (.irem, 1) := by decide +kernel
theorem dX6_quickest_154 : decode cX6_quickest 154 = .ok (.iload 8, 2) := by decide +kernel
theorem dX6_quickest_156 : decode cX6_quickest 156 = .ok (.invokevirtual 45, 3) := by decide +kernel
theorem dX6_quickest_159 : decode cX6_quickest 159 = .ok (.iinc 6 1, 3) := by decide +kernel
theorem dX6_quickest_162 : decode cX6_quickest 162 = .ok (.goto (-107), 3) := by decide +kernel
theorem dX6_quickest_165 : decode cX6_quickest 165 = .ok (.bipush (-9), 2) := by decide +kernel
theorem dX6_quickest_167 : decode cX6_quickest 167 = .ok (.ireturn, 1) := by decide +kernel
theorem dX6_goOn_0 : decode cX6_goOn 0 = .ok (.iload_n 1, 1) := by decide +kernel
theorem dX6_goOn_1 : decode cX6_goOn 1 = .ok (.ifCond .lt 9, 3) := by decide +kernel
theorem dX6_goOn_4 : decode cX6_goOn 4 = .ok (.iload_n 1, 1) := by decide +kernel
theorem dX6_goOn_5 : decode cX6_goOn 5 = .ok (.bipush 6, 2) := by decide +kernel
theorem dX6_goOn_7 : decode cX6_goOn 7 = .ok (.if_icmp .lt 4, 3) := by decide +kernel
theorem dX6_goOn_10 : decode cX6_goOn 10 = .ok (.return_, 1) := by decide +kernel
theorem dX6_goOn_11 : decode cX6_goOn 11 = .ok (.iload_n 1, 1) := by decide +kernel
theorem dX6_goOn_12 : decode cX6_goOn 12 = .ok (.ifCond .le 12, 3) := by decide +kernel
theorem dX6_goOn_15 : decode cX6_goOn 15 = .ok (.aload_n 0, 1) := by decide +kernel
theorem dX6_goOn_16 : decode cX6_goOn 16 = .ok (.iload_n 1, 1) := by decide +kernel
theorem dX6_goOn_17 : decode cX6_goOn 17 = .ok (.iconst 1, 1) := by decide +kernel
theorem dX6_goOn_18 : decode cX6_goOn 18 = .ok (.isub, 1) := by decide +kernel
theorem dX6_goOn_19 : decode cX6_goOn 19 = .ok (.iload_n 2, 1) := by decide +kernel
theorem dX6_goOn_20 : decode cX6_goOn 20 = .ok (.iload_n 3, 1) := by decide +kernel
theorem dX6_goOn_21 : decode cX6_goOn 21 = .ok (.invokevirtual 41, 3) := by decide +kernel
theorem dX6_goOn_24 : decode cX6_goOn 24 = .ok (.iload_n 1, 1) := by decide +kernel
theorem dX6_goOn_25 : decode cX6_goOn 25 = .ok (.aload_n 0, 1) := by decide +kernel
theorem dX6_goOn_26 : decode cX6_goOn 26 = .ok (.getfield 24, 3) := by decide +kernel
theorem dX6_goOn_29 : decode cX6_goOn 29 = .ok (.iconst 1, 1) := by decide +kernel
theorem dX6_goOn_30 : decode cX6_goOn 30 = .ok (.isub, 1) := by decide +kernel
theorem dX6_goOn_31 : decode cX6_goOn 31 = .ok (.if_icmp .ge 12, 3) := by decide +kernel
theorem dX6_goOn_34 : decode cX6_goOn 34 = .ok (.aload_n 0, 1) := by decide +kernel
theorem dX6_goOn_35 : decode cX6_goOn 35 = .ok (.iload_n 1, 1) := by decide +kernel
theorem dX6_goOn_36 : decode cX6_goOn 36 = .ok (.iconst 1, 1) := by decide +kernel
theorem dX6_goOn_37 : decode cX6_goOn 37 = .ok (.iadd, 1) := by decide +kernel
theorem dX6_goOn_38 : decode cX6_goOn 38 = .ok (.iload_n 2, 1) := by decide +kernel
theorem dX6_goOn_39 : decode cX6_goOn 39 = .ok (.iload_n 3, 1) := by decide +kernel
theorem dX6_goOn_40 : decode cX6_goOn 40 = .ok (.invokevirtual 41, 3) := by decide +kernel
theorem dX6_goOn_43 : decode cX6_goOn 43 = .ok (.aload_n 0, 1) := by decide +kernel
theorem dX6_goOn_44 : decode cX6_goOn 44 = .ok (.iload_n 1, 1) := by decide +kernel
theorem dX6_goOn_45 : decode cX6_goOn 45 = .ok (.iload_n 2, 1) := by decide +kernel
theorem dX6_goOn_46 : decode cX6_goOn 46 = .ok (.aload_n 0, 1) := by decide +kernel
theorem dX6_goOn_47 : decode cX6_goOn 47 = .ok (.getfield 9, 3) := by decide +kernel
theorem dX6_goOn_50 : decode cX6_goOn 50 = .ok (.iload_n 1, 1) := by decide +kernel
theorem dX6_goOn_51 : decode cX6_goOn 51 = .ok (.iaload, 1) := by decide +kernel
theorem dX6_goOn_52 : decode cX6_goOn 52 = .ok (.ior, 1) := by decide +kernel
theorem dX6_goOn_53 : decode cX6_goOn 53 = .ok (.iload_n 3, 1) := by decide +kernel
theorem dX6_goOn_54 : decode cX6_goOn 54 = .ok (.invokevirtual 41, 3) := by decide +kernel
theorem dX6_goOn_57 : decode cX6_goOn 57 = .ok (.iload_n 2, 1) := by decide +kernel
theorem dX6_goOn_58 : decode cX6_goOn 58 = .ok (.iload_n 1, 1) := by decide +kernel
theorem dX6_goOn_59 : decode cX6_goOn 59 = .ok (.invokestatic 48, 3) := by decide +kernel
theorem dX6_goOn_62 : decode cX6_goOn 62 = .ok (.ifCond .eq 26, 3) := by decide +kernel
theorem dX6_goOn_65 : decode cX6_goOn 65 = .ok (.aload_n 0, 1) := by decide +kernel
theorem dX6_goOn_66 : decode cX6_goOn 66 = .ok (.iload_n 1, 1) := by decide +kernel
theorem dX6_goOn_67 : decode cX6_goOn 67 = .ok (.iload_n 2, 1) := by decide +kernel
theorem dX6_goOn_68 : decode cX6_goOn 68 = .ok (.aload_n 0, 1) := by decide +kernel
theorem dX6_goOn_69 : decode cX6_goOn 69 = .ok (.getfield 15, 3) := by decide +kernel
theorem dX6_goOn_72 : decode cX6_goOn 72 = .ok (.iload_n 1, 1) := by decide +kernel
theorem dX6_goOn_73 : decode cX6_goOn 73 = .ok (.iaload, 1) := by decide +kernel
theorem dX6_goOn_74 : decode cX6_goOn 74 = .ok (.ior, 1) := by decide +kernel
theorem dX6_goOn_75 : decode cX6_goOn 75 = .ok (.iload_n 3, 1) := by decide +kernel
theorem dX6_goOn_76 : decode cX6_goOn 76 = .ok (.iconst 1, 1) := by decide +kernel
theorem dX6_goOn_77 : decode cX6_goOn 77 = .ok (.iload_n 1, 1) := by decide +kernel
theorem dX6_goOn_78 : decode cX6_goOn 78 = .ok (.ishl, 1) := by decide +kernel
theorem dX6_goOn_79 : decode cX6_goOn 79 = .ok (.aload_n 0, 1) := by decide +kernel
theorem dX6_goOn_80 : decode cX6_goOn 80 = .ok (.getfield 31, 3) := by decide +kernel
theorem dX6_goOn_83 : decode cX6_goOn 83 = .ok (.iand, 1) := by decide +kernel
theorem dX6_goOn_84 : decode cX6_goOn 84 = .ok (.ior, 1) := by decide +kernel
theorem dX6_goOn_85 : decode cX6_goOn 85 = .ok (.invokevirtual 41, 3) := by decide +kernel
theorem dX6_goOn_88 : decode cX6_goOn 88 = .ok (.return_, 1) := by decide +kernel
theorem dX6_reached_0 : decode cX6_reached 0 = .ok (.iload_n 2, 1) := by decide +kernel
theorem dX6_reached_1 : decode cX6_reached 1 = .ok (.bipush 64, 2) := by decide +kernel
theorem dX6_reached_3 : decode cX6_reached 3 = .ok (.imul, 1) := by decide +kernel
theorem dX6_reached_4 : decode cX6_reached 4 = .ok (.iload_n 3, 1) := by decide +kernel
theorem dX6_reached_5 : decode cX6_reached 5 = .ok (.iadd, 1) := by decide +kernel
theorem dX6_reached_6 : decode cX6_reached 6 = .ok (.istore 4, 2) := by decide +kernel
theorem dX6_reached_8 : decode cX6_reached 8 = .ok (.iload 4, 2) := by decide +kernel
theorem dX6_reached_10 : decode cX6_reached 10 = .ok (.ifCond .lt 23, 3) := by decide +kernel
theorem dX6_reached_13 : decode cX6_reached 13 = .ok (.iload 4, 2) := by decide +kernel
theorem dX6_reached_15 : decode cX6_reached 15 = .ok (.aload_n 0, 1) := by decide +kernel
theorem dX6_reached_16 : decode cX6_reached 16 = .ok (.getfield 18, 3) := by decide +kernel
theorem dX6_reached_19 : decode cX6_reached 19 = .ok (.arraylength, 1) := by decide +kernel
theorem dX6_reached_20 : decode cX6_reached 20 = .ok (.if_icmp .ge 13, 3) := by decide +kernel
theorem dX6_reached_23 : decode cX6_reached 23 = .ok (.aload_n 0, 1) := by decide +kernel
theorem dX6_reached_24 : decode cX6_reached 24 = .ok (.getfield 34, 3) := by decide +kernel
theorem dX6_reached_27 : decode cX6_reached 27 = .ok (.sipush 4374, 3) := by decide +kernel
theorem dX6_reached_30 : decode cX6_reached 30 = .ok (.if_icmp .lt 4, 3) := by decide +kernel
theorem dX6_reached_33 : decode cX6_reached 33 = .ok (.return_, 1) := by decide +kernel
theorem dX6_reached_34 : decode cX6_reached 34 = .ok (.aload_n 0, 1) := by decide +kernel
theorem dX6_reached_35 : decode cX6_reached 35 = .ok (.getfield 18, 3) := by decide +kernel
theorem dX6_reached_38 : decode cX6_reached 38 = .ok (.iload 4, 2) := by decide +kernel
theorem dX6_reached_40 : decode cX6_reached 40 = .ok (.iaload, 1) := by decide +kernel
theorem dX6_reached_41 : decode cX6_reached 41 = .ok (.bipush 64, 2) := by decide +kernel
theorem dX6_reached_43 : decode cX6_reached 43 = .ok (.idiv, 1) := by decide +kernel
theorem dX6_reached_44 : decode cX6_reached 44 = .ok (.aload_n 0, 1) := by decide +kernel
theorem dX6_reached_45 : decode cX6_reached 45 = .ok (.getfield 37, 3) := by decide +kernel
theorem dX6_reached_48 : decode cX6_reached 48 = .ok (.if_icmp .ne 13, 3) := by decide +kernel
theorem dX6_reached_51 : decode cX6_reached 51 = .ok (.aload_n 0, 1) := by decide +kernel
theorem dX6_reached_52 : decode cX6_reached 52 = .ok (.getfield 18, 3) := by decide +kernel
theorem dX6_reached_55 : decode cX6_reached 55 = .ok (.iload 4, 2) := by decide +kernel
theorem dX6_reached_57 : decode cX6_reached 57 = .ok (.iaload, 1) := by decide +kernel
theorem dX6_reached_58 : decode cX6_reached 58 = .ok (.goto 10, 3) := by decide +kernel
theorem dX6_reached_61 : decode cX6_reached 61 = .ok (.aload_n 0, 1) := by decide +kernel
theorem dX6_reached_62 : decode cX6_reached 62 = .ok (.getfield 37, 3) := by decide +kernel
theorem dX6_reached_65 : decode cX6_reached 65 = .ok (.bipush 64, 2) := by decide +kernel
theorem dX6_reached_67 : decode cX6_reached 67 = .ok (.imul, 1) := by decide +kernel
theorem dX6_reached_68 : decode cX6_reached 68 = .ok (.istore 5, 2) := by decide +kernel
theorem dX6_reached_70 : decode cX6_reached 70 = .ok (.iload 5, 2) := by decide +kernel
theorem dX6_reached_72 : decode cX6_reached 72 = .ok (.iload_n 1, 1) := by decide +kernel
theorem dX6_reached_73 : decode cX6_reached 73 = .ok (.invokestatic 48, 3) := by decide +kernel
theorem dX6_reached_76 : decode cX6_reached 76 = .ok (.ifCond .ne 45, 3) := by decide +kernel
theorem dX6_reached_79 : decode cX6_reached 79 = .ok (.aload_n 0, 1) := by decide +kernel
theorem dX6_reached_80 : decode cX6_reached 80 = .ok (.getfield 18, 3) := by decide +kernel
theorem dX6_reached_83 : decode cX6_reached 83 = .ok (.iload 4, 2) := by decide +kernel
theorem dX6_reached_85 : decode cX6_reached 85 = .ok (.iload 5, 2) := by decide +kernel
theorem dX6_reached_87 : decode cX6_reached 87 = .ok (.iconst 1, 1) := by decide +kernel
theorem dX6_reached_88 : decode cX6_reached 88 = .ok (.iload_n 1, 1) := by decide +kernel
theorem dX6_reached_89 : decode cX6_reached 89 = .ok (.ishl, 1) := by decide +kernel
theorem dX6_reached_90 : decode cX6_reached 90 = .ok (.ior, 1) := by decide +kernel
theorem dX6_reached_91 : decode cX6_reached 91 = .ok (.iastore, 1) := by decide +kernel
theorem dX6_reached_92 : decode cX6_reached 92 = .ok (.aload_n 0, 1) := by decide +kernel
theorem dX6_reached_93 : decode cX6_reached 93 = .ok (.getfield 21, 3) := by decide +kernel
theorem dX6_reached_96 : decode cX6_reached 96 = .ok (.aload_n 0, 1) := by decide +kernel
theorem dX6_reached_97 : decode cX6_reached 97 = .ok (.getfield 34, 3) := by decide +kernel
theorem dX6_reached_100 : decode cX6_reached 100 = .ok (.iload_n 1, 1) := by decide +kernel
theorem dX6_reached_101 : decode cX6_reached 101 = .ok (.bipush 64, 2) := by decide +kernel
theorem dX6_reached_103 : decode cX6_reached 103 = .ok (.imul, 1) := by decide +kernel
theorem dX6_reached_104 : decode cX6_reached 104 = .ok (.bipush 64, 2) := by decide +kernel
theorem dX6_reached_106 : decode cX6_reached 106 = .ok (.imul, 1) := by decide +kernel
theorem dX6_reached_107 : decode cX6_reached 107 = .ok (.iload 4, 2) := by decide +kernel
theorem dX6_reached_109 : decode cX6_reached 109 = .ok (.iadd, 1) := by decide +kernel
theorem dX6_reached_110 : decode cX6_reached 110 = .ok (.iastore, 1) := by decide +kernel
theorem dX6_reached_111 : decode cX6_reached 111 = .ok (.aload_n 0, 1) := by decide +kernel
theorem dX6_reached_112 : decode cX6_reached 112 = .ok (.dup, 1) := by decide +kernel
theorem dX6_reached_113 : decode cX6_reached 113 = .ok (.getfield 34, 3) := by decide +kernel
theorem dX6_reached_116 : decode cX6_reached 116 = .ok (.iconst 1, 1) := by decide +kernel
theorem dX6_reached_117 : decode cX6_reached 117 = .ok (.iadd, 1) := by decide +kernel
theorem dX6_reached_118 : decode cX6_reached 118 = .ok (.putfield 34, 3) := by decide +kernel
theorem dX6_reached_121 : decode cX6_reached 121 = .ok (.return_, 1) := by decide +kernel
theorem dJ6_bitCount_0f7a4_0 : decode cJ6_bitCount_0f7a4 0 = .ok (.iload_n 0, 1) := by decide +kernel
theorem dJ6_bitCount_0f7a4_1 : decode cJ6_bitCount_0f7a4 1 = .ok (.iload_n 0, 1) := by decide +kernel
theorem dJ6_bitCount_0f7a4_2 : decode cJ6_bitCount_0f7a4 2 = .ok (.iconst 1, 1) := by decide +kernel
theorem dJ6_bitCount_0f7a4_3 : decode cJ6_bitCount_0f7a4 3 = .ok (.iushr, 1) := by decide +kernel
theorem dJ6_bitCount_0f7a4_4 : decode cJ6_bitCount_0f7a4 4 = .ok (.ldc_w 265, 3) := by decide +kernel
theorem dJ6_bitCount_0f7a4_7 : decode cJ6_bitCount_0f7a4 7 = .ok (.iand, 1) := by decide +kernel
theorem dJ6_bitCount_0f7a4_8 : decode cJ6_bitCount_0f7a4 8 = .ok (.isub, 1) := by decide +kernel
theorem dJ6_bitCount_0f7a4_9 : decode cJ6_bitCount_0f7a4 9 = .ok (.istore_n 0, 1) := by decide +kernel
theorem dJ6_bitCount_0f7a4_10 : decode cJ6_bitCount_0f7a4 10 = .ok (.iload_n 0, 1) := by decide +kernel
theorem dJ6_bitCount_0f7a4_11 : decode cJ6_bitCount_0f7a4 11 = .ok (.ldc_w 266, 3) := by decide +kernel
theorem dJ6_bitCount_0f7a4_14 : decode cJ6_bitCount_0f7a4 14 = .ok (.iand, 1) := by decide +kernel
theorem dJ6_bitCount_0f7a4_15 : decode cJ6_bitCount_0f7a4 15 = .ok (.iload_n 0, 1) := by decide +kernel
theorem dJ6_bitCount_0f7a4_16 : decode cJ6_bitCount_0f7a4 16 = .ok (.iconst 2, 1) := by decide +kernel
theorem dJ6_bitCount_0f7a4_17 : decode cJ6_bitCount_0f7a4 17 = .ok (.iushr, 1) := by decide +kernel
theorem dJ6_bitCount_0f7a4_18 : decode cJ6_bitCount_0f7a4 18 = .ok (.ldc_w 266, 3) := by decide +kernel
theorem dJ6_bitCount_0f7a4_21 : decode cJ6_bitCount_0f7a4 21 = .ok (.iand, 1) := by decide +kernel
theorem dJ6_bitCount_0f7a4_22 : decode cJ6_bitCount_0f7a4 22 = .ok (.iadd, 1) := by decide +kernel
theorem dJ6_bitCount_0f7a4_23 : decode cJ6_bitCount_0f7a4 23 = .ok (.istore_n 0, 1) := by decide +kernel
theorem dJ6_bitCount_0f7a4_24 : decode cJ6_bitCount_0f7a4 24 = .ok (.iload_n 0, 1) := by decide +kernel
theorem dJ6_bitCount_0f7a4_25 : decode cJ6_bitCount_0f7a4 25 = .ok (.iload_n 0, 1) := by decide +kernel
theorem dJ6_bitCount_0f7a4_26 : decode cJ6_bitCount_0f7a4 26 = .ok (.iconst 4, 1) := by decide +kernel
theorem dJ6_bitCount_0f7a4_27 : decode cJ6_bitCount_0f7a4 27 = .ok (.iushr, 1) := by decide +kernel
theorem dJ6_bitCount_0f7a4_28 : decode cJ6_bitCount_0f7a4 28 = .ok (.iadd, 1) := by decide +kernel
theorem dJ6_bitCount_0f7a4_29 : decode cJ6_bitCount_0f7a4 29 = .ok (.ldc_w 267, 3) := by decide +kernel
theorem dJ6_bitCount_0f7a4_32 : decode cJ6_bitCount_0f7a4 32 = .ok (.iand, 1) := by decide +kernel
theorem dJ6_bitCount_0f7a4_33 : decode cJ6_bitCount_0f7a4 33 = .ok (.istore_n 0, 1) := by decide +kernel
theorem dJ6_bitCount_0f7a4_34 : decode cJ6_bitCount_0f7a4 34 = .ok (.iload_n 0, 1) := by decide +kernel
theorem dJ6_bitCount_0f7a4_35 : decode cJ6_bitCount_0f7a4 35 = .ok (.iload_n 0, 1) := by decide +kernel
theorem dJ6_bitCount_0f7a4_36 : decode cJ6_bitCount_0f7a4 36 = .ok (.bipush 8, 2) := by decide +kernel
theorem dJ6_bitCount_0f7a4_38 : decode cJ6_bitCount_0f7a4 38 = .ok (.iushr, 1) := by decide +kernel
theorem dJ6_bitCount_0f7a4_39 : decode cJ6_bitCount_0f7a4 39 = .ok (.iadd, 1) := by decide +kernel
theorem dJ6_bitCount_0f7a4_40 : decode cJ6_bitCount_0f7a4 40 = .ok (.istore_n 0, 1) := by decide +kernel
theorem dJ6_bitCount_0f7a4_41 : decode cJ6_bitCount_0f7a4 41 = .ok (.iload_n 0, 1) := by decide +kernel
theorem dJ6_bitCount_0f7a4_42 : decode cJ6_bitCount_0f7a4 42 = .ok (.iload_n 0, 1) := by decide +kernel
theorem dJ6_bitCount_0f7a4_43 : decode cJ6_bitCount_0f7a4 43 = .ok (.bipush 16, 2) := by decide +kernel
theorem dJ6_bitCount_0f7a4_45 : decode cJ6_bitCount_0f7a4 45 = .ok (.iushr, 1) := by decide +kernel
theorem dJ6_bitCount_0f7a4_46 : decode cJ6_bitCount_0f7a4 46 = .ok (.iadd, 1) := by decide +kernel
theorem dJ6_bitCount_0f7a4_47 : decode cJ6_bitCount_0f7a4 47 = .ok (.istore_n 0, 1) := by decide +kernel
theorem dJ6_bitCount_0f7a4_48 : decode cJ6_bitCount_0f7a4 48 = .ok (.iload_n 0, 1) := by decide +kernel
theorem dJ6_bitCount_0f7a4_49 : decode cJ6_bitCount_0f7a4 49 = .ok (.bipush 63, 2) := by decide +kernel
theorem dJ6_bitCount_0f7a4_51 : decode cJ6_bitCount_0f7a4 51 = .ok (.iand, 1) := by decide +kernel
theorem dJ6_bitCount_0f7a4_52 : decode cJ6_bitCount_0f7a4 52 = .ok (.ireturn, 1) := by decide +kernel
theorem dJ9_max_7cf53_0 : decode cJ9_max_7cf53 0 = .ok (.iload_n 0, 1) := by decide +kernel
theorem dJ9_max_7cf53_1 : decode cJ9_max_7cf53 1 = .ok (.iload_n 1, 1) := by decide +kernel
theorem dJ9_max_7cf53_2 : decode cJ9_max_7cf53 2 = .ok (.if_icmp .lt 7, 3) := by decide +kernel
theorem dJ9_max_7cf53_5 : decode cJ9_max_7cf53 5 = .ok (.iload_n 0, 1) := by decide +kernel
theorem dJ9_max_7cf53_6 : decode cJ9_max_7cf53 6 = .ok (.goto 4, 3) := by decide +kernel
theorem dJ9_max_7cf53_9 : decode cJ9_max_7cf53 9 = .ok (.iload_n 1, 1) := by decide +kernel
theorem dJ9_max_7cf53_10 : decode cJ9_max_7cf53 10 = .ok (.ireturn, 1) := by decide +kernel
theorem dJ9_min_7cf53_0 : decode cJ9_min_7cf53 0 = .ok (.iload_n 0, 1) := by decide +kernel
theorem dJ9_min_7cf53_1 : decode cJ9_min_7cf53 1 = .ok (.iload_n 1, 1) := by decide +kernel
theorem dJ9_min_7cf53_2 : decode cJ9_min_7cf53 2 = .ok (.if_icmp .gt 7, 3) := by decide +kernel
theorem dJ9_min_7cf53_5 : decode cJ9_min_7cf53 5 = .ok (.iload_n 0, 1) := by decide +kernel
theorem dJ9_min_7cf53_6 : decode cJ9_min_7cf53 6 = .ok (.goto 4, 3) := by decide +kernel
theorem dJ9_min_7cf53_9 : decode cJ9_min_7cf53 9 = .ok (.iload_n 1, 1) := by decide +kernel
theorem dJ9_min_7cf53_10 : decode cJ9_min_7cf53 10 = .ok (.ireturn, 1) := by decide +kernel
