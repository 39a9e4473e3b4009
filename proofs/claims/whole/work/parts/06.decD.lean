theorem dX8_isLive_0 : decode cX8_isLive 0 = .ok (.aload_n 0, 1) := by decide +kernel
theorem dX8_isLive_1 : decode cX8_isLive 1 = .ok (.getfield 56, 3) := by decide +kernel
theorem dX8_isLive_4 : decode cX8_isLive 4 = .ok (.iload_n 1, 1) := by decide +kernel
theorem dX8_isLive_5 : decode cX8_isLive 5 = .ok (.iaload, 1) := by decide +kernel
theorem dX8_isLive_6 : decode cX8_isLive 6 = .ok (.aload_n 0, 1) := by decide +kernel
theorem dX8_isLive_7 : decode cX8_isLive 7 = .ok (.getfield 71, 3) := by decide +kernel
theorem dX8_isLive_10 : decode cX8_isLive 10 = .ok (.aload_n 0, 1) := by decide +kernel
theorem dX8_isLive_11 : decode cX8_isLive 11 = .ok (.getfield 53, 3) := by decide +kernel
theorem dX8_isLive_14 : decode cX8_isLive 14 = .ok (.iload_n 1, 1) := by decide +kernel
theorem dX8_isLive_15 : decode cX8_isLive 15 = .ok (.iaload, 1) := by decide +kernel
theorem dX8_isLive_16 : decode cX8_isLive 16 = .ok (.iaload, 1) := by decide +kernel
theorem dX8_isLive_17 : decode cX8_isLive 17 = .ok (.if_icmp .ne 7, 3) := by decide +kernel
theorem dX8_isLive_20 : decode cX8_isLive 20 = .ok (.iconst 1, 1) := by decide +kernel
theorem dX8_isLive_21 : decode cX8_isLive 21 = .ok (.goto 4, 3) := by decide +kernel
theorem dX8_isLive_24 : decode cX8_isLive 24 = .ok (.iconst 0, 1) := by decide +kernel
theorem dX8_isLive_25 : decode cX8_isLive 25 = .ok (.ireturn, 1) := by decide +kernel
theorem dX8_heldBy_0 : decode cX8_heldBy 0 = .ok (.iconst 0, 1) := by decide +kernel
theorem dX8_heldBy_1 : decode cX8_heldBy 1 = .ok (.istore_n 2, 1) := by decide +kernel
theorem dX8_heldBy_2 : decode cX8_heldBy 2 = .ok (.iconst 0, 1) := by decide +kernel
theorem dX8_heldBy_3 : decode cX8_heldBy 3 = .ok (.istore_n 3, 1) := by decide +kernel
theorem dX8_heldBy_4 : decode cX8_heldBy 4 = .ok (.iload_n 3, 1) := by decide +kernel
theorem dX8_heldBy_5 : decode cX8_heldBy 5 = .ok (.aload_n 0, 1) := by decide +kernel
theorem dX8_heldBy_6 : decode cX8_heldBy 6 = .ok (.getfield 189, 3) := by decide +kernel
theorem dX8_heldBy_9 : decode cX8_heldBy 9 = .ok (.if_icmp .ge 38, 3) := by decide +kernel
theorem dX8_heldBy_12 : decode cX8_heldBy 12 = .ok (.iload_n 2, 1) := by decide +kernel
theorem dX8_heldBy_13 : decode cX8_heldBy 13 = .ok (.aload_n 0, 1) := by decide +kernel
theorem dX8_heldBy_14 : decode cX8_heldBy 14 = .ok (.getfield 59, 3) := by decide +kernel
theorem dX8_heldBy_17 : decode cX8_heldBy 17 = .ok (.iload_n 3, 1) := by decide +kernel
theorem dX8_heldBy_18 : decode cX8_heldBy 18 = .ok (.iaload, 1) := by decide +kernel
theorem dX8_heldBy_19 : decode cX8_heldBy 19 = .ok (.ifCond .ne 19, 3) := by decide +kernel
theorem dX8_heldBy_22 : decode cX8_heldBy 22 = .ok (.aload_n 0, 1) := by decide +kernel
theorem dX8_heldBy_23 : decode cX8_heldBy 23 = .ok (.getfield 62, 3) := by decide +kernel
theorem dX8_heldBy_26 : decode cX8_heldBy 26 = .ok (.iload_n 3, 1) := by decide +kernel
theorem dX8_heldBy_27 : decode cX8_heldBy 27 = .ok (.iaload, 1) := by decide +kernel
theorem dX8_heldBy_28 : decode cX8_heldBy 28 = .ok (.iload_n 1, 1) := by decide +kernel
theorem dX8_heldBy_29 : decode cX8_heldBy 29 = .ok (.if_icmp .ne 9, 3) := by decide +kernel
theorem dX8_heldBy_32 : decode cX8_heldBy 32 = .ok (.iconst 1, 1) := by decide +kernel
theorem dX8_heldBy_33 : decode cX8_heldBy 33 = .ok (.iload_n 3, 1) := by decide +kernel
theorem dX8_heldBy_34 : decode cX8_heldBy 34 = .ok (.ishl, 1) := by decide +kernel
theorem dX8_heldBy_35 : decode cX8_heldBy 35 = .ok (.goto 4, 3) := by decide +kernel
theorem dX8_heldBy_38 : decode cX8_heldBy 38 = .ok (.iconst 0, 1) := by decide +kernel
theorem dX8_heldBy_39 : decode cX8_heldBy 39 = .ok (.ior, 1) := by decide +kernel
theorem dX8_heldBy_40 : decode cX8_heldBy 40 = .ok (.istore_n 2, 1) := by decide +kernel
theorem dX8_heldBy_41 : decode cX8_heldBy 41 = .ok (.iinc 3 1, 3) := by decide +kernel
theorem dX8_heldBy_44 : decode cX8_heldBy 44 = .ok (.goto (-40), 3) := by decide +kernel
theorem dX8_heldBy_47 : decode cX8_heldBy 47 = .ok (.iload_n 2, 1) := by decide +kernel
theorem dX8_heldBy_48 : decode cX8_heldBy 48 = .ok (.ireturn, 1) := by decide +kernel
theorem dX8_livesIn_0 : decode cX8_livesIn 0 = .ok (.iconst 0, 1) := by decide +kernel
theorem dX8_livesIn_1 : decode cX8_livesIn 1 = .ok (.istore_n 2, 1) := by decide +kernel
theorem dX8_livesIn_2 : decode cX8_livesIn 2 = .ok (.iconst 0, 1) := by decide +kernel
theorem dX8_livesIn_3 : decode cX8_livesIn 3 = .ok (.istore_n 3, 1) := by decide +kernel
theorem dX8_livesIn_4 : decode cX8_livesIn 4 = .ok (.iload_n 3, 1) := by decide +kernel
theorem dX8_livesIn_5 : decode cX8_livesIn 5 = .ok (.aload_n 0, 1) := by decide +kernel
theorem dX8_livesIn_6 : decode cX8_livesIn 6 = .ok (.getfield 183, 3) := by decide +kernel
theorem dX8_livesIn_9 : decode cX8_livesIn 9 = .ok (.if_icmp .ge 29, 3) := by decide +kernel
theorem dX8_livesIn_12 : decode cX8_livesIn 12 = .ok (.iload_n 2, 1) := by decide +kernel
theorem dX8_livesIn_13 : decode cX8_livesIn 13 = .ok (.aload_n 0, 1) := by decide +kernel
theorem dX8_livesIn_14 : decode cX8_livesIn 14 = .ok (.getfield 32, 3) := by decide +kernel
theorem dX8_livesIn_17 : decode cX8_livesIn 17 = .ok (.iload_n 3, 1) := by decide +kernel
theorem dX8_livesIn_18 : decode cX8_livesIn 18 = .ok (.iaload, 1) := by decide +kernel
theorem dX8_livesIn_19 : decode cX8_livesIn 19 = .ok (.iload_n 1, 1) := by decide +kernel
theorem dX8_livesIn_20 : decode cX8_livesIn 20 = .ok (.if_icmp .ne 9, 3) := by decide +kernel
theorem dX8_livesIn_23 : decode cX8_livesIn 23 = .ok (.iconst 1, 1) := by decide +kernel
theorem dX8_livesIn_24 : decode cX8_livesIn 24 = .ok (.iload_n 3, 1) := by decide +kernel
theorem dX8_livesIn_25 : decode cX8_livesIn 25 = .ok (.ishl, 1) := by decide +kernel
theorem dX8_livesIn_26 : decode cX8_livesIn 26 = .ok (.goto 4, 3) := by decide +kernel
theorem dX8_livesIn_29 : decode cX8_livesIn 29 = .ok (.iconst 0, 1) := by decide +kernel
theorem dX8_livesIn_30 : decode cX8_livesIn 30 = .ok (.ior, 1) := by decide +kernel
theorem dX8_livesIn_31 : decode cX8_livesIn 31 = .ok (.istore_n 2, 1) := by decide +kernel
theorem dX8_livesIn_32 : decode cX8_livesIn 32 = .ok (.iinc 3 1, 3) := by decide +kernel
theorem dX8_livesIn_35 : decode cX8_livesIn 35 = .ok (.goto (-31), 3) := by decide +kernel
theorem dX8_livesIn_38 : decode cX8_livesIn 38 = .ok (.iload_n 2, 1) := by decide +kernel
theorem dX8_livesIn_39 : decode cX8_livesIn 39 = .ok (.ireturn, 1) := by decide +kernel
theorem dX8_isEvent_0 : decode cX8_isEvent 0 = .ok (.iload_n 1, 1) := by decide +kernel
theorem dX8_isEvent_1 : decode cX8_isEvent 1 = .ok (.iconst 0, 1) := by decide +kernel
theorem dX8_isEvent_2 : decode cX8_isEvent 2 = .ok (.aload_n 0, 1) := by decide +kernel
theorem dX8_isEvent_3 : decode cX8_isEvent 3 = .ok (.getfield 186, 3) := by decide +kernel
theorem dX8_isEvent_6 : decode cX8_isEvent 6 = .ok (.iconst 1, 1) := by decide +kernel
theorem dX8_isEvent_7 : decode cX8_isEvent 7 = .ok (.isub, 1) := by decide +kernel
theorem dX8_isEvent_8 : decode cX8_isEvent 8 = .ok (.invokestatic 112, 3) := by decide +kernel
theorem dX8_isEvent_11 : decode cX8_isEvent 11 = .ok (.ireturn, 1) := by decide +kernel
theorem dX8_told_0 : decode cX8_told 0 = .ok (.aload_n 0, 1) := by decide +kernel
theorem dX8_told_1 : decode cX8_told 1 = .ok (.iload_n 1, 1) := by decide +kernel
theorem dX8_told_2 : decode cX8_told 2 = .ok (.invokevirtual 234, 3) := by decide +kernel
theorem dX8_told_5 : decode cX8_told 5 = .ok (.ifCond .eq 30, 3) := by decide +kernel
theorem dX8_told_8 : decode cX8_told 8 = .ok (.iload_n 2, 1) := by decide +kernel
theorem dX8_told_9 : decode cX8_told 9 = .ok (.iconst 0, 1) := by decide +kernel
theorem dX8_told_10 : decode cX8_told 10 = .ok (.iconst 3, 1) := by decide +kernel
theorem dX8_told_11 : decode cX8_told 11 = .ok (.invokestatic 112, 3) := by decide +kernel
theorem dX8_told_14 : decode cX8_told 14 = .ok (.ifCond .eq 21, 3) := by decide +kernel
theorem dX8_told_17 : decode cX8_told 17 = .ok (.aload_n 0, 1) := by decide +kernel
theorem dX8_told_18 : decode cX8_told 18 = .ok (.aload_n 0, 1) := by decide +kernel
theorem dX8_told_19 : decode cX8_told 19 = .ok (.getfield 47, 3) := by decide +kernel
theorem dX8_told_22 : decode cX8_told 22 = .ok (.iconst 4, 1) := by decide +kernel
theorem dX8_told_23 : decode cX8_told 23 = .ok (.iload_n 1, 1) := by decide +kernel
theorem dX8_told_24 : decode cX8_told 24 = .ok (.imul, 1) := by decide +kernel
theorem dX8_told_25 : decode cX8_told 25 = .ok (.iload_n 2, 1) := by decide +kernel
theorem dX8_told_26 : decode cX8_told 26 = .ok (.iadd, 1) := by decide +kernel
theorem dX8_told_27 : decode cX8_told 27 = .ok (.iaload, 1) := by decide +kernel
theorem dX8_told_28 : decode cX8_told 28 = .ok (.iconst 1, 1) := by decide +kernel
theorem dX8_told_29 : decode cX8_told 29 = .ok (.invokevirtual 134, 3) := by decide +kernel
theorem dX8_told_32 : decode cX8_told 32 = .ok (.goto 4, 3) := by decide +kernel
theorem dX8_told_35 : decode cX8_told 35 = .ok (.iconst (-1), 1) := by decide +kernel
theorem dX8_told_36 : decode cX8_told 36 = .ok (.ireturn, 1) := by decide +kernel
theorem dX8_mark_0 : decode cX8_mark 0 = .ok (.aload_n 0, 1) := by decide +kernel
theorem dX8_mark_1 : decode cX8_mark 1 = .ok (.iload_n 1, 1) := by decide +kernel
theorem dX8_mark_2 : decode cX8_mark 2 = .ok (.invokevirtual 234, 3) := by decide +kernel
theorem dX8_mark_5 : decode cX8_mark 5 = .ok (.ifCond .eq 13, 3) := by decide +kernel
theorem dX8_mark_8 : decode cX8_mark 8 = .ok (.iload_n 2, 1) := by decide +kernel
theorem dX8_mark_9 : decode cX8_mark 9 = .ok (.iconst 1, 1) := by decide +kernel
theorem dX8_mark_10 : decode cX8_mark 10 = .ok (.bipush 7, 2) := by decide +kernel
theorem dX8_mark_12 : decode cX8_mark 12 = .ok (.invokestatic 112, 3) := by decide +kernel
theorem dX8_mark_15 : decode cX8_mark 15 = .ok (.ifCond .ne 5, 3) := by decide +kernel
theorem dX8_mark_18 : decode cX8_mark 18 = .ok (.iconst (-1), 1) := by decide +kernel
theorem dX8_mark_19 : decode cX8_mark 19 = .ok (.ireturn, 1) := by decide +kernel
theorem dX8_mark_20 : decode cX8_mark 20 = .ok (.aload_n 0, 1) := by decide +kernel
theorem dX8_mark_21 : decode cX8_mark 21 = .ok (.getfield 47, 3) := by decide +kernel
theorem dX8_mark_24 : decode cX8_mark 24 = .ok (.iconst 4, 1) := by decide +kernel
theorem dX8_mark_25 : decode cX8_mark 25 = .ok (.iload_n 1, 1) := by decide +kernel
theorem dX8_mark_26 : decode cX8_mark 26 = .ok (.imul, 1) := by decide +kernel
theorem dX8_mark_27 : decode cX8_mark 27 = .ok (.iaload, 1) := by decide +kernel
theorem dX8_mark_28 : decode cX8_mark 28 = .ok (.istore_n 3, 1) := by decide +kernel
theorem dX8_mark_29 : decode cX8_mark 29 = .ok (.aload_n 0, 1) := by decide +kernel
theorem dX8_mark_30 : decode cX8_mark 30 = .ok (.getfield 47, 3) := by decide +kernel
theorem dX8_mark_33 : decode cX8_mark 33 = .ok (.iconst 4, 1) := by decide +kernel
theorem dX8_mark_34 : decode cX8_mark 34 = .ok (.iload_n 1, 1) := by decide +kernel
theorem dX8_mark_35 : decode cX8_mark 35 = .ok (.imul, 1) := by decide +kernel
theorem dX8_mark_36 : decode cX8_mark 36 = .ok (.iconst 1, 1) := by decide +kernel
theorem dX8_mark_37 : decode cX8_mark 37 = .ok (.iadd, 1) := by decide +kernel
theorem dX8_mark_38 : decode cX8_mark 38 = .ok (.iaload, 1) := by decide +kernel
theorem dX8_mark_39 : decode cX8_mark 39 = .ok (.istore 4, 2) := by decide +kernel
theorem dX8_mark_41 : decode cX8_mark 41 = .ok (.aload_n 0, 1) := by decide +kernel
theorem dX8_mark_42 : decode cX8_mark 42 = .ok (.getfield 47, 3) := by decide +kernel
theorem dX8_mark_45 : decode cX8_mark 45 = .ok (.iconst 4, 1) := by decide +kernel
theorem dX8_mark_46 : decode cX8_mark 46 = .ok (.iload_n 1, 1) := by decide +kernel
theorem dX8_mark_47 : decode cX8_mark 47 = .ok (.imul, 1) := by decide +kernel
theorem dX8_mark_48 : decode cX8_mark 48 = .ok (.iconst 2, 1) := by decide +kernel
theorem dX8_mark_49 : decode cX8_mark 49 = .ok (.iadd, 1) := by decide +kernel
theorem dX8_mark_50 : decode cX8_mark 50 = .ok (.iaload, 1) := by decide +kernel
theorem dX8_mark_51 : decode cX8_mark 51 = .ok (.istore 5, 2) := by decide +kernel
theorem dX8_mark_53 : decode cX8_mark 53 = .ok (.iload_n 3, 1) := by decide +kernel
theorem dX8_mark_54 : decode cX8_mark 54 = .ok (.iload_n 2, 1) := by decide +kernel
theorem dX8_mark_55 : decode cX8_mark 55 = .ok (.if_icmp .eq 23, 3) := by decide +kernel
theorem dX8_mark_58 : decode cX8_mark 58 = .ok (.iload_n 2, 1) := by decide +kernel
theorem dX8_mark_59 : decode cX8_mark 59 = .ok (.iconst 1, 1) := by decide +kernel
theorem dX8_mark_60 : decode cX8_mark 60 = .ok (.if_icmp .ne 8, 3) := by decide +kernel
theorem dX8_mark_63 : decode cX8_mark 63 = .ok (.iload_n 3, 1) := by decide +kernel
theorem dX8_mark_64 : decode cX8_mark 64 = .ok (.iconst 2, 1) := by decide +kernel
theorem dX8_mark_65 : decode cX8_mark 65 = .ok (.if_icmp .eq 13, 3) := by decide +kernel
theorem dX8_mark_68 : decode cX8_mark 68 = .ok (.iload_n 2, 1) := by decide +kernel
theorem dX8_mark_69 : decode cX8_mark 69 = .ok (.iconst 4, 1) := by decide +kernel
theorem dX8_mark_70 : decode cX8_mark 70 = .ok (.if_icmp .ne 12, 3) := by decide +kernel
theorem dX8_mark_73 : decode cX8_mark 73 = .ok (.iload_n 3, 1) := by decide +kernel
theorem dX8_mark_74 : decode cX8_mark 74 = .ok (.iconst 5, 1) := by decide +kernel
theorem dX8_mark_75 : decode cX8_mark 75 = .ok (.if_icmp .ne 7, 3) := by decide +kernel
theorem dX8_mark_78 : decode cX8_mark 78 = .ok (.iconst 1, 1) := by decide +kernel
theorem dX8_mark_79 : decode cX8_mark 79 = .ok (.goto 4, 3) := by decide +kernel
theorem dX8_mark_82 : decode cX8_mark 82 = .ok (.iconst 0, 1) := by decide +kernel
theorem dX8_mark_83 : decode cX8_mark 83 = .ok (.istore 6, 2) := by decide +kernel
theorem dX8_mark_85 : decode cX8_mark 85 = .ok (.iload 6, 2) := by decide +kernel
theorem dX8_mark_87 : decode cX8_mark 87 = .ok (.ifCond .ne 9, 3) := by decide +kernel
theorem dX8_mark_90 : decode cX8_mark 90 = .ok (.aload_n 0, 1) := by decide +kernel
theorem dX8_mark_91 : decode cX8_mark 91 = .ok (.iconst 3, 1) := by decide +kernel
theorem dX8_mark_92 : decode cX8_mark 92 = .ok (.invokevirtual 126, 3) := by decide +kernel
theorem dX8_mark_95 : decode cX8_mark 95 = .ok (.ireturn, 1) := by decide +kernel
theorem dX8_mark_96 : decode cX8_mark 96 = .ok (.iload_n 2, 1) := by decide +kernel
theorem dX8_mark_97 : decode cX8_mark 97 = .ok (.iconst 1, 1) := by decide +kernel
theorem dX8_mark_98 : decode cX8_mark 98 = .ok (.if_icmp .ne 12, 3) := by decide +kernel
theorem dX8_mark_101 : decode cX8_mark 101 = .ok (.aload_n 0, 1) := by decide +kernel
theorem dX8_mark_102 : decode cX8_mark 102 = .ok (.getfield 68, 3) := by decide +kernel
theorem dX8_mark_105 : decode cX8_mark 105 = .ok (.iload_n 1, 1) := by decide +kernel
theorem dX8_mark_106 : decode cX8_mark 106 = .ok (.iaload, 1) := by decide +kernel
theorem dX8_mark_107 : decode cX8_mark 107 = .ok (.goto 20, 3) := by decide +kernel
theorem dX8_mark_110 : decode cX8_mark 110 = .ok (.iload_n 2, 1) := by decide +kernel
theorem dX8_mark_111 : decode cX8_mark 111 = .ok (.iconst 3, 1) := by decide +kernel
theorem dX8_mark_112 : decode cX8_mark 112 = .ok (.if_icmp .eq 8, 3) := by decide +kernel
theorem dX8_mark_115 : decode cX8_mark 115 = .ok (.iload_n 2, 1) := by decide +kernel
theorem dX8_mark_116 : decode cX8_mark 116 = .ok (.iconst 4, 1) := by decide +kernel
theorem dX8_mark_117 : decode cX8_mark 117 = .ok (.if_icmp .ne 8, 3) := by decide +kernel
theorem dX8_mark_120 : decode cX8_mark 120 = .ok (.iload 5, 2) := by decide +kernel
theorem dX8_mark_122 : decode cX8_mark 122 = .ok (.goto 5, 3) := by decide +kernel
theorem dX8_mark_125 : decode cX8_mark 125 = .ok (.iload 4, 2) := by decide +kernel
theorem dX8_mark_127 : decode cX8_mark 127 = .ok (.ireturn, 1) := by decide +kernel
theorem dX8_houseTells_0 : decode cX8_houseTells 0 = .ok (.iload_n 2, 1) := by decide +kernel
theorem dX8_houseTells_1 : decode cX8_houseTells 1 = .ok (.ifCond .ne 12, 3) := by decide +kernel
theorem dX8_houseTells_4 : decode cX8_houseTells 4 = .ok (.aload_n 0, 1) := by decide +kernel
theorem dX8_houseTells_5 : decode cX8_houseTells 5 = .ok (.getfield 29, 3) := by decide +kernel
theorem dX8_houseTells_8 : decode cX8_houseTells 8 = .ok (.iload_n 1, 1) := by decide +kernel
theorem dX8_houseTells_9 : decode cX8_houseTells 9 = .ok (.iaload, 1) := by decide +kernel
theorem dX8_houseTells_10 : decode cX8_houseTells 10 = .ok (.goto 36, 3) := by decide +kernel
theorem dX8_houseTells_13 : decode cX8_houseTells 13 = .ok (.iload_n 2, 1) := by decide +kernel
theorem dX8_houseTells_14 : decode cX8_houseTells 14 = .ok (.iconst 1, 1) := by decide +kernel
theorem dX8_houseTells_15 : decode cX8_houseTells 15 = .ok (.if_icmp .ne 12, 3) := by decide +kernel
theorem dX8_houseTells_18 : decode cX8_houseTells 18 = .ok (.aload_n 0, 1) := by decide +kernel
theorem dX8_houseTells_19 : decode cX8_houseTells 19 = .ok (.getfield 71, 3) := by decide +kernel
theorem dX8_houseTells_22 : decode cX8_houseTells 22 = .ok (.iload_n 1, 1) := by decide +kernel
theorem dX8_houseTells_23 : decode cX8_houseTells 23 = .ok (.iaload, 1) := by decide +kernel
theorem dX8_houseTells_24 : decode cX8_houseTells 24 = .ok (.goto 22, 3) := by decide +kernel
theorem dX8_houseTells_27 : decode cX8_houseTells 27 = .ok (.iload_n 2, 1) := by decide +kernel
theorem dX8_houseTells_28 : decode cX8_houseTells 28 = .ok (.iconst 2, 1) := by decide +kernel
theorem dX8_houseTells_29 : decode cX8_houseTells 29 = .ok (.if_icmp .ne 12, 3) := by decide +kernel
theorem dX8_houseTells_32 : decode cX8_houseTells 32 = .ok (.aload_n 0, 1) := by decide +kernel
theorem dX8_houseTells_33 : decode cX8_houseTells 33 = .ok (.getfield 77, 3) := by decide +kernel
theorem dX8_houseTells_36 : decode cX8_houseTells 36 = .ok (.iload_n 1, 1) := by decide +kernel
theorem dX8_houseTells_37 : decode cX8_houseTells 37 = .ok (.iaload, 1) := by decide +kernel
theorem dX8_houseTells_38 : decode cX8_houseTells 38 = .ok (.goto 8, 3) := by decide +kernel
theorem dX8_houseTells_41 : decode cX8_houseTells 41 = .ok (.aload_n 0, 1) := by decide +kernel
theorem dX8_houseTells_42 : decode cX8_houseTells 42 = .ok (.iload_n 1, 1) := by decide +kernel
theorem dX8_houseTells_43 : decode cX8_houseTells 43 = .ok (.invokevirtual 237, 3) := by decide +kernel
theorem dX8_houseTells_46 : decode cX8_houseTells 46 = .ok (.ireturn, 1) := by decide +kernel
theorem dX8_house_0 : decode cX8_house 0 = .ok (.aload_n 0, 1) := by decide +kernel
theorem dX8_house_1 : decode cX8_house 1 = .ok (.iload_n 1, 1) := by decide +kernel
theorem dX8_house_2 : decode cX8_house 2 = .ok (.invokevirtual 204, 3) := by decide +kernel
theorem dX8_house_5 : decode cX8_house 5 = .ok (.ifCond .eq 26, 3) := by decide +kernel
theorem dX8_house_8 : decode cX8_house 8 = .ok (.iload_n 2, 1) := by decide +kernel
theorem dX8_house_9 : decode cX8_house 9 = .ok (.iconst 0, 1) := by decide +kernel
theorem dX8_house_10 : decode cX8_house 10 = .ok (.iconst 3, 1) := by decide +kernel
theorem dX8_house_11 : decode cX8_house 11 = .ok (.invokestatic 112, 3) := by decide +kernel
theorem dX8_house_14 : decode cX8_house 14 = .ok (.ifCond .eq 17, 3) := by decide +kernel
theorem dX8_house_17 : decode cX8_house 17 = .ok (.aload_n 0, 1) := by decide +kernel
theorem dX8_house_18 : decode cX8_house 18 = .ok (.aload_n 0, 1) := by decide +kernel
theorem dX8_house_19 : decode cX8_house 19 = .ok (.iload_n 1, 1) := by decide +kernel
theorem dX8_house_20 : decode cX8_house 20 = .ok (.iload_n 2, 1) := by decide +kernel
theorem dX8_house_21 : decode cX8_house 21 = .ok (.invokevirtual 240, 3) := by decide +kernel
theorem dX8_house_24 : decode cX8_house 24 = .ok (.iconst 1, 1) := by decide +kernel
theorem dX8_house_25 : decode cX8_house 25 = .ok (.invokevirtual 134, 3) := by decide +kernel
theorem dX8_house_28 : decode cX8_house 28 = .ok (.goto 4, 3) := by decide +kernel
theorem dX8_house_31 : decode cX8_house 31 = .ok (.iconst (-1), 1) := by decide +kernel
theorem dX8_house_32 : decode cX8_house 32 = .ok (.ireturn, 1) := by decide +kernel
theorem dX8_personTells_0 : decode cX8_personTells 0 = .ok (.iload_n 2, 1) := by decide +kernel
theorem dX8_personTells_1 : decode cX8_personTells 1 = .ok (.ifCond .ne 12, 3) := by decide +kernel
theorem dX8_personTells_4 : decode cX8_personTells 4 = .ok (.aload_n 0, 1) := by decide +kernel
theorem dX8_personTells_5 : decode cX8_personTells 5 = .ok (.getfield 32, 3) := by decide +kernel
theorem dX8_personTells_8 : decode cX8_personTells 8 = .ok (.iload_n 1, 1) := by decide +kernel
theorem dX8_personTells_9 : decode cX8_personTells 9 = .ok (.iaload, 1) := by decide +kernel
theorem dX8_personTells_10 : decode cX8_personTells 10 = .ok (.goto 22, 3) := by decide +kernel
theorem dX8_personTells_13 : decode cX8_personTells 13 = .ok (.iload_n 2, 1) := by decide +kernel
theorem dX8_personTells_14 : decode cX8_personTells 14 = .ok (.iconst 1, 1) := by decide +kernel
theorem dX8_personTells_15 : decode cX8_personTells 15 = .ok (.if_icmp .ne 12, 3) := by decide +kernel
theorem dX8_personTells_18 : decode cX8_personTells 18 = .ok (.aload_n 0, 1) := by decide +kernel
theorem dX8_personTells_19 : decode cX8_personTells 19 = .ok (.getfield 35, 3) := by decide +kernel
theorem dX8_personTells_22 : decode cX8_personTells 22 = .ok (.iload_n 1, 1) := by decide +kernel
theorem dX8_personTells_23 : decode cX8_personTells 23 = .ok (.iaload, 1) := by decide +kernel
theorem dX8_personTells_24 : decode cX8_personTells 24 = .ok (.goto 8, 3) := by decide +kernel
theorem dX8_personTells_27 : decode cX8_personTells 27 = .ok (.aload_n 0, 1) := by decide +kernel
theorem dX8_personTells_28 : decode cX8_personTells 28 = .ok (.iload_n 1, 1) := by decide +kernel
theorem dX8_personTells_29 : decode cX8_personTells 29 = .ok (.invokevirtual 243, 3) := by decide +kernel
theorem dX8_personTells_32 : decode cX8_personTells 32 = .ok (.ireturn, 1) := by decide +kernel
theorem dX8_person_0 : decode cX8_person 0 = .ok (.aload_n 0, 1) := by decide +kernel
theorem dX8_person_1 : decode cX8_person 1 = .ok (.iload_n 1, 1) := by decide +kernel
theorem dX8_person_2 : decode cX8_person 2 = .ok (.invokevirtual 207, 3) := by decide +kernel
theorem dX8_person_5 : decode cX8_person 5 = .ok (.ifCond .eq 26, 3) := by decide +kernel
theorem dX8_person_8 : decode cX8_person 8 = .ok (.iload_n 2, 1) := by decide +kernel
theorem dX8_person_9 : decode cX8_person 9 = .ok (.iconst 0, 1) := by decide +kernel
theorem dX8_person_10 : decode cX8_person 10 = .ok (.iconst 2, 1) := by decide +kernel
theorem dX8_person_11 : decode cX8_person 11 = .ok (.invokestatic 112, 3) := by decide +kernel
theorem dX8_person_14 : decode cX8_person 14 = .ok (.ifCond .eq 17, 3) := by decide +kernel
theorem dX8_person_17 : decode cX8_person 17 = .ok (.aload_n 0, 1) := by decide +kernel
theorem dX8_person_18 : decode cX8_person 18 = .ok (.aload_n 0, 1) := by decide +kernel
theorem dX8_person_19 : decode cX8_person 19 = .ok (.iload_n 1, 1) := by decide +kernel
theorem dX8_person_20 : decode cX8_person 20 = .ok (.iload_n 2, 1) := by decide +kernel
theorem dX8_person_21 : decode cX8_person 21 = .ok (.invokevirtual 246, 3) := by decide +kernel
theorem dX8_person_24 : decode cX8_person 24 = .ok (.iconst 1, 1) := by decide +kernel
theorem dX8_person_25 : decode cX8_person 25 = .ok (.invokevirtual 134, 3) := by decide +kernel
theorem dX8_person_28 : decode cX8_person 28 = .ok (.goto 4, 3) := by decide +kernel
theorem dX8_person_31 : decode cX8_person 31 = .ok (.iconst (-1), 1) := by decide +kernel
theorem dX8_person_32 : decode cX8_person 32 = .ok (.ireturn, 1) := by decide +kernel
theorem dX8_keyTells_0 : decode cX8_keyTells 0 = .ok (.iload_n 2, 1) := by decide +kernel
theorem dX8_keyTells_1 : decode cX8_keyTells 1 = .ok (.ifCond .ne 12, 3) := by decide +kernel
theorem dX8_keyTells_4 : decode cX8_keyTells 4 = .ok (.aload_n 0, 1) := by decide +kernel
theorem dX8_keyTells_5 : decode cX8_keyTells 5 = .ok (.getfield 53, 3) := by decide +kernel
theorem dX8_keyTells_8 : decode cX8_keyTells 8 = .ok (.iload_n 1, 1) := by decide +kernel
theorem dX8_keyTells_9 : decode cX8_keyTells 9 = .ok (.iaload, 1) := by decide +kernel
theorem dX8_keyTells_10 : decode cX8_keyTells 10 = .ok (.goto 58, 3) := by decide +kernel
theorem dX8_keyTells_13 : decode cX8_keyTells 13 = .ok (.iload_n 2, 1) := by decide +kernel
theorem dX8_keyTells_14 : decode cX8_keyTells 14 = .ok (.iconst 1, 1) := by decide +kernel
theorem dX8_keyTells_15 : decode cX8_keyTells 15 = .ok (.if_icmp .ne 19, 3) := by decide +kernel
theorem dX8_keyTells_18 : decode cX8_keyTells 18 = .ok (.aload_n 0, 1) := by decide +kernel
theorem dX8_keyTells_19 : decode cX8_keyTells 19 = .ok (.iload_n 1, 1) := by decide +kernel
theorem dX8_keyTells_20 : decode cX8_keyTells 20 = .ok (.invokevirtual 223, 3) := by decide +kernel
theorem dX8_keyTells_23 : decode cX8_keyTells 23 = .ok (.ifCond .eq 7, 3) := by decide +kernel
theorem dX8_keyTells_26 : decode cX8_keyTells 26 = .ok (.iconst 1, 1) := by decide +kernel
theorem dX8_keyTells_27 : decode cX8_keyTells 27 = .ok (.goto 41, 3) := by decide +kernel
theorem dX8_keyTells_30 : decode cX8_keyTells 30 = .ok (.iconst 0, 1) := by decide +kernel
theorem dX8_keyTells_31 : decode cX8_keyTells 31 = .ok (.goto 37, 3) := by decide +kernel
theorem dX8_keyTells_34 : decode cX8_keyTells 34 = .ok (.iload_n 2, 1) := by decide +kernel
theorem dX8_keyTells_35 : decode cX8_keyTells 35 = .ok (.iconst 2, 1) := by decide +kernel
theorem dX8_keyTells_36 : decode cX8_keyTells 36 = .ok (.if_icmp .ne 12, 3) := by decide +kernel
theorem dX8_keyTells_39 : decode cX8_keyTells 39 = .ok (.aload_n 0, 1) := by decide +kernel
theorem dX8_keyTells_40 : decode cX8_keyTells 40 = .ok (.getfield 59, 3) := by decide +kernel
theorem dX8_keyTells_43 : decode cX8_keyTells 43 = .ok (.iload_n 1, 1) := by decide +kernel
theorem dX8_keyTells_44 : decode cX8_keyTells 44 = .ok (.iaload, 1) := by decide +kernel
theorem dX8_keyTells_45 : decode cX8_keyTells 45 = .ok (.goto 23, 3) := by decide +kernel
theorem dX8_keyTells_48 : decode cX8_keyTells 48 = .ok (.iload_n 2, 1) := by decide +kernel
theorem dX8_keyTells_49 : decode cX8_keyTells 49 = .ok (.iconst 3, 1) := by decide +kernel
theorem dX8_keyTells_50 : decode cX8_keyTells 50 = .ok (.if_icmp .ne 12, 3) := by decide +kernel
theorem dX8_keyTells_53 : decode cX8_keyTells 53 = .ok (.aload_n 0, 1) := by decide +kernel
theorem dX8_keyTells_54 : decode cX8_keyTells 54 = .ok (.getfield 62, 3) := by decide +kernel
theorem dX8_keyTells_57 : decode cX8_keyTells 57 = .ok (.iload_n 1, 1) := by decide +kernel
theorem dX8_keyTells_58 : decode cX8_keyTells 58 = .ok (.iaload, 1) := by decide +kernel
theorem dX8_keyTells_59 : decode cX8_keyTells 59 = .ok (.goto 9, 3) := by decide +kernel
theorem dX8_keyTells_62 : decode cX8_keyTells 62 = .ok (.aload_n 0, 1) := by decide +kernel
theorem dX8_keyTells_63 : decode cX8_keyTells 63 = .ok (.getfield 65, 3) := by decide +kernel
theorem dX8_keyTells_66 : decode cX8_keyTells 66 = .ok (.iload_n 1, 1) := by decide +kernel
theorem dX8_keyTells_67 : decode cX8_keyTells 67 = .ok (.iaload, 1) := by decide +kernel
theorem dX8_keyTells_68 : decode cX8_keyTells 68 = .ok (.ireturn, 1) := by decide +kernel
theorem dX8_key_0 : decode cX8_key 0 = .ok (.aload_n 0, 1) := by decide +kernel
theorem dX8_key_1 : decode cX8_key 1 = .ok (.iload_n 1, 1) := by decide +kernel
theorem dX8_key_2 : decode cX8_key 2 = .ok (.invokevirtual 210, 3) := by decide +kernel
theorem dX8_key_5 : decode cX8_key 5 = .ok (.ifCond .eq 26, 3) := by decide +kernel
theorem dX8_key_8 : decode cX8_key 8 = .ok (.iload_n 2, 1) := by decide +kernel
theorem dX8_key_9 : decode cX8_key 9 = .ok (.iconst 0, 1) := by decide +kernel
theorem dX8_key_10 : decode cX8_key 10 = .ok (.iconst 4, 1) := by decide +kernel
theorem dX8_key_11 : decode cX8_key 11 = .ok (.invokestatic 112, 3) := by decide +kernel
theorem dX8_key_14 : decode cX8_key 14 = .ok (.ifCond .eq 17, 3) := by decide +kernel
theorem dX8_key_17 : decode cX8_key 17 = .ok (.aload_n 0, 1) := by decide +kernel
theorem dX8_key_18 : decode cX8_key 18 = .ok (.aload_n 0, 1) := by decide +kernel
theorem dX8_key_19 : decode cX8_key 19 = .ok (.iload_n 1, 1) := by decide +kernel
theorem dX8_key_20 : decode cX8_key 20 = .ok (.iload_n 2, 1) := by decide +kernel
theorem dX8_key_21 : decode cX8_key 21 = .ok (.invokevirtual 249, 3) := by decide +kernel
theorem dX8_key_24 : decode cX8_key 24 = .ok (.iconst 1, 1) := by decide +kernel
theorem dX8_key_25 : decode cX8_key 25 = .ok (.invokevirtual 134, 3) := by decide +kernel
theorem dX8_key_28 : decode cX8_key 28 = .ok (.goto 4, 3) := by decide +kernel
theorem dX8_key_31 : decode cX8_key 31 = .ok (.iconst (-1), 1) := by decide +kernel
theorem dX8_key_32 : decode cX8_key 32 = .ok (.ireturn, 1) := by decide +kernel
theorem dX8_trust_0 : decode cX8_trust 0 = .ok (.aload_n 0, 1) := by decide +kernel
theorem dX8_trust_1 : decode cX8_trust 1 = .ok (.iload_n 1, 1) := by decide +kernel
theorem dX8_trust_2 : decode cX8_trust 2 = .ok (.invokevirtual 207, 3) := by decide +kernel
theorem dX8_trust_5 : decode cX8_trust 5 = .ok (.ifCond .eq 35, 3) := by decide +kernel
theorem dX8_trust_8 : decode cX8_trust 8 = .ok (.aload_n 0, 1) := by decide +kernel
theorem dX8_trust_9 : decode cX8_trust 9 = .ok (.iload_n 2, 1) := by decide +kernel
theorem dX8_trust_10 : decode cX8_trust 10 = .ok (.invokevirtual 207, 3) := by decide +kernel
theorem dX8_trust_13 : decode cX8_trust 13 = .ok (.ifCond .eq 27, 3) := by decide +kernel
theorem dX8_trust_16 : decode cX8_trust 16 = .ok (.iload_n 1, 1) := by decide +kernel
theorem dX8_trust_17 : decode cX8_trust 17 = .ok (.iload_n 2, 1) := by decide +kernel
theorem dX8_trust_18 : decode cX8_trust 18 = .ok (.if_icmp .eq 22, 3) := by decide +kernel
theorem dX8_trust_21 : decode cX8_trust 21 = .ok (.aload_n 0, 1) := by decide +kernel
theorem dX8_trust_22 : decode cX8_trust 22 = .ok (.aload_n 0, 1) := by decide +kernel
theorem dX8_trust_23 : decode cX8_trust 23 = .ok (.getfield 74, 3) := by decide +kernel
theorem dX8_trust_26 : decode cX8_trust 26 = .ok (.bipush 12, 2) := by decide +kernel
theorem dX8_trust_28 : decode cX8_trust 28 = .ok (.iload_n 1, 1) := by decide +kernel
theorem dX8_trust_29 : decode cX8_trust 29 = .ok (.imul, 1) := by decide +kernel
theorem dX8_trust_30 : decode cX8_trust 30 = .ok (.iload_n 2, 1) := by decide +kernel
theorem dX8_trust_31 : decode cX8_trust 31 = .ok (.iadd, 1) := by decide +kernel
theorem dX8_trust_32 : decode cX8_trust 32 = .ok (.iaload, 1) := by decide +kernel
theorem dX8_trust_33 : decode cX8_trust 33 = .ok (.iconst 1, 1) := by decide +kernel
theorem dX8_trust_34 : decode cX8_trust 34 = .ok (.invokevirtual 134, 3) := by decide +kernel
theorem dX8_trust_37 : decode cX8_trust 37 = .ok (.goto 4, 3) := by decide +kernel
theorem dX8_trust_40 : decode cX8_trust 40 = .ok (.iconst (-1), 1) := by decide +kernel
theorem dX8_trust_41 : decode cX8_trust 41 = .ok (.ireturn, 1) := by decide +kernel
theorem dX8_comes_0 : decode cX8_comes 0 = .ok (.iload_n 2, 1) := by decide +kernel
theorem dX8_comes_1 : decode cX8_comes 1 = .ok (.istore_n 3, 1) := by decide +kernel
theorem dX8_comes_2 : decode cX8_comes 2 = .ok (.iload_n 1, 1) := by decide +kernel
theorem dX8_comes_3 : decode cX8_comes 3 = .ok (.istore 4, 2) := by decide +kernel
theorem dX8_comes_5 : decode cX8_comes 5 = .ok (.iconst 1, 1) := by decide +kernel
theorem dX8_comes_6 : decode cX8_comes 6 = .ok (.istore 5, 2) := by decide +kernel
theorem dX8_comes_8 : decode cX8_comes 8 = .ok (.iload 5, 2) := by decide +kernel
theorem dX8_comes_10 : decode cX8_comes 10 = .ok (.ifCond .eq 100, 3) := by decide +kernel
theorem dX8_comes_13 : decode cX8_comes 13 = .ok (.iload_n 3, 1) := by decide +kernel
theorem dX8_comes_14 : decode cX8_comes 14 = .ok (.istore 6, 2) := by decide +kernel
theorem dX8_comes_16 : decode cX8_comes 16 = .ok (.iload 4, 2) := by decide +kernel
theorem dX8_comes_18 : decode cX8_comes 18 = .ok (.istore 7, 2) := by decide +kernel
theorem dX8_comes_20 : decode cX8_comes 20 = .ok (.iconst 0, 1) := by decide +kernel
theorem dX8_comes_21 : decode cX8_comes 21 = .ok (.istore 8, 2) := by decide +kernel
theorem dX8_comes_23 : decode cX8_comes 23 = .ok (.iload 8, 2) := by decide +kernel
theorem dX8_comes_25 : decode cX8_comes 25 = .ok (.aload_n 0, 1) := by decide +kernel
theorem dX8_comes_26 : decode cX8_comes 26 = .ok (.getfield 180, 3) := by decide +kernel
theorem dX8_comes_29 : decode cX8_comes 29 = .ok (.if_icmp .ge 58, 3) := by decide +kernel
theorem dX8_comes_32 : decode cX8_comes 32 = .ok (.iload_n 3, 1) := by decide +kernel
theorem dX8_comes_33 : decode cX8_comes 33 = .ok (.aload_n 0, 1) := by decide +kernel
theorem dX8_comes_34 : decode cX8_comes 34 = .ok (.getfield 77, 3) := by decide +kernel
theorem dX8_comes_37 : decode cX8_comes 37 = .ok (.iload 8, 2) := by decide +kernel
theorem dX8_comes_39 : decode cX8_comes 39 = .ok (.iaload, 1) := by decide +kernel
theorem dX8_comes_40 : decode cX8_comes 40 = .ok (.iload 4, 2) := by decide +kernel
theorem dX8_comes_42 : decode cX8_comes 42 = .ok (.iand, 1) := by decide +kernel
theorem dX8_comes_43 : decode cX8_comes 43 = .ok (.ifCond .eq 10, 3) := by decide +kernel
theorem dX8_comes_46 : decode cX8_comes 46 = .ok (.iconst 1, 1) := by decide +kernel
theorem dX8_comes_47 : decode cX8_comes 47 = .ok (.iload 8, 2) := by decide +kernel
theorem dX8_comes_49 : decode cX8_comes 49 = .ok (.ishl, 1) := by decide +kernel
theorem dX8_comes_50 : decode cX8_comes 50 = .ok (.goto 4, 3) := by decide +kernel
theorem dX8_comes_53 : decode cX8_comes 53 = .ok (.iconst 0, 1) := by decide +kernel
theorem dX8_comes_54 : decode cX8_comes 54 = .ok (.ior, 1) := by decide +kernel
theorem dX8_comes_55 : decode cX8_comes 55 = .ok (.istore_n 3, 1) := by decide +kernel
theorem dX8_comes_56 : decode cX8_comes 56 = .ok (.iload 4, 2) := by decide +kernel
theorem dX8_comes_58 : decode cX8_comes 58 = .ok (.iload_n 3, 1) := by decide +kernel
theorem dX8_comes_59 : decode cX8_comes 59 = .ok (.iload 8, 2) := by decide +kernel
theorem dX8_comes_61 : decode cX8_comes 61 = .ok (.invokestatic 252, 3) := by decide +kernel
theorem dX8_comes_64 : decode cX8_comes 64 = .ok (.ifCond .eq 13, 3) := by decide +kernel
theorem dX8_comes_67 : decode cX8_comes 67 = .ok (.aload_n 0, 1) := by decide +kernel
theorem dX8_comes_68 : decode cX8_comes 68 = .ok (.getfield 83, 3) := by decide +kernel
theorem dX8_comes_71 : decode cX8_comes 71 = .ok (.iload 8, 2) := by decide +kernel
theorem dX8_comes_73 : decode cX8_comes 73 = .ok (.iaload, 1) := by decide +kernel
theorem dX8_comes_74 : decode cX8_comes 74 = .ok (.goto 4, 3) := by decide +kernel
theorem dX8_comes_77 : decode cX8_comes 77 = .ok (.iconst 0, 1) := by decide +kernel
theorem dX8_comes_78 : decode cX8_comes 78 = .ok (.ior, 1) := by decide +kernel
theorem dX8_comes_79 : decode cX8_comes 79 = .ok (.istore 4, 2) := by decide +kernel
theorem dX8_comes_81 : decode cX8_comes 81 = .ok (.iinc 8 1, 3) := by decide +kernel
theorem dX8_comes_84 : decode cX8_comes 84 = .ok (.goto (-61), 3) := by decide +kernel
theorem dX8_comes_87 : decode cX8_comes 87 = .ok (.iload_n 3, 1) := by decide +kernel
theorem dX8_comes_88 : decode cX8_comes 88 = .ok (.iload 6, 2) := by decide +kernel
theorem dX8_comes_90 : decode cX8_comes 90 = .ok (.if_icmp .ne 10, 3) := by decide +kernel
theorem dX8_comes_93 : decode cX8_comes 93 = .ok (.iload 4, 2) := by decide +kernel
theorem dX8_comes_95 : decode cX8_comes 95 = .ok (.iload 7, 2) := by decide +kernel
theorem dX8_comes_97 : decode cX8_comes 97 = .ok (.if_icmp .eq 7, 3) := by decide +kernel
theorem dX8_comes_100 : decode cX8_comes 100 = .ok (.iconst 1, 1) := by decide +kernel
theorem dX8_comes_101 : decode cX8_comes 101 = .ok (.goto 4, 3) := by decide +kernel
theorem dX8_comes_104 : decode cX8_comes 104 = .ok (.iconst 0, 1) := by decide +kernel
theorem dX8_comes_105 : decode cX8_comes 105 = .ok (.istore 5, 2) := by decide +kernel
theorem dX8_comes_107 : decode cX8_comes 107 = .ok (.goto (-99), 3) := by decide +kernel
theorem dX8_comes_110 : decode cX8_comes 110 = .ok (.iload_n 3, 1) := by decide +kernel
theorem dX8_comes_111 : decode cX8_comes 111 = .ok (.ireturn, 1) := by decide +kernel
theorem dX8_aloneOf_0 : decode cX8_aloneOf 0 = .ok (.aload_n 0, 1) := by decide +kernel
theorem dX8_aloneOf_1 : decode cX8_aloneOf 1 = .ok (.aload_n 0, 1) := by decide +kernel
theorem dX8_aloneOf_2 : decode cX8_aloneOf 2 = .ok (.iload_n 1, 1) := by decide +kernel
theorem dX8_aloneOf_3 : decode cX8_aloneOf 3 = .ok (.invokevirtual 243, 3) := by decide +kernel
theorem dX8_aloneOf_6 : decode cX8_aloneOf 6 = .ok (.aload_n 0, 1) := by decide +kernel
theorem dX8_aloneOf_7 : decode cX8_aloneOf 7 = .ok (.getfield 220, 3) := by decide +kernel
theorem dX8_aloneOf_10 : decode cX8_aloneOf 10 = .ok (.ior, 1) := by decide +kernel
theorem dX8_aloneOf_11 : decode cX8_aloneOf 11 = .ok (.iload_n 2, 1) := by decide +kernel
theorem dX8_aloneOf_12 : decode cX8_aloneOf 12 = .ok (.ior, 1) := by decide +kernel
theorem dX8_aloneOf_13 : decode cX8_aloneOf 13 = .ok (.iconst 0, 1) := by decide +kernel
theorem dX8_aloneOf_14 : decode cX8_aloneOf 14 = .ok (.invokevirtual 255, 3) := by decide +kernel
theorem dX8_aloneOf_17 : decode cX8_aloneOf 17 = .ok (.ireturn, 1) := by decide +kernel
theorem dX8_alone_0 : decode cX8_alone 0 = .ok (.aload_n 0, 1) := by decide +kernel
theorem dX8_alone_1 : decode cX8_alone 1 = .ok (.iload_n 1, 1) := by decide +kernel
theorem dX8_alone_2 : decode cX8_alone 2 = .ok (.invokevirtual 207, 3) := by decide +kernel
theorem dX8_alone_5 : decode cX8_alone 5 = .ok (.ifCond .eq 12, 3) := by decide +kernel
theorem dX8_alone_8 : decode cX8_alone 8 = .ok (.aload_n 0, 1) := by decide +kernel
theorem dX8_alone_9 : decode cX8_alone 9 = .ok (.iload_n 1, 1) := by decide +kernel
theorem dX8_alone_10 : decode cX8_alone 10 = .ok (.iconst 0, 1) := by decide +kernel
theorem dX8_alone_11 : decode cX8_alone 11 = .ok (.invokevirtual 258, 3) := by decide +kernel
theorem dX8_alone_14 : decode cX8_alone 14 = .ok (.goto 4, 3) := by decide +kernel
theorem dX8_alone_17 : decode cX8_alone 17 = .ok (.iconst (-1), 1) := by decide +kernel
theorem dX8_alone_18 : decode cX8_alone 18 = .ok (.ireturn, 1) := by decide +kernel
theorem dX8_wakesOf_0 : decode cX8_wakesOf 0 = .ok (.iconst 0, 1) := by decide +kernel
theorem dX8_wakesOf_1 : decode cX8_wakesOf 1 = .ok (.istore_n 2, 1) := by decide +kernel
theorem dX8_wakesOf_2 : decode cX8_wakesOf 2 = .ok (.iconst 0, 1) := by decide +kernel
theorem dX8_wakesOf_3 : decode cX8_wakesOf 3 = .ok (.istore_n 3, 1) := by decide +kernel
theorem dX8_wakesOf_4 : decode cX8_wakesOf 4 = .ok (.iload_n 3, 1) := by decide +kernel
theorem dX8_wakesOf_5 : decode cX8_wakesOf 5 = .ok (.aload_n 0, 1) := by decide +kernel
theorem dX8_wakesOf_6 : decode cX8_wakesOf 6 = .ok (.getfield 183, 3) := by decide +kernel
theorem dX8_wakesOf_9 : decode cX8_wakesOf 9 = .ok (.if_icmp .ge 49, 3) := by decide +kernel
theorem dX8_wakesOf_12 : decode cX8_wakesOf 12 = .ok (.iload_n 2, 1) := by decide +kernel
theorem dX8_wakesOf_13 : decode cX8_wakesOf 13 = .ok (.iload_n 3, 1) := by decide +kernel
theorem dX8_wakesOf_14 : decode cX8_wakesOf 14 = .ok (.iload_n 1, 1) := by decide +kernel
theorem dX8_wakesOf_15 : decode cX8_wakesOf 15 = .ok (.if_icmp .eq 34, 3) := by decide +kernel
theorem dX8_wakesOf_18 : decode cX8_wakesOf 18 = .ok (.aload_n 0, 1) := by decide +kernel
theorem dX8_wakesOf_19 : decode cX8_wakesOf 19 = .ok (.getfield 32, 3) := by decide +kernel
theorem dX8_wakesOf_22 : decode cX8_wakesOf 22 = .ok (.iload_n 3, 1) := by decide +kernel
theorem dX8_wakesOf_23 : decode cX8_wakesOf 23 = .ok (.iaload, 1) := by decide +kernel
theorem dX8_wakesOf_24 : decode cX8_wakesOf 24 = .ok (.bipush (-9), 2) := by decide +kernel
theorem dX8_wakesOf_26 : decode cX8_wakesOf 26 = .ok (.if_icmp .eq 23, 3) := by decide +kernel
theorem dX8_wakesOf_29 : decode cX8_wakesOf 29 = .ok (.aload_n 0, 1) := by decide +kernel
theorem dX8_wakesOf_30 : decode cX8_wakesOf 30 = .ok (.getfield 74, 3) := by decide +kernel
theorem dX8_wakesOf_33 : decode cX8_wakesOf 33 = .ok (.bipush 12, 2) := by decide +kernel
theorem dX8_wakesOf_35 : decode cX8_wakesOf 35 = .ok (.iload_n 3, 1) := by decide +kernel
theorem dX8_wakesOf_36 : decode cX8_wakesOf 36 = .ok (.imul, 1) := by decide +kernel
theorem dX8_wakesOf_37 : decode cX8_wakesOf 37 = .ok (.iload_n 1, 1) := by decide +kernel
theorem dX8_wakesOf_38 : decode cX8_wakesOf 38 = .ok (.iadd, 1) := by decide +kernel
theorem dX8_wakesOf_39 : decode cX8_wakesOf 39 = .ok (.iaload, 1) := by decide +kernel
theorem dX8_wakesOf_40 : decode cX8_wakesOf 40 = .ok (.ifCond .lt 9, 3) := by decide +kernel
theorem dX8_wakesOf_43 : decode cX8_wakesOf 43 = .ok (.iconst 1, 1) := by decide +kernel
theorem dX8_wakesOf_44 : decode cX8_wakesOf 44 = .ok (.iload_n 3, 1) := by decide +kernel
theorem dX8_wakesOf_45 : decode cX8_wakesOf 45 = .ok (.ishl, 1) := by decide +kernel
theorem dX8_wakesOf_46 : decode cX8_wakesOf 46 = .ok (.goto 4, 3) := by decide +kernel
theorem dX8_wakesOf_49 : decode cX8_wakesOf 49 = .ok (.iconst 0, 1) := by decide +kernel
theorem dX8_wakesOf_50 : decode cX8_wakesOf 50 = .ok (.ior, 1) := by decide +kernel
theorem dX8_wakesOf_51 : decode cX8_wakesOf 51 = .ok (.istore_n 2, 1) := by decide +kernel
theorem dX8_wakesOf_52 : decode cX8_wakesOf 52 = .ok (.iinc 3 1, 3) := by decide +kernel
theorem dX8_wakesOf_55 : decode cX8_wakesOf 55 = .ok (.goto (-51), 3) := by decide +kernel
theorem dX8_wakesOf_58 : decode cX8_wakesOf 58 = .ok (.iload_n 2, 1) := by decide +kernel
theorem dX8_wakesOf_59 : decode cX8_wakesOf 59 = .ok (.ireturn, 1) := by decide +kernel
theorem dX8_openBy_0 : decode cX8_openBy 0 = .ok (.aload_n 0, 1) := by decide +kernel
theorem dX8_openBy_1 : decode cX8_openBy 1 = .ok (.getfield 220, 3) := by decide +kernel
theorem dX8_openBy_4 : decode cX8_openBy 4 = .ok (.iload_n 2, 1) := by decide +kernel
theorem dX8_openBy_5 : decode cX8_openBy 5 = .ok (.ifCond .eq 11, 3) := by decide +kernel
theorem dX8_openBy_8 : decode cX8_openBy 8 = .ok (.aload_n 0, 1) := by decide +kernel
theorem dX8_openBy_9 : decode cX8_openBy 9 = .ok (.iload_n 1, 1) := by decide +kernel
theorem dX8_openBy_10 : decode cX8_openBy 10 = .ok (.invokevirtual 243, 3) := by decide +kernel
theorem dX8_openBy_13 : decode cX8_openBy 13 = .ok (.goto 4, 3) := by decide +kernel
theorem dX8_openBy_16 : decode cX8_openBy 16 = .ok (.iconst 0, 1) := by decide +kernel
theorem dX8_openBy_17 : decode cX8_openBy 17 = .ok (.ior, 1) := by decide +kernel
theorem dX8_openBy_18 : decode cX8_openBy 18 = .ok (.istore 4, 2) := by decide +kernel
theorem dX8_openBy_20 : decode cX8_openBy 20 = .ok (.iconst 0, 1) := by decide +kernel
theorem dX8_openBy_21 : decode cX8_openBy 21 = .ok (.istore 5, 2) := by decide +kernel
theorem dX8_openBy_23 : decode cX8_openBy 23 = .ok (.iconst 0, 1) := by decide +kernel
theorem dX8_openBy_24 : decode cX8_openBy 24 = .ok (.istore 6, 2) := by decide +kernel
theorem dX8_openBy_26 : decode cX8_openBy 26 = .ok (.iload 6, 2) := by decide +kernel
theorem dX8_openBy_28 : decode cX8_openBy 28 = .ok (.aload_n 0, 1) := by decide +kernel
theorem dX8_openBy_29 : decode cX8_openBy 29 = .ok (.getfield 183, 3) := by decide +kernel
theorem dX8_openBy_32 : decode cX8_openBy 32 = .ok (.if_icmp .ge 43, 3) := by decide +kernel
theorem dX8_openBy_35 : decode cX8_openBy 35 = .ok (.iload_n 3, 1) := by decide +kernel
theorem dX8_openBy_36 : decode cX8_openBy 36 = .ok (.iload 6, 2) := by decide +kernel
theorem dX8_openBy_38 : decode cX8_openBy 38 = .ok (.invokestatic 252, 3) := by decide +kernel
theorem dX8_openBy_41 : decode cX8_openBy 41 = .ok (.ifCond .eq 28, 3) := by decide +kernel
theorem dX8_openBy_44 : decode cX8_openBy 44 = .ok (.iload 4, 2) := by decide +kernel
theorem dX8_openBy_46 : decode cX8_openBy 46 = .ok (.aload_n 0, 1) := by decide +kernel
theorem dX8_openBy_47 : decode cX8_openBy 47 = .ok (.iload 6, 2) := by decide +kernel
theorem dX8_openBy_49 : decode cX8_openBy 49 = .ok (.invokevirtual 243, 3) := by decide +kernel
theorem dX8_openBy_52 : decode cX8_openBy 52 = .ok (.ior, 1) := by decide +kernel
theorem dX8_openBy_53 : decode cX8_openBy 53 = .ok (.istore 4, 2) := by decide +kernel
theorem dX8_openBy_55 : decode cX8_openBy 55 = .ok (.iload 5, 2) := by decide +kernel
theorem dX8_openBy_57 : decode cX8_openBy 57 = .ok (.iconst 1, 1) := by decide +kernel
theorem dX8_openBy_58 : decode cX8_openBy 58 = .ok (.aload_n 0, 1) := by decide +kernel
theorem dX8_openBy_59 : decode cX8_openBy 59 = .ok (.getfield 32, 3) := by decide +kernel
theorem dX8_openBy_62 : decode cX8_openBy 62 = .ok (.iload 6, 2) := by decide +kernel
theorem dX8_openBy_64 : decode cX8_openBy 64 = .ok (.iaload, 1) := by decide +kernel
theorem dX8_openBy_65 : decode cX8_openBy 65 = .ok (.ishl, 1) := by decide +kernel
theorem dX8_openBy_66 : decode cX8_openBy 66 = .ok (.ior, 1) := by decide +kernel
theorem dX8_openBy_67 : decode cX8_openBy 67 = .ok (.istore 5, 2) := by decide +kernel
theorem dX8_openBy_69 : decode cX8_openBy 69 = .ok (.iinc 6 1, 3) := by decide +kernel
theorem dX8_openBy_72 : decode cX8_openBy 72 = .ok (.goto (-46), 3) := by decide +kernel
theorem dX8_openBy_75 : decode cX8_openBy 75 = .ok (.aload_n 0, 1) := by decide +kernel
theorem dX8_openBy_76 : decode cX8_openBy 76 = .ok (.iload 4, 2) := by decide +kernel
theorem dX8_openBy_78 : decode cX8_openBy 78 = .ok (.iload 5, 2) := by decide +kernel
theorem dX8_openBy_80 : decode cX8_openBy 80 = .ok (.invokevirtual 255, 3) := by decide +kernel
theorem dX8_openBy_83 : decode cX8_openBy 83 = .ok (.ireturn, 1) := by decide +kernel
theorem dX8_wake_0 : decode cX8_wake 0 = .ok (.aload_n 0, 1) := by decide +kernel
theorem dX8_wake_1 : decode cX8_wake 1 = .ok (.iload_n 1, 1) := by decide +kernel
theorem dX8_wake_2 : decode cX8_wake 2 = .ok (.invokevirtual 207, 3) := by decide +kernel
theorem dX8_wake_5 : decode cX8_wake 5 = .ok (.ifCond .eq 11, 3) := by decide +kernel
theorem dX8_wake_8 : decode cX8_wake 8 = .ok (.aload_n 0, 1) := by decide +kernel
theorem dX8_wake_9 : decode cX8_wake 9 = .ok (.iload_n 2, 1) := by decide +kernel
theorem dX8_wake_10 : decode cX8_wake 10 = .ok (.invokevirtual 204, 3) := by decide +kernel
theorem dX8_wake_13 : decode cX8_wake 13 = .ok (.ifCond .ne 5, 3) := by decide +kernel
theorem dX8_wake_16 : decode cX8_wake 16 = .ok (.iconst (-1), 1) := by decide +kernel
theorem dX8_wake_17 : decode cX8_wake 17 = .ok (.ireturn, 1) := by decide +kernel
theorem dX8_wake_18 : decode cX8_wake 18 = .ok (.aload_n 0, 1) := by decide +kernel
theorem dX8_wake_19 : decode cX8_wake 19 = .ok (.iload_n 1, 1) := by decide +kernel
theorem dX8_wake_20 : decode cX8_wake 20 = .ok (.invokevirtual 261, 3) := by decide +kernel
theorem dX8_wake_23 : decode cX8_wake 23 = .ok (.istore 4, 2) := by decide +kernel
theorem dX8_wake_25 : decode cX8_wake 25 = .ok (.bipush (-9), 2) := by decide +kernel
theorem dX8_wake_27 : decode cX8_wake 27 = .ok (.istore 5, 2) := by decide +kernel
theorem dX8_wake_29 : decode cX8_wake 29 = .ok (.iload 4, 2) := by decide +kernel
theorem dX8_wake_31 : decode cX8_wake 31 = .ok (.istore 6, 2) := by decide +kernel
theorem dX8_wake_33 : decode cX8_wake 33 = .ok (.iconst 1, 1) := by decide +kernel
theorem dX8_wake_34 : decode cX8_wake 34 = .ok (.istore 7, 2) := by decide +kernel
theorem dX8_wake_36 : decode cX8_wake 36 = .ok (.iload 7, 2) := by decide +kernel
theorem dX8_wake_38 : decode cX8_wake 38 = .ok (.ifCond .eq 66, 3) := by decide +kernel
theorem dX8_wake_41 : decode cX8_wake 41 = .ok (.aload_n 0, 1) := by decide +kernel
theorem dX8_wake_42 : decode cX8_wake 42 = .ok (.iload_n 1, 1) := by decide +kernel
theorem dX8_wake_43 : decode cX8_wake 43 = .ok (.iload_n 3, 1) := by decide +kernel
theorem dX8_wake_44 : decode cX8_wake 44 = .ok (.iload 6, 2) := by decide +kernel
theorem dX8_wake_46 : decode cX8_wake 46 = .ok (.invokevirtual 264, 3) := by decide +kernel
theorem dX8_wake_49 : decode cX8_wake 49 = .ok (.iload_n 2, 1) := by decide +kernel
theorem dX8_wake_50 : decode cX8_wake 50 = .ok (.invokestatic 252, 3) := by decide +kernel
theorem dX8_wake_53 : decode cX8_wake 53 = .ok (.ifCond .eq 27, 3) := by decide +kernel
theorem dX8_wake_56 : decode cX8_wake 56 = .ok (.iload 5, 2) := by decide +kernel
theorem dX8_wake_58 : decode cX8_wake 58 = .ok (.bipush (-9), 2) := by decide +kernel
theorem dX8_wake_60 : decode cX8_wake 60 = .ok (.if_icmp .eq 16, 3) := by decide +kernel
theorem dX8_wake_63 : decode cX8_wake 63 = .ok (.iload 6, 2) := by decide +kernel
theorem dX8_wake_65 : decode cX8_wake 65 = .ok (.invokestatic 268, 3) := by decide +kernel
theorem dX8_wake_68 : decode cX8_wake 68 = .ok (.iload 5, 2) := by decide +kernel
theorem dX8_wake_70 : decode cX8_wake 70 = .ok (.invokestatic 268, 3) := by decide +kernel
theorem dX8_wake_73 : decode cX8_wake 73 = .ok (.if_icmp .gt 7, 3) := by decide +kernel
theorem dX8_wake_76 : decode cX8_wake 76 = .ok (.iload 6, 2) := by decide +kernel
theorem dX8_wake_78 : decode cX8_wake 78 = .ok (.istore 5, 2) := by decide +kernel
theorem dX8_wake_80 : decode cX8_wake 80 = .ok (.iload 6, 2) := by decide +kernel
theorem dX8_wake_82 : decode cX8_wake 82 = .ok (.ifCond .eq 7, 3) := by decide +kernel
theorem dX8_wake_85 : decode cX8_wake 85 = .ok (.iconst 1, 1) := by decide +kernel
theorem dX8_wake_86 : decode cX8_wake 86 = .ok (.goto 4, 3) := by decide +kernel
theorem dX8_wake_89 : decode cX8_wake 89 = .ok (.iconst 0, 1) := by decide +kernel
theorem dX8_wake_90 : decode cX8_wake 90 = .ok (.istore 7, 2) := by decide +kernel
theorem dX8_wake_92 : decode cX8_wake 92 = .ok (.iload 6, 2) := by decide +kernel
theorem dX8_wake_94 : decode cX8_wake 94 = .ok (.iconst 1, 1) := by decide +kernel
theorem dX8_wake_95 : decode cX8_wake 95 = .ok (.isub, 1) := by decide +kernel
theorem dX8_wake_96 : decode cX8_wake 96 = .ok (.iload 4, 2) := by decide +kernel
theorem dX8_wake_98 : decode cX8_wake 98 = .ok (.iand, 1) := by decide +kernel
theorem dX8_wake_99 : decode cX8_wake 99 = .ok (.istore 6, 2) := by decide +kernel
theorem dX8_wake_101 : decode cX8_wake 101 = .ok (.goto (-65), 3) := by decide +kernel
theorem dX8_wake_104 : decode cX8_wake 104 = .ok (.iload 5, 2) := by decide +kernel
theorem dX8_wake_106 : decode cX8_wake 106 = .ok (.bipush (-9), 2) := by decide +kernel
theorem dX8_wake_108 : decode cX8_wake 108 = .ok (.if_icmp .ne 8, 3) := by decide +kernel
theorem dX8_wake_111 : decode cX8_wake 111 = .ok (.bipush (-9), 2) := by decide +kernel
theorem dX8_wake_113 : decode cX8_wake 113 = .ok (.goto 14, 3) := by decide +kernel
theorem dX8_wake_116 : decode cX8_wake 116 = .ok (.aload_n 0, 1) := by decide +kernel
theorem dX8_wake_117 : decode cX8_wake 117 = .ok (.iload 5, 2) := by decide +kernel
theorem dX8_wake_119 : decode cX8_wake 119 = .ok (.iload 5, 2) := by decide +kernel
theorem dX8_wake_121 : decode cX8_wake 121 = .ok (.invokestatic 268, 3) := by decide +kernel
theorem dX8_wake_124 : decode cX8_wake 124 = .ok (.invokevirtual 134, 3) := by decide +kernel
theorem dX8_wake_127 : decode cX8_wake 127 = .ok (.ireturn, 1) := by decide +kernel
theorem dX8_odds_0 : decode cX8_odds 0 = .ok (.aload_n 0, 1) := by decide +kernel
theorem dX8_odds_1 : decode cX8_odds 1 = .ok (.iload_n 1, 1) := by decide +kernel
theorem dX8_odds_2 : decode cX8_odds 2 = .ok (.invokevirtual 207, 3) := by decide +kernel
theorem dX8_odds_5 : decode cX8_odds 5 = .ok (.ifCond .eq 11, 3) := by decide +kernel
theorem dX8_odds_8 : decode cX8_odds 8 = .ok (.aload_n 0, 1) := by decide +kernel
theorem dX8_odds_9 : decode cX8_odds 9 = .ok (.iload_n 2, 1) := by decide +kernel
theorem dX8_odds_10 : decode cX8_odds 10 = .ok (.invokevirtual 204, 3) := by decide +kernel
theorem dX8_odds_13 : decode cX8_odds 13 = .ok (.ifCond .ne 5, 3) := by decide +kernel
theorem dX8_odds_16 : decode cX8_odds 16 = .ok (.iconst (-1), 1) := by decide +kernel
theorem dX8_odds_17 : decode cX8_odds 17 = .ok (.ireturn, 1) := by decide +kernel
theorem dX8_odds_18 : decode cX8_odds 18 = .ok (.aload_n 0, 1) := by decide +kernel
theorem dX8_odds_19 : decode cX8_odds 19 = .ok (.iload_n 1, 1) := by decide +kernel
theorem dX8_odds_20 : decode cX8_odds 20 = .ok (.invokevirtual 261, 3) := by decide +kernel
theorem dX8_odds_23 : decode cX8_odds 23 = .ok (.istore 4, 2) := by decide +kernel
theorem dX8_odds_25 : decode cX8_odds 25 = .ok (.lconst 0, 1) := by decide +kernel
theorem dX8_odds_26 : decode cX8_odds 26 = .ok (.lstore 5, 2) := by decide +kernel
theorem dX8_odds_28 : decode cX8_odds 28 = .ok (.lconst 1, 1) := by decide +kernel
theorem dX8_odds_29 : decode cX8_odds 29 = .ok (.lstore 7, 2) := by decide +kernel
theorem dX8_odds_31 : decode cX8_odds 31 = .ok (.iconst 0, 1) := by decide +kernel
theorem dX8_odds_32 : decode cX8_odds 32 = .ok (.istore 9, 2) := by decide +kernel
theorem dX8_odds_34 : decode cX8_odds 34 = .ok (.iload 9, 2) := by decide +kernel
theorem dX8_odds_36 : decode cX8_odds 36 = .ok (.aload_n 0, 1) := by decide +kernel
theorem dX8_odds_37 : decode cX8_odds 37 = .ok (.getfield 183, 3) := by decide +kernel
theorem dX8_odds_40 : decode cX8_odds 40 = .ok (.if_icmp .ge 31, 3) := by decide +kernel
theorem dX8_odds_43 : decode cX8_odds 43 = .ok (.lload 7, 2) := by decide +kernel
theorem dX8_odds_45 : decode cX8_odds 45 = .ok (.iload 4, 2) := by decide +kernel
theorem dX8_odds_47 : decode cX8_odds 47 = .ok (.iload 9, 2) := by decide +kernel
theorem dX8_odds_49 : decode cX8_odds 49 = .ok (.invokestatic 252, 3) := by decide +kernel
theorem dX8_odds_52 : decode cX8_odds 52 = .ok (.ifCond .eq 9, 3) := by decide +kernel
theorem dX8_odds_55 : decode cX8_odds 55 = .ok (.ldc2_w 271, 3) := by decide +kernel
theorem dX8_odds_58 : decode cX8_odds 58 = .ok (.goto 4, 3) := by decide +kernel
theorem dX8_odds_61 : decode cX8_odds 61 = .ok (.lconst 1, 1) := by decide +kernel
theorem dX8_odds_62 : decode cX8_odds 62 = .ok (.lmul, 1) := by decide +kernel
theorem dX8_odds_63 : decode cX8_odds 63 = .ok (.lstore 7, 2) := by decide +kernel
theorem dX8_odds_65 : decode cX8_odds 65 = .ok (.iinc 9 1, 3) := by decide +kernel
theorem dX8_odds_68 : decode cX8_odds 68 = .ok (.goto (-34), 3) := by decide +kernel
theorem dX8_odds_71 : decode cX8_odds 71 = .ok (.iload 4, 2) := by decide +kernel
theorem dX8_odds_73 : decode cX8_odds 73 = .ok (.istore 9, 2) := by decide +kernel
theorem dX8_odds_75 : decode cX8_odds 75 = .ok (.iconst 1, 1) := by decide +kernel
theorem dX8_odds_76 : decode cX8_odds 76 = .ok (.istore 10, 2) := by decide +kernel
theorem dX8_odds_78 : decode cX8_odds 78 = .ok (.iload 10, 2) := by decide +kernel
theorem dX8_odds_80 : decode cX8_odds 80 = .ok (.ifCond .eq 121, 3) := by decide +kernel
theorem dX8_odds_83 : decode cX8_odds 83 = .ok (.aload_n 0, 1) := by decide +kernel
theorem dX8_odds_84 : decode cX8_odds 84 = .ok (.iload_n 1, 1) := by decide +kernel
theorem dX8_odds_85 : decode cX8_odds 85 = .ok (.iload_n 3, 1) := by decide +kernel
theorem dX8_odds_86 : decode cX8_odds 86 = .ok (.iload 9, 2) := by decide +kernel
theorem dX8_odds_88 : decode cX8_odds 88 = .ok (.invokevirtual 264, 3) := by decide +kernel
theorem dX8_odds_91 : decode cX8_odds 91 = .ok (.iload_n 2, 1) := by decide +kernel
theorem dX8_odds_92 : decode cX8_odds 92 = .ok (.invokestatic 252, 3) := by decide +kernel
theorem dX8_odds_95 : decode cX8_odds 95 = .ok (.ifCond .eq 82, 3) := by decide +kernel
theorem dX8_odds_98 : decode cX8_odds 98 = .ok (.lconst 1, 1) := by decide +kernel
theorem dX8_odds_99 : decode cX8_odds 99 = .ok (.lstore 11, 2) := by decide +kernel
theorem dX8_odds_101 : decode cX8_odds 101 = .ok (.iconst 0, 1) := by decide +kernel
theorem dX8_odds_102 : decode cX8_odds 102 = .ok (.istore 13, 2) := by decide +kernel
theorem dX8_odds_104 : decode cX8_odds 104 = .ok (.iload 13, 2) := by decide +kernel
theorem dX8_odds_106 : decode cX8_odds 106 = .ok (.aload_n 0, 1) := by decide +kernel
theorem dX8_odds_107 : decode cX8_odds 107 = .ok (.getfield 183, 3) := by decide +kernel
theorem dX8_odds_110 : decode cX8_odds 110 = .ok (.if_icmp .ge 60, 3) := by decide +kernel
theorem dX8_odds_113 : decode cX8_odds 113 = .ok (.lload 11, 2) := by decide +kernel
theorem dX8_odds_115 : decode cX8_odds 115 = .ok (.iload 4, 2) := by decide +kernel
theorem dX8_odds_117 : decode cX8_odds 117 = .ok (.iload 13, 2) := by decide +kernel
theorem dX8_odds_119 : decode cX8_odds 119 = .ok (.invokestatic 252, 3) := by decide +kernel
theorem dX8_odds_122 : decode cX8_odds 122 = .ok (.ifCond .ne 7, 3) := by decide +kernel
theorem dX8_odds_125 : decode cX8_odds 125 = .ok (.lconst 1, 1) := by decide +kernel
theorem dX8_odds_126 : decode cX8_odds 126 = .ok (.goto 35, 3) := by decide +kernel
theorem dX8_odds_129 : decode cX8_odds 129 = .ok (.iload 9, 2) := by decide +kernel
theorem dX8_odds_131 : decode cX8_odds 131 = .ok (.iload 13, 2) := by decide +kernel
theorem dX8_odds_133 : decode cX8_odds 133 = .ok (.invokestatic 252, 3) := by decide +kernel
theorem dX8_odds_136 : decode cX8_odds 136 = .ok (.ifCond .eq 14, 3) := by decide +kernel
theorem dX8_odds_139 : decode cX8_odds 139 = .ok (.aload_n 0, 1) := by decide +kernel
theorem dX8_odds_140 : decode cX8_odds 140 = .ok (.getfield 35, 3) := by decide +kernel
theorem dX8_odds_143 : decode cX8_odds 143 = .ok (.iload 13, 2) := by decide +kernel
theorem dX8_odds_145 : decode cX8_odds 145 = .ok (.iaload, 1) := by decide +kernel
theorem dX8_odds_146 : decode cX8_odds 146 = .ok (.i2l, 1) := by decide +kernel
theorem dX8_odds_147 : decode cX8_odds 147 = .ok (.goto 14, 3) := by decide +kernel
theorem dX8_odds_150 : decode cX8_odds 150 = .ok (.bipush 12, 2) := by decide +kernel
theorem dX8_odds_152 : decode cX8_odds 152 = .ok (.aload_n 0, 1) := by decide +kernel
theorem dX8_odds_153 : decode cX8_odds 153 = .ok (.getfield 35, 3) := by decide +kernel
theorem dX8_odds_156 : decode cX8_odds 156 = .ok (.iload 13, 2) := by decide +kernel
theorem dX8_odds_158 : decode cX8_odds 158 = .ok (.iaload, 1) := by decide +kernel
theorem dX8_odds_159 : decode cX8_odds 159 = .ok (.isub, 1) := by decide +kernel
theorem dX8_odds_160 : decode cX8_odds 160 = .ok (.i2l, 1) := by decide +kernel
theorem dX8_odds_161 : decode cX8_odds 161 = .ok (.lmul, 1) := by decide +kernel
theorem dX8_odds_162 : decode cX8_odds 162 = .ok (.lstore 11, 2) := by decide +kernel
theorem dX8_odds_164 : decode cX8_odds 164 = .ok (.iinc 13 1, 3) := by decide +kernel
theorem dX8_odds_167 : decode cX8_odds 167 = .ok (.goto (-63), 3) := by decide +kernel
theorem dX8_odds_170 : decode cX8_odds 170 = .ok (.lload 5, 2) := by decide +kernel
theorem dX8_odds_172 : decode cX8_odds 172 = .ok (.lload 11, 2) := by decide +kernel
theorem dX8_odds_174 : decode cX8_odds 174 = .ok (.ladd, 1) := by decide +kernel
theorem dX8_odds_175 : decode cX8_odds 175 = .ok (.lstore 5, 2) := by decide +kernel
theorem dX8_odds_177 : decode cX8_odds 177 = .ok (.iload 9, 2) := by decide +kernel
theorem dX8_odds_179 : decode cX8_odds 179 = .ok (.ifCond .eq 7, 3) := by decide +kernel
theorem dX8_odds_182 : decode cX8_odds 182 = .ok (.iconst 1, 1) := by decide +kernel
theorem dX8_odds_183 : decode cX8_odds 183 = .ok (.goto 4, 3) := by decide +kernel
theorem dX8_odds_186 : decode cX8_odds 186 = .ok (.iconst 0, 1) := by decide +kernel
theorem dX8_odds_187 : decode cX8_odds 187 = .ok (.istore 10, 2) := by decide +kernel
theorem dX8_odds_189 : decode cX8_odds 189 = .ok (.iload 9, 2) := by decide +kernel
theorem dX8_odds_191 : decode cX8_odds 191 = .ok (.iconst 1, 1) := by decide +kernel
theorem dX8_odds_192 : decode cX8_odds 192 = .ok (.isub, 1) := by decide +kernel
theorem dX8_odds_193 : decode cX8_odds 193 = .ok (.iload 4, 2) := by decide +kernel
theorem dX8_odds_195 : decode cX8_odds 195 = .ok (.iand, 1) := by decide +kernel
theorem dX8_odds_196 : decode cX8_odds 196 = .ok (.istore 9, 2) := by decide +kernel
theorem dX8_odds_198 : decode cX8_odds 198 = .ok (.goto (-120), 3) := by decide +kernel
theorem dX8_odds_201 : decode cX8_odds 201 = .ok (.aload_n 0, 1) := by decide +kernel
theorem dX8_odds_202 : decode cX8_odds 202 = .ok (.lload 5, 2) := by decide +kernel
theorem dX8_odds_204 : decode cX8_odds 204 = .ok (.lload 7, 2) := by decide +kernel
theorem dX8_odds_206 : decode cX8_odds 206 = .ok (.iload 4, 2) := by decide +kernel
theorem dX8_odds_208 : decode cX8_odds 208 = .ok (.invokestatic 268, 3) := by decide +kernel
theorem dX8_odds_211 : decode cX8_odds 211 = .ok (.invokevirtual 273, 3) := by decide +kernel
theorem dX8_odds_214 : decode cX8_odds 214 = .ok (.ireturn, 1) := by decide +kernel
theorem dX8_layWay_0 : decode cX8_layWay 0 = .ok (.aload_n 0, 1) := by decide +kernel
theorem dX8_layWay_1 : decode cX8_layWay 1 = .ok (.iload_n 1, 1) := by decide +kernel
theorem dX8_layWay_2 : decode cX8_layWay 2 = .ok (.invokevirtual 261, 3) := by decide +kernel
theorem dX8_layWay_5 : decode cX8_layWay 5 = .ok (.istore_n 3, 1) := by decide +kernel
theorem dX8_layWay_6 : decode cX8_layWay 6 = .ok (.aload_n 0, 1) := by decide +kernel
theorem dX8_layWay_7 : decode cX8_layWay 7 = .ok (.iload_n 2, 1) := by decide +kernel
theorem dX8_layWay_8 : decode cX8_layWay 8 = .ok (.ifCond .eq 11, 3) := by decide +kernel
theorem dX8_layWay_11 : decode cX8_layWay 11 = .ok (.aload_n 0, 1) := by decide +kernel
theorem dX8_layWay_12 : decode cX8_layWay 12 = .ok (.iload_n 1, 1) := by decide +kernel
theorem dX8_layWay_13 : decode cX8_layWay 13 = .ok (.invokevirtual 243, 3) := by decide +kernel
theorem dX8_layWay_16 : decode cX8_layWay 16 = .ok (.goto 4, 3) := by decide +kernel
theorem dX8_layWay_19 : decode cX8_layWay 19 = .ok (.iconst 0, 1) := by decide +kernel
theorem dX8_layWay_20 : decode cX8_layWay 20 = .ok (.putfield 277, 3) := by decide +kernel
theorem dX8_layWay_23 : decode cX8_layWay 23 = .ok (.aload_n 0, 1) := by decide +kernel
theorem dX8_layWay_24 : decode cX8_layWay 24 = .ok (.iconst 0, 1) := by decide +kernel
theorem dX8_layWay_25 : decode cX8_layWay 25 = .ok (.putfield 280, 3) := by decide +kernel
theorem dX8_layWay_28 : decode cX8_layWay 28 = .ok (.iconst 0, 1) := by decide +kernel
theorem dX8_layWay_29 : decode cX8_layWay 29 = .ok (.istore 4, 2) := by decide +kernel
theorem dX8_layWay_31 : decode cX8_layWay 31 = .ok (.iload 4, 2) := by decide +kernel
theorem dX8_layWay_33 : decode cX8_layWay 33 = .ok (.bipush 6, 2) := by decide +kernel
theorem dX8_layWay_35 : decode cX8_layWay 35 = .ok (.if_icmp .ge 17, 3) := by decide +kernel
theorem dX8_layWay_38 : decode cX8_layWay 38 = .ok (.aload_n 0, 1) := by decide +kernel
theorem dX8_layWay_39 : decode cX8_layWay 39 = .ok (.getfield 92, 3) := by decide +kernel
theorem dX8_layWay_42 : decode cX8_layWay 42 = .ok (.iload 4, 2) := by decide +kernel
theorem dX8_layWay_44 : decode cX8_layWay 44 = .ok (.iconst 0, 1) := by decide +kernel
theorem dX8_layWay_45 : decode cX8_layWay 45 = .ok (.iastore, 1) := by decide +kernel
theorem dX8_layWay_46 : decode cX8_layWay 46 = .ok (.iinc 4 1, 3) := by decide +kernel
theorem dX8_layWay_49 : decode cX8_layWay 49 = .ok (.goto (-18), 3) := by decide +kernel
theorem dX8_layWay_52 : decode cX8_layWay 52 = .ok (.iconst 0, 1) := by decide +kernel
theorem dX8_layWay_53 : decode cX8_layWay 53 = .ok (.istore 4, 2) := by decide +kernel
theorem dX8_layWay_55 : decode cX8_layWay 55 = .ok (.iload 4, 2) := by decide +kernel
theorem dX8_layWay_57 : decode cX8_layWay 57 = .ok (.aload_n 0, 1) := by decide +kernel
theorem dX8_layWay_58 : decode cX8_layWay 58 = .ok (.getfield 183, 3) := by decide +kernel
theorem dX8_layWay_61 : decode cX8_layWay 61 = .ok (.if_icmp .ge 57, 3) := by decide +kernel
theorem dX8_layWay_64 : decode cX8_layWay 64 = .ok (.iload_n 3, 1) := by decide +kernel
theorem dX8_layWay_65 : decode cX8_layWay 65 = .ok (.iload 4, 2) := by decide +kernel
theorem dX8_layWay_67 : decode cX8_layWay 67 = .ok (.invokestatic 252, 3) := by decide +kernel
theorem dX8_layWay_70 : decode cX8_layWay 70 = .ok (.ifCond .eq 42, 3) := by decide +kernel
theorem dX8_layWay_73 : decode cX8_layWay 73 = .ok (.aload_n 0, 1) := by decide +kernel
theorem dX8_layWay_74 : decode cX8_layWay 74 = .ok (.getfield 92, 3) := by decide +kernel
theorem dX8_layWay_77 : decode cX8_layWay 77 = .ok (.aload_n 0, 1) := by decide +kernel
theorem dX8_layWay_78 : decode cX8_layWay 78 = .ok (.getfield 32, 3) := by decide +kernel
theorem dX8_layWay_81 : decode cX8_layWay 81 = .ok (.iload 4, 2) := by decide +kernel
theorem dX8_layWay_83 : decode cX8_layWay 83 = .ok (.iaload, 1) := by decide +kernel
theorem dX8_layWay_84 : decode cX8_layWay 84 = .ok (.dup2, 1) := by decide +kernel
theorem dX8_layWay_85 : decode cX8_layWay 85 = .ok (.iaload, 1) := by decide +kernel
theorem dX8_layWay_86 : decode cX8_layWay 86 = .ok (.aload_n 0, 1) := by decide +kernel
theorem dX8_layWay_87 : decode cX8_layWay 87 = .ok (.iload 4, 2) := by decide +kernel
theorem dX8_layWay_89 : decode cX8_layWay 89 = .ok (.invokevirtual 243, 3) := by decide +kernel
theorem dX8_layWay_92 : decode cX8_layWay 92 = .ok (.ior, 1) := by decide +kernel
theorem dX8_layWay_93 : decode cX8_layWay 93 = .ok (.iastore, 1) := by decide +kernel
theorem dX8_layWay_94 : decode cX8_layWay 94 = .ok (.aload_n 0, 1) := by decide +kernel
theorem dX8_layWay_95 : decode cX8_layWay 95 = .ok (.dup, 1) := by decide +kernel
theorem dX8_layWay_96 : decode cX8_layWay 96 = .ok (.getfield 280, 3) := by decide +kernel
theorem dX8_layWay_99 : decode cX8_layWay 99 = .ok (.iconst 1, 1) := by decide +kernel
theorem dX8_layWay_100 : decode cX8_layWay 100 = .ok (.aload_n 0, 1) := by decide +kernel
theorem dX8_layWay_101 : decode cX8_layWay 101 = .ok (.getfield 32, 3) := by decide +kernel
theorem dX8_layWay_104 : decode cX8_layWay 104 = .ok (.iload 4, 2) := by decide +kernel
theorem dX8_layWay_106 : decode cX8_layWay 106 = .ok (.iaload, 1) := by decide +kernel
theorem dX8_layWay_107 : decode cX8_layWay 107 = .ok (.ishl, 1) := by decide +kernel
theorem dX8_layWay_108 : decode cX8_layWay 108 = .ok (.ior, 1) := by decide +kernel
theorem dX8_layWay_109 : decode cX8_layWay 109 = .ok (.putfield 280, 3) := by decide +kernel
theorem dX8_layWay_112 : decode cX8_layWay 112 = .ok (.iinc 4 1, 3) := by decide +kernel
theorem dX8_layWay_115 : decode cX8_layWay 115 = .ok (.goto (-60), 3) := by decide +kernel
theorem dX8_layWay_118 : decode cX8_layWay 118 = .ok (.iconst 0, 1) := by decide +kernel
theorem dX8_layWay_119 : decode cX8_layWay 119 = .ok (.istore 4, 2) := by decide +kernel
theorem dX8_layWay_121 : decode cX8_layWay 121 = .ok (.iload 4, 2) := by decide +kernel
theorem dX8_layWay_123 : decode cX8_layWay 123 = .ok (.sipush 24576, 3) := by decide +kernel
theorem dX8_layWay_126 : decode cX8_layWay 126 = .ok (.if_icmp .ge 17, 3) := by decide +kernel
theorem dX8_layWay_129 : decode cX8_layWay 129 = .ok (.aload_n 0, 1) := by decide +kernel
theorem dX8_layWay_130 : decode cX8_layWay 130 = .ok (.getfield 86, 3) := by decide +kernel
theorem dX8_layWay_133 : decode cX8_layWay 133 = .ok (.iload 4, 2) := by decide +kernel
theorem dX8_layWay_135 : decode cX8_layWay 135 = .ok (.iconst (-1), 1) := by decide +kernel
theorem dX8_layWay_136 : decode cX8_layWay 136 = .ok (.iastore, 1) := by decide +kernel
theorem dX8_layWay_137 : decode cX8_layWay 137 = .ok (.iinc 4 1, 3) := by decide +kernel
theorem dX8_layWay_140 : decode cX8_layWay 140 = .ok (.goto (-19), 3) := by decide +kernel
theorem dX8_layWay_143 : decode cX8_layWay 143 = .ok (.return_, 1) := by decide +kernel
theorem dX8_stateOf_0 : decode cX8_stateOf 0 = .ok (.iload_n 0, 1) := by decide +kernel
theorem dX8_stateOf_1 : decode cX8_stateOf 1 = .ok (.bipush 6, 2) := by decide +kernel
theorem dX8_stateOf_3 : decode cX8_stateOf 3 = .ok (.iload_n 1, 1) := by decide +kernel
theorem dX8_stateOf_4 : decode cX8_stateOf 4 = .ok (.bipush 64, 2) := by decide +kernel
theorem dX8_stateOf_6 : decode cX8_stateOf 6 = .ok (.iload_n 2, 1) := by decide +kernel
theorem dX8_stateOf_7 : decode cX8_stateOf 7 = .ok (.imul, 1) := by decide +kernel
theorem dX8_stateOf_8 : decode cX8_stateOf 8 = .ok (.iadd, 1) := by decide +kernel
theorem dX8_stateOf_9 : decode cX8_stateOf 9 = .ok (.imul, 1) := by decide +kernel
theorem dX8_stateOf_10 : decode cX8_stateOf 10 = .ok (.iadd, 1) := by decide +kernel
theorem dX8_stateOf_11 : decode cX8_stateOf 11 = .ok (.ireturn, 1) := by decide +kernel
theorem dX8_reach_0 : decode cX8_reach 0 = .ok (.aload_n 0, 1) := by decide +kernel
theorem dX8_reach_1 : decode cX8_reach 1 = .ok (.getfield 86, 3) := by decide +kernel
theorem dX8_reach_4 : decode cX8_reach 4 = .ok (.iload_n 1, 1) := by decide +kernel
theorem dX8_reach_5 : decode cX8_reach 5 = .ok (.iaload, 1) := by decide +kernel
theorem dX8_reach_6 : decode cX8_reach 6 = .ok (.ifCond .ge 30, 3) := by decide +kernel
theorem dX8_reach_9 : decode cX8_reach 9 = .ok (.aload_n 0, 1) := by decide +kernel
theorem dX8_reach_10 : decode cX8_reach 10 = .ok (.getfield 86, 3) := by decide +kernel
theorem dX8_reach_13 : decode cX8_reach 13 = .ok (.iload_n 1, 1) := by decide +kernel
theorem dX8_reach_14 : decode cX8_reach 14 = .ok (.iload_n 2, 1) := by decide +kernel
theorem dX8_reach_15 : decode cX8_reach 15 = .ok (.iastore, 1) := by decide +kernel
theorem dX8_reach_16 : decode cX8_reach 16 = .ok (.aload_n 0, 1) := by decide +kernel
theorem dX8_reach_17 : decode cX8_reach 17 = .ok (.getfield 89, 3) := by decide +kernel
theorem dX8_reach_20 : decode cX8_reach 20 = .ok (.aload_n 0, 1) := by decide +kernel
theorem dX8_reach_21 : decode cX8_reach 21 = .ok (.getfield 283, 3) := by decide +kernel
theorem dX8_reach_24 : decode cX8_reach 24 = .ok (.iload_n 1, 1) := by decide +kernel
theorem dX8_reach_25 : decode cX8_reach 25 = .ok (.iastore, 1) := by decide +kernel
theorem dX8_reach_26 : decode cX8_reach 26 = .ok (.aload_n 0, 1) := by decide +kernel
theorem dX8_reach_27 : decode cX8_reach 27 = .ok (.dup, 1) := by decide +kernel
theorem dX8_reach_28 : decode cX8_reach 28 = .ok (.getfield 283, 3) := by decide +kernel
theorem dX8_reach_31 : decode cX8_reach 31 = .ok (.iconst 1, 1) := by decide +kernel
theorem dX8_reach_32 : decode cX8_reach 32 = .ok (.iadd, 1) := by decide +kernel
theorem dX8_reach_33 : decode cX8_reach 33 = .ok (.putfield 283, 3) := by decide +kernel
theorem dX8_reach_36 : decode cX8_reach 36 = .ok (.return_, 1) := by decide +kernel
theorem dX8_isOpenTo_0 : decode cX8_isOpenTo 0 = .ok (.aload_n 0, 1) := by decide +kernel
theorem dX8_isOpenTo_1 : decode cX8_isOpenTo 1 = .ok (.getfield 277, 3) := by decide +kernel
theorem dX8_isOpenTo_4 : decode cX8_isOpenTo 4 = .ok (.istore 4, 2) := by decide +kernel
theorem dX8_isOpenTo_6 : decode cX8_isOpenTo 6 = .ok (.iconst 0, 1) := by decide +kernel
theorem dX8_isOpenTo_7 : decode cX8_isOpenTo 7 = .ok (.istore 5, 2) := by decide +kernel
theorem dX8_isOpenTo_9 : decode cX8_isOpenTo 9 = .ok (.iload 5, 2) := by decide +kernel
theorem dX8_isOpenTo_11 : decode cX8_isOpenTo 11 = .ok (.aload_n 0, 1) := by decide +kernel
theorem dX8_isOpenTo_12 : decode cX8_isOpenTo 12 = .ok (.getfield 180, 3) := by decide +kernel
theorem dX8_isOpenTo_15 : decode cX8_isOpenTo 15 = .ok (.if_icmp .ge 67, 3) := by decide +kernel
theorem dX8_isOpenTo_18 : decode cX8_isOpenTo 18 = .ok (.iload 4, 2) := by decide +kernel
theorem dX8_isOpenTo_20 : decode cX8_isOpenTo 20 = .ok (.iload_n 2, 1) := by decide +kernel
theorem dX8_isOpenTo_21 : decode cX8_isOpenTo 21 = .ok (.iload 5, 2) := by decide +kernel
theorem dX8_isOpenTo_23 : decode cX8_isOpenTo 23 = .ok (.invokestatic 252, 3) := by decide +kernel
theorem dX8_isOpenTo_26 : decode cX8_isOpenTo 26 = .ok (.ifCond .eq 21, 3) := by decide +kernel
theorem dX8_isOpenTo_29 : decode cX8_isOpenTo 29 = .ok (.aload_n 0, 1) := by decide +kernel
theorem dX8_isOpenTo_30 : decode cX8_isOpenTo 30 = .ok (.getfield 80, 3) := by decide +kernel
theorem dX8_isOpenTo_33 : decode cX8_isOpenTo 33 = .ok (.iload 5, 2) := by decide +kernel
theorem dX8_isOpenTo_35 : decode cX8_isOpenTo 35 = .ok (.iaload, 1) := by decide +kernel
theorem dX8_isOpenTo_36 : decode cX8_isOpenTo 36 = .ok (.aload_n 0, 1) := by decide +kernel
theorem dX8_isOpenTo_37 : decode cX8_isOpenTo 37 = .ok (.getfield 92, 3) := by decide +kernel
theorem dX8_isOpenTo_40 : decode cX8_isOpenTo 40 = .ok (.iload 5, 2) := by decide +kernel
theorem dX8_isOpenTo_42 : decode cX8_isOpenTo 42 = .ok (.iaload, 1) := by decide +kernel
theorem dX8_isOpenTo_43 : decode cX8_isOpenTo 43 = .ok (.ior, 1) := by decide +kernel
theorem dX8_isOpenTo_44 : decode cX8_isOpenTo 44 = .ok (.goto 4, 3) := by decide +kernel
theorem dX8_isOpenTo_47 : decode cX8_isOpenTo 47 = .ok (.iconst 0, 1) := by decide +kernel
theorem dX8_isOpenTo_48 : decode cX8_isOpenTo 48 = .ok (.ior, 1) := by decide +kernel
theorem dX8_isOpenTo_49 : decode cX8_isOpenTo 49 = .ok (.istore 4, 2) := by decide +kernel
theorem dX8_isOpenTo_51 : decode cX8_isOpenTo 51 = .ok (.iload 4, 2) := by decide +kernel
theorem dX8_isOpenTo_53 : decode cX8_isOpenTo 53 = .ok (.iload_n 3, 1) := by decide +kernel
theorem dX8_isOpenTo_54 : decode cX8_isOpenTo 54 = .ok (.iload 5, 2) := by decide +kernel
theorem dX8_isOpenTo_56 : decode cX8_isOpenTo 56 = .ok (.invokestatic 252, 3) := by decide +kernel
theorem dX8_isOpenTo_59 : decode cX8_isOpenTo 59 = .ok (.ifCond .eq 13, 3) := by decide +kernel
theorem dX8_isOpenTo_62 : decode cX8_isOpenTo 62 = .ok (.aload_n 0, 1) := by decide +kernel
theorem dX8_isOpenTo_63 : decode cX8_isOpenTo 63 = .ok (.getfield 83, 3) := by decide +kernel
theorem dX8_isOpenTo_66 : decode cX8_isOpenTo 66 = .ok (.iload 5, 2) := by decide +kernel
theorem dX8_isOpenTo_68 : decode cX8_isOpenTo 68 = .ok (.iaload, 1) := by decide +kernel
theorem dX8_isOpenTo_69 : decode cX8_isOpenTo 69 = .ok (.goto 4, 3) := by decide +kernel
theorem dX8_isOpenTo_72 : decode cX8_isOpenTo 72 = .ok (.iconst 0, 1) := by decide +kernel
theorem dX8_isOpenTo_73 : decode cX8_isOpenTo 73 = .ok (.ior, 1) := by decide +kernel
theorem dX8_isOpenTo_74 : decode cX8_isOpenTo 74 = .ok (.istore 4, 2) := by decide +kernel
theorem dX8_isOpenTo_76 : decode cX8_isOpenTo 76 = .ok (.iinc 5 1, 3) := by decide +kernel
theorem dX8_isOpenTo_79 : decode cX8_isOpenTo 79 = .ok (.goto (-70), 3) := by decide +kernel
theorem dX8_isOpenTo_82 : decode cX8_isOpenTo 82 = .ok (.iload 4, 2) := by decide +kernel
theorem dX8_isOpenTo_84 : decode cX8_isOpenTo 84 = .ok (.aload_n 0, 1) := by decide +kernel
theorem dX8_isOpenTo_85 : decode cX8_isOpenTo 85 = .ok (.getfield 77, 3) := by decide +kernel
theorem dX8_isOpenTo_88 : decode cX8_isOpenTo 88 = .ok (.iload_n 1, 1) := by decide +kernel
theorem dX8_isOpenTo_89 : decode cX8_isOpenTo 89 = .ok (.iaload, 1) := by decide +kernel
theorem dX8_isOpenTo_90 : decode cX8_isOpenTo 90 = .ok (.iand, 1) := by decide +kernel
theorem dX8_isOpenTo_91 : decode cX8_isOpenTo 91 = .ok (.ifCond .ne 16, 3) := by decide +kernel
theorem dX8_isOpenTo_94 : decode cX8_isOpenTo 94 = .ok (.iload_n 2, 1) := by decide +kernel
theorem dX8_isOpenTo_95 : decode cX8_isOpenTo 95 = .ok (.aload_n 0, 1) := by decide +kernel
theorem dX8_isOpenTo_96 : decode cX8_isOpenTo 96 = .ok (.getfield 280, 3) := by decide +kernel
theorem dX8_isOpenTo_99 : decode cX8_isOpenTo 99 = .ok (.iand, 1) := by decide +kernel
theorem dX8_isOpenTo_100 : decode cX8_isOpenTo 100 = .ok (.iload_n 1, 1) := by decide +kernel
theorem dX8_isOpenTo_101 : decode cX8_isOpenTo 101 = .ok (.invokestatic 252, 3) := by decide +kernel
theorem dX8_isOpenTo_104 : decode cX8_isOpenTo 104 = .ok (.ifCond .eq 7, 3) := by decide +kernel
theorem dX8_isOpenTo_107 : decode cX8_isOpenTo 107 = .ok (.iconst 1, 1) := by decide +kernel
theorem dX8_isOpenTo_108 : decode cX8_isOpenTo 108 = .ok (.goto 4, 3) := by decide +kernel
theorem dX8_isOpenTo_111 : decode cX8_isOpenTo 111 = .ok (.iconst 0, 1) := by decide +kernel
theorem dX8_isOpenTo_112 : decode cX8_isOpenTo 112 = .ok (.ireturn, 1) := by decide +kernel
theorem dX8_startOf_0 : decode cX8_startOf 0 = .ok (.aload_n 0, 1) := by decide +kernel
theorem dX8_startOf_1 : decode cX8_startOf 1 = .ok (.getfield 32, 3) := by decide +kernel
theorem dX8_startOf_4 : decode cX8_startOf 4 = .ok (.iload_n 1, 1) := by decide +kernel
theorem dX8_startOf_5 : decode cX8_startOf 5 = .ok (.iaload, 1) := by decide +kernel
theorem dX8_startOf_6 : decode cX8_startOf 6 = .ok (.bipush (-9), 2) := by decide +kernel
theorem dX8_startOf_8 : decode cX8_startOf 8 = .ok (.if_icmp .ne 7, 3) := by decide +kernel
theorem dX8_startOf_11 : decode cX8_startOf 11 = .ok (.iconst 0, 1) := by decide +kernel
theorem dX8_startOf_12 : decode cX8_startOf 12 = .ok (.goto 9, 3) := by decide +kernel
theorem dX8_startOf_15 : decode cX8_startOf 15 = .ok (.aload_n 0, 1) := by decide +kernel
theorem dX8_startOf_16 : decode cX8_startOf 16 = .ok (.getfield 32, 3) := by decide +kernel
theorem dX8_startOf_19 : decode cX8_startOf 19 = .ok (.iload_n 1, 1) := by decide +kernel
theorem dX8_startOf_20 : decode cX8_startOf 20 = .ok (.iaload, 1) := by decide +kernel
theorem dX8_startOf_21 : decode cX8_startOf 21 = .ok (.ireturn, 1) := by decide +kernel
theorem dX8_quickest_0 : decode cX8_quickest 0 = .ok (.aload_n 0, 1) := by decide +kernel
theorem dX8_quickest_1 : decode cX8_quickest 1 = .ok (.iload_n 1, 1) := by decide +kernel
theorem dX8_quickest_2 : decode cX8_quickest 2 = .ok (.iload_n 3, 1) := by decide +kernel
theorem dX8_quickest_3 : decode cX8_quickest 3 = .ok (.invokevirtual 286, 3) := by decide +kernel
theorem dX8_quickest_6 : decode cX8_quickest 6 = .ok (.aload_n 0, 1) := by decide +kernel
theorem dX8_quickest_7 : decode cX8_quickest 7 = .ok (.iconst 0, 1) := by decide +kernel
theorem dX8_quickest_8 : decode cX8_quickest 8 = .ok (.putfield 283, 3) := by decide +kernel
theorem dX8_quickest_11 : decode cX8_quickest 11 = .ok (.aload_n 0, 1) := by decide +kernel
theorem dX8_quickest_12 : decode cX8_quickest 12 = .ok (.aload_n 0, 1) := by decide +kernel
theorem dX8_quickest_13 : decode cX8_quickest 13 = .ok (.iload_n 1, 1) := by decide +kernel
theorem dX8_quickest_14 : decode cX8_quickest 14 = .ok (.invokevirtual 290, 3) := by decide +kernel
theorem dX8_quickest_17 : decode cX8_quickest 17 = .ok (.iconst 0, 1) := by decide +kernel
theorem dX8_quickest_18 : decode cX8_quickest 18 = .ok (.iconst 0, 1) := by decide +kernel
theorem dX8_quickest_19 : decode cX8_quickest 19 = .ok (.invokestatic 293, 3) := by decide +kernel
theorem dX8_quickest_22 : decode cX8_quickest 22 = .ok (.iconst 0, 1) := by decide +kernel
theorem dX8_quickest_23 : decode cX8_quickest 23 = .ok (.invokevirtual 297, 3) := by decide +kernel
theorem dX8_quickest_26 : decode cX8_quickest 26 = .ok (.iconst 0, 1) := by decide +kernel
theorem dX8_quickest_27 : decode cX8_quickest 27 = .ok (.istore 5, 2) := by decide +kernel
theorem dX8_quickest_29 : decode cX8_quickest 29 = .ok (.iload 5, 2) := by decide +kernel
theorem dX8_quickest_31 : decode cX8_quickest 31 = .ok (.aload_n 0, 1) := by decide +kernel
theorem dX8_quickest_32 : decode cX8_quickest 32 = .ok (.getfield 283, 3) := by decide +kernel
theorem dX8_quickest_35 : decode cX8_quickest 35 = .ok (.if_icmp .ge 200, 3) := by decide +kernel
theorem dX8_quickest_38 : decode cX8_quickest 38 = .ok (.aload_n 0, 1) := by decide +kernel
theorem dX8_quickest_39 : decode cX8_quickest 39 = .ok (.getfield 89, 3) := by decide +kernel
theorem dX8_quickest_42 : decode cX8_quickest 42 = .ok (.iload 5, 2) := by decide +kernel
theorem dX8_quickest_44 : decode cX8_quickest 44 = .ok (.iaload, 1) := by decide +kernel
theorem dX8_quickest_45 : decode cX8_quickest 45 = .ok (.istore 6, 2) := by decide +kernel
theorem dX8_quickest_47 : decode cX8_quickest 47 = .ok (.iload 6, 2) := by decide +kernel
theorem dX8_quickest_49 : decode cX8_quickest 49 = .ok (.bipush 6, 2) := by decide +kernel
theorem dX8_quickest_51 : decode cX8_quickest 51 = .ok (.irem, 1) := by decide +kernel
theorem dX8_quickest_52 : decode cX8_quickest 52 = .ok (.istore 7, 2) := by decide +kernel
theorem dX8_quickest_54 : decode cX8_quickest 54 = .ok (.iload 6, 2) := by decide +kernel
theorem dX8_quickest_56 : decode cX8_quickest 56 = .ok (.bipush 6, 2) := by decide +kernel
theorem dX8_quickest_58 : decode cX8_quickest 58 = .ok (.idiv, 1) := by decide +kernel
theorem dX8_quickest_59 : decode cX8_quickest 59 = .ok (.bipush 64, 2) := by decide +kernel
theorem dX8_quickest_61 : decode cX8_quickest 61 = .ok (.irem, 1) := by decide +kernel
theorem dX8_quickest_62 : decode cX8_quickest 62 = .ok (.istore 8, 2) := by decide +kernel
theorem dX8_quickest_64 : decode cX8_quickest 64 = .ok (.iload 6, 2) := by decide +kernel
theorem dX8_quickest_66 : decode cX8_quickest 66 = .ok (.bipush 6, 2) := by decide +kernel
theorem dX8_quickest_68 : decode cX8_quickest 68 = .ok (.idiv, 1) := by decide +kernel
theorem dX8_quickest_69 : decode cX8_quickest 69 = .ok (.bipush 64, 2) := by decide +kernel
theorem dX8_quickest_71 : decode cX8_quickest 71 = .ok (.idiv, 1) := by decide +kernel
theorem dX8_quickest_72 : decode cX8_quickest 72 = .ok (.istore 9, 2) := by decide +kernel
theorem dX8_quickest_74 : decode cX8_quickest 74 = .ok (.iload_n 2, 1) := by decide +kernel
theorem dX8_quickest_75 : decode cX8_quickest 75 = .ok (.iload 9, 2) := by decide +kernel
theorem dX8_quickest_77 : decode cX8_quickest 77 = .ok (.iconst (-1), 1) := by decide +kernel
theorem dX8_quickest_78 : decode cX8_quickest 78 = .ok (.ixor, 1) := by decide +kernel
theorem dX8_quickest_79 : decode cX8_quickest 79 = .ok (.iand, 1) := by decide +kernel
theorem dX8_quickest_80 : decode cX8_quickest 80 = .ok (.ifCond .ne 26, 3) := by decide +kernel
theorem dX8_quickest_83 : decode cX8_quickest 83 = .ok (.iload 4, 2) := by decide +kernel
theorem dX8_quickest_85 : decode cX8_quickest 85 = .ok (.ifCond .eq 13, 3) := by decide +kernel
theorem dX8_quickest_88 : decode cX8_quickest 88 = .ok (.iload 7, 2) := by decide +kernel
theorem dX8_quickest_90 : decode cX8_quickest 90 = .ok (.aload_n 0, 1) := by decide +kernel
theorem dX8_quickest_91 : decode cX8_quickest 91 = .ok (.iload_n 1, 1) := by decide +kernel
theorem dX8_quickest_92 : decode cX8_quickest 92 = .ok (.invokevirtual 290, 3) := by decide +kernel
theorem dX8_quickest_95 : decode cX8_quickest 95 = .ok (.if_icmp .ne 11, 3) := by decide +kernel
theorem dX8_quickest_98 : decode cX8_quickest 98 = .ok (.aload_n 0, 1) := by decide +kernel
theorem dX8_quickest_99 : decode cX8_quickest 99 = .ok (.getfield 86, 3) := by decide +kernel
theorem dX8_quickest_102 : decode cX8_quickest 102 = .ok (.iload 6, 2) := by decide +kernel
theorem dX8_quickest_104 : decode cX8_quickest 104 = .ok (.iaload, 1) := by decide +kernel
theorem dX8_quickest_105 : decode cX8_quickest 105 = .ok (.ireturn, 1) := by decide +kernel
theorem dX8_quickest_106 : decode cX8_quickest 106 = .ok (.aload_n 0, 1) := by decide +kernel
theorem dX8_quickest_107 : decode cX8_quickest 107 = .ok (.getfield 86, 3) := by decide +kernel
theorem dX8_quickest_110 : decode cX8_quickest 110 = .ok (.iload 6, 2) := by decide +kernel
theorem dX8_quickest_112 : decode cX8_quickest 112 = .ok (.iaload, 1) := by decide +kernel
theorem dX8_quickest_113 : decode cX8_quickest 113 = .ok (.iconst 1, 1) := by decide +kernel
theorem dX8_quickest_114 : decode cX8_quickest 114 = .ok (.iadd, 1) := by decide +kernel
theorem dX8_quickest_115 : decode cX8_quickest 115 = .ok (.istore 10, 2) := by decide +kernel
theorem dX8_quickest_117 : decode cX8_quickest 117 = .ok (.iload 7, 2) := by decide +kernel
theorem dX8_quickest_119 : decode cX8_quickest 119 = .ok (.ifCond .le 20, 3) := by decide +kernel
theorem dX8_quickest_122 : decode cX8_quickest 122 = .ok (.aload_n 0, 1) := by decide +kernel
theorem dX8_quickest_123 : decode cX8_quickest 123 = .ok (.iload 7, 2) := by decide +kernel
theorem dX8_quickest_125 : decode cX8_quickest 125 = .ok (.iconst 1, 1) := by decide +kernel
theorem dX8_quickest_126 : decode cX8_quickest 126 = .ok (.isub, 1) := by decide +kernel
theorem dX8_quickest_127 : decode cX8_quickest 127 = .ok (.iload 8, 2) := by decide +kernel
theorem dX8_quickest_129 : decode cX8_quickest 129 = .ok (.iload 9, 2) := by decide +kernel
theorem dX8_quickest_131 : decode cX8_quickest 131 = .ok (.invokestatic 293, 3) := by decide +kernel
theorem dX8_quickest_134 : decode cX8_quickest 134 = .ok (.iload 10, 2) := by decide +kernel
theorem dX8_quickest_136 : decode cX8_quickest 136 = .ok (.invokevirtual 297, 3) := by decide +kernel
theorem dX8_quickest_139 : decode cX8_quickest 139 = .ok (.iload 7, 2) := by decide +kernel
theorem dX8_quickest_141 : decode cX8_quickest 141 = .ok (.iconst 1, 1) := by decide +kernel
theorem dX8_quickest_142 : decode cX8_quickest 142 = .ok (.iadd, 1) := by decide +kernel
theorem dX8_quickest_143 : decode cX8_quickest 143 = .ok (.aload_n 0, 1) := by decide +kernel
theorem dX8_quickest_144 : decode cX8_quickest 144 = .ok (.getfield 180, 3) := by decide +kernel
theorem dX8_quickest_147 : decode cX8_quickest 147 = .ok (.if_icmp .ge 20, 3) := by decide +kernel
theorem dX8_quickest_150 : decode cX8_quickest 150 = .ok (.aload_n 0, 1) := by decide +kernel
theorem dX8_quickest_151 : decode cX8_quickest 151 = .ok (.iload 7, 2) := by decide +kernel
theorem dX8_quickest_153 : decode cX8_quickest 153 = .ok (.iconst 1, 1) := by decide +kernel
theorem dX8_quickest_154 : decode cX8_quickest 154 = .ok (.iadd, 1) := by decide +kernel
theorem dX8_quickest_155 : decode cX8_quickest 155 = .ok (.iload 8, 2) := by decide +kernel
theorem dX8_quickest_157 : decode cX8_quickest 157 = .ok (.iload 9, 2) := by decide +kernel
theorem dX8_quickest_159 : decode cX8_quickest 159 = .ok (.invokestatic 293, 3) := by decide +kernel
theorem dX8_quickest_162 : decode cX8_quickest 162 = .ok (.iload 10, 2) := by decide +kernel
theorem dX8_quickest_164 : decode cX8_quickest 164 = .ok (.invokevirtual 297, 3) := by decide +kernel
theorem dX8_quickest_167 : decode cX8_quickest 167 = .ok (.iload 7, 2) := by decide +kernel
theorem dX8_quickest_169 : decode cX8_quickest 169 = .ok (.aload_n 0, 1) := by decide +kernel
theorem dX8_quickest_170 : decode cX8_quickest 170 = .ok (.getfield 180, 3) := by decide +kernel
theorem dX8_quickest_173 : decode cX8_quickest 173 = .ok (.if_icmp .ge 56, 3) := by decide +kernel
theorem dX8_quickest_176 : decode cX8_quickest 176 = .ok (.aload_n 0, 1) := by decide +kernel
theorem dX8_quickest_177 : decode cX8_quickest 177 = .ok (.iload 7, 2) := by decide +kernel
theorem dX8_quickest_179 : decode cX8_quickest 179 = .ok (.iload 8, 2) := by decide +kernel
theorem dX8_quickest_181 : decode cX8_quickest 181 = .ok (.iconst 1, 1) := by decide +kernel
theorem dX8_quickest_182 : decode cX8_quickest 182 = .ok (.iload 7, 2) := by decide +kernel
theorem dX8_quickest_184 : decode cX8_quickest 184 = .ok (.ishl, 1) := by decide +kernel
theorem dX8_quickest_185 : decode cX8_quickest 185 = .ok (.ior, 1) := by decide +kernel
theorem dX8_quickest_186 : decode cX8_quickest 186 = .ok (.iload 9, 2) := by decide +kernel
theorem dX8_quickest_188 : decode cX8_quickest 188 = .ok (.invokestatic 293, 3) := by decide +kernel
theorem dX8_quickest_191 : decode cX8_quickest 191 = .ok (.iload 10, 2) := by decide +kernel
theorem dX8_quickest_193 : decode cX8_quickest 193 = .ok (.invokevirtual 297, 3) := by decide +kernel
theorem dX8_quickest_196 : decode cX8_quickest 196 = .ok (.aload_n 0, 1) := by decide +kernel
theorem dX8_quickest_197 : decode cX8_quickest 197 = .ok (.iload 7, 2) := by decide +kernel
theorem dX8_quickest_199 : decode cX8_quickest 199 = .ok (.iload 8, 2) := by decide +kernel
theorem dX8_quickest_201 : decode cX8_quickest 201 = .ok (.iload 9, 2) := by decide +kernel
theorem dX8_quickest_203 : decode cX8_quickest 203 = .ok (.invokevirtual 301, 3) := by decide +kernel
theorem dX8_quickest_206 : decode cX8_quickest 206 = .ok (.ifCond .eq 23, 3) := by decide +kernel
theorem dX8_quickest_209 : decode cX8_quickest 209 = .ok (.aload_n 0, 1) := by decide +kernel
theorem dX8_quickest_210 : decode cX8_quickest 210 = .ok (.iload 7, 2) := by decide +kernel
theorem dX8_quickest_212 : decode cX8_quickest 212 = .ok (.iload 8, 2) := by decide +kernel
theorem dX8_quickest_214 : decode cX8_quickest 214 = .ok (.iload 9, 2) := by decide +kernel
theorem dX8_quickest_216 : decode cX8_quickest 216 = .ok (.iconst 1, 1) := by decide +kernel
theorem dX8_quickest_217 : decode cX8_quickest 217 = .ok (.iload 7, 2) := by decide +kernel
theorem dX8_quickest_219 : decode cX8_quickest 219 = .ok (.ishl, 1) := by decide +kernel
theorem dX8_quickest_220 : decode cX8_quickest 220 = .ok (.ior, 1) := by decide +kernel
theorem dX8_quickest_221 : decode cX8_quickest 221 = .ok (.invokestatic 293, 3) := by decide +kernel
theorem dX8_quickest_224 : decode cX8_quickest 224 = .ok (.iload 10, 2) := by decide +kernel
theorem dX8_quickest_226 : decode cX8_quickest 226 = .ok (.invokevirtual 297, 3) := by decide +kernel
theorem dX8_quickest_229 : decode cX8_quickest 229 = .ok (.iinc 5 1, 3) := by decide +kernel
theorem dX8_quickest_232 : decode cX8_quickest 232 = .ok (.goto (-203), 3) := by decide +kernel
theorem dX8_quickest_235 : decode cX8_quickest 235 = .ok (.bipush (-9), 2) := by decide +kernel
theorem dX8_quickest_237 : decode cX8_quickest 237 = .ok (.ireturn, 1) := by decide +kernel
theorem dX8_soonest_0 : decode cX8_soonest 0 = .ok (.aload_n 0, 1) := by decide +kernel
theorem dX8_soonest_1 : decode cX8_soonest 1 = .ok (.iload_n 1, 1) := by decide +kernel
theorem dX8_soonest_2 : decode cX8_soonest 2 = .ok (.invokevirtual 207, 3) := by decide +kernel
theorem dX8_soonest_5 : decode cX8_soonest 5 = .ok (.ifCond .eq 24, 3) := by decide +kernel
theorem dX8_soonest_8 : decode cX8_soonest 8 = .ok (.aload_n 0, 1) := by decide +kernel
theorem dX8_soonest_9 : decode cX8_soonest 9 = .ok (.iload_n 2, 1) := by decide +kernel
theorem dX8_soonest_10 : decode cX8_soonest 10 = .ok (.invokevirtual 204, 3) := by decide +kernel
theorem dX8_soonest_13 : decode cX8_soonest 13 = .ok (.ifCond .eq 16, 3) := by decide +kernel
theorem dX8_soonest_16 : decode cX8_soonest 16 = .ok (.aload_n 0, 1) := by decide +kernel
theorem dX8_soonest_17 : decode cX8_soonest 17 = .ok (.iload_n 1, 1) := by decide +kernel
theorem dX8_soonest_18 : decode cX8_soonest 18 = .ok (.iconst 1, 1) := by decide +kernel
theorem dX8_soonest_19 : decode cX8_soonest 19 = .ok (.iload_n 2, 1) := by decide +kernel
theorem dX8_soonest_20 : decode cX8_soonest 20 = .ok (.ishl, 1) := by decide +kernel
theorem dX8_soonest_21 : decode cX8_soonest 21 = .ok (.iload_n 3, 1) := by decide +kernel
theorem dX8_soonest_22 : decode cX8_soonest 22 = .ok (.iconst 0, 1) := by decide +kernel
theorem dX8_soonest_23 : decode cX8_soonest 23 = .ok (.invokevirtual 304, 3) := by decide +kernel
theorem dX8_soonest_26 : decode cX8_soonest 26 = .ok (.goto 4, 3) := by decide +kernel
theorem dX8_soonest_29 : decode cX8_soonest 29 = .ok (.iconst (-1), 1) := by decide +kernel
theorem dX8_soonest_30 : decode cX8_soonest 30 = .ok (.ireturn, 1) := by decide +kernel
theorem dX8_round_0 : decode cX8_round 0 = .ok (.aload_n 0, 1) := by decide +kernel
theorem dX8_round_1 : decode cX8_round 1 = .ok (.iload_n 1, 1) := by decide +kernel
theorem dX8_round_2 : decode cX8_round 2 = .ok (.invokevirtual 207, 3) := by decide +kernel
theorem dX8_round_5 : decode cX8_round 5 = .ok (.ifCond .eq 30, 3) := by decide +kernel
theorem dX8_round_8 : decode cX8_round 8 = .ok (.iload_n 2, 1) := by decide +kernel
theorem dX8_round_9 : decode cX8_round 9 = .ok (.iconst 0, 1) := by decide +kernel
theorem dX8_round_10 : decode cX8_round 10 = .ok (.iconst 1, 1) := by decide +kernel
theorem dX8_round_11 : decode cX8_round 11 = .ok (.aload_n 0, 1) := by decide +kernel
theorem dX8_round_12 : decode cX8_round 12 = .ok (.getfield 180, 3) := by decide +kernel
theorem dX8_round_15 : decode cX8_round 15 = .ok (.ishl, 1) := by decide +kernel
theorem dX8_round_16 : decode cX8_round 16 = .ok (.iconst 1, 1) := by decide +kernel
theorem dX8_round_17 : decode cX8_round 17 = .ok (.isub, 1) := by decide +kernel
theorem dX8_round_18 : decode cX8_round 18 = .ok (.invokestatic 112, 3) := by decide +kernel
theorem dX8_round_21 : decode cX8_round 21 = .ok (.ifCond .eq 14, 3) := by decide +kernel
theorem dX8_round_24 : decode cX8_round 24 = .ok (.aload_n 0, 1) := by decide +kernel
theorem dX8_round_25 : decode cX8_round 25 = .ok (.iload_n 1, 1) := by decide +kernel
theorem dX8_round_26 : decode cX8_round 26 = .ok (.iload_n 2, 1) := by decide +kernel
theorem dX8_round_27 : decode cX8_round 27 = .ok (.iload_n 3, 1) := by decide +kernel
theorem dX8_round_28 : decode cX8_round 28 = .ok (.iconst 1, 1) := by decide +kernel
theorem dX8_round_29 : decode cX8_round 29 = .ok (.invokevirtual 304, 3) := by decide +kernel
theorem dX8_round_32 : decode cX8_round 32 = .ok (.goto 4, 3) := by decide +kernel
theorem dX8_round_35 : decode cX8_round 35 = .ok (.iconst (-1), 1) := by decide +kernel
theorem dX8_round_36 : decode cX8_round 36 = .ok (.ireturn, 1) := by decide +kernel
theorem dX8_stuck_0 : decode cX8_stuck 0 = .ok (.iconst 0, 1) := by decide +kernel
theorem dX8_stuck_1 : decode cX8_stuck 1 = .ok (.istore_n 1, 1) := by decide +kernel
theorem dX8_stuck_2 : decode cX8_stuck 2 = .ok (.iconst 0, 1) := by decide +kernel
theorem dX8_stuck_3 : decode cX8_stuck 3 = .ok (.istore_n 2, 1) := by decide +kernel
theorem dX8_stuck_4 : decode cX8_stuck 4 = .ok (.iconst 0, 1) := by decide +kernel
theorem dX8_stuck_5 : decode cX8_stuck 5 = .ok (.istore_n 3, 1) := by decide +kernel
theorem dX8_stuck_6 : decode cX8_stuck 6 = .ok (.iload_n 3, 1) := by decide +kernel
theorem dX8_stuck_7 : decode cX8_stuck 7 = .ok (.aload_n 0, 1) := by decide +kernel
theorem dX8_stuck_8 : decode cX8_stuck 8 = .ok (.getfield 189, 3) := by decide +kernel
theorem dX8_stuck_11 : decode cX8_stuck 11 = .ok (.if_icmp .ge 29, 3) := by decide +kernel
theorem dX8_stuck_14 : decode cX8_stuck 14 = .ok (.iload_n 1, 1) := by decide +kernel
theorem dX8_stuck_15 : decode cX8_stuck 15 = .ok (.aload_n 0, 1) := by decide +kernel
theorem dX8_stuck_16 : decode cX8_stuck 16 = .ok (.getfield 59, 3) := by decide +kernel
theorem dX8_stuck_19 : decode cX8_stuck 19 = .ok (.iload_n 3, 1) := by decide +kernel
theorem dX8_stuck_20 : decode cX8_stuck 20 = .ok (.iaload, 1) := by decide +kernel
theorem dX8_stuck_21 : decode cX8_stuck 21 = .ok (.iconst 2, 1) := by decide +kernel
theorem dX8_stuck_22 : decode cX8_stuck 22 = .ok (.if_icmp .ge 9, 3) := by decide +kernel
theorem dX8_stuck_25 : decode cX8_stuck 25 = .ok (.iconst 1, 1) := by decide +kernel
theorem dX8_stuck_26 : decode cX8_stuck 26 = .ok (.iload_n 3, 1) := by decide +kernel
theorem dX8_stuck_27 : decode cX8_stuck 27 = .ok (.ishl, 1) := by decide +kernel
theorem dX8_stuck_28 : decode cX8_stuck 28 = .ok (.goto 4, 3) := by decide +kernel
theorem dX8_stuck_31 : decode cX8_stuck 31 = .ok (.iconst 0, 1) := by decide +kernel
theorem dX8_stuck_32 : decode cX8_stuck 32 = .ok (.ior, 1) := by decide +kernel
theorem dX8_stuck_33 : decode cX8_stuck 33 = .ok (.istore_n 1, 1) := by decide +kernel
theorem dX8_stuck_34 : decode cX8_stuck 34 = .ok (.iinc 3 1, 3) := by decide +kernel
theorem dX8_stuck_37 : decode cX8_stuck 37 = .ok (.goto (-31), 3) := by decide +kernel
theorem dX8_stuck_40 : decode cX8_stuck 40 = .ok (.iconst 1, 1) := by decide +kernel
theorem dX8_stuck_41 : decode cX8_stuck 41 = .ok (.aload_n 0, 1) := by decide +kernel
theorem dX8_stuck_42 : decode cX8_stuck 42 = .ok (.getfield 180, 3) := by decide +kernel
theorem dX8_stuck_45 : decode cX8_stuck 45 = .ok (.ishl, 1) := by decide +kernel
theorem dX8_stuck_46 : decode cX8_stuck 46 = .ok (.iconst 1, 1) := by decide +kernel
theorem dX8_stuck_47 : decode cX8_stuck 47 = .ok (.isub, 1) := by decide +kernel
theorem dX8_stuck_48 : decode cX8_stuck 48 = .ok (.aload_n 0, 1) := by decide +kernel
theorem dX8_stuck_49 : decode cX8_stuck 49 = .ok (.iload_n 1, 1) := by decide +kernel
theorem dX8_stuck_50 : decode cX8_stuck 50 = .ok (.iconst 0, 1) := by decide +kernel
theorem dX8_stuck_51 : decode cX8_stuck 51 = .ok (.invokevirtual 255, 3) := by decide +kernel
theorem dX8_stuck_54 : decode cX8_stuck 54 = .ok (.iconst (-1), 1) := by decide +kernel
theorem dX8_stuck_55 : decode cX8_stuck 55 = .ok (.ixor, 1) := by decide +kernel
theorem dX8_stuck_56 : decode cX8_stuck 56 = .ok (.iand, 1) := by decide +kernel
theorem dX8_stuck_57 : decode cX8_stuck 57 = .ok (.istore_n 3, 1) := by decide +kernel
theorem dX8_stuck_58 : decode cX8_stuck 58 = .ok (.iconst 0, 1) := by decide +kernel
theorem dX8_stuck_59 : decode cX8_stuck 59 = .ok (.istore 4, 2) := by decide +kernel
theorem dX8_stuck_61 : decode cX8_stuck 61 = .ok (.iload 4, 2) := by decide +kernel
theorem dX8_stuck_63 : decode cX8_stuck 63 = .ok (.aload_n 0, 1) := by decide +kernel
theorem dX8_stuck_64 : decode cX8_stuck 64 = .ok (.getfield 180, 3) := by decide +kernel
theorem dX8_stuck_67 : decode cX8_stuck 67 = .ok (.if_icmp .ge 39, 3) := by decide +kernel
theorem dX8_stuck_70 : decode cX8_stuck 70 = .ok (.iload_n 2, 1) := by decide +kernel
theorem dX8_stuck_71 : decode cX8_stuck 71 = .ok (.iload_n 3, 1) := by decide +kernel
theorem dX8_stuck_72 : decode cX8_stuck 72 = .ok (.iload 4, 2) := by decide +kernel
theorem dX8_stuck_74 : decode cX8_stuck 74 = .ok (.invokestatic 252, 3) := by decide +kernel
theorem dX8_stuck_77 : decode cX8_stuck 77 = .ok (.ifCond .eq 20, 3) := by decide +kernel
theorem dX8_stuck_80 : decode cX8_stuck 80 = .ok (.aload_n 0, 1) := by decide +kernel
theorem dX8_stuck_81 : decode cX8_stuck 81 = .ok (.getfield 77, 3) := by decide +kernel
theorem dX8_stuck_84 : decode cX8_stuck 84 = .ok (.iload 4, 2) := by decide +kernel
theorem dX8_stuck_86 : decode cX8_stuck 86 = .ok (.iaload, 1) := by decide +kernel
theorem dX8_stuck_87 : decode cX8_stuck 87 = .ok (.ifCond .ne 10, 3) := by decide +kernel
theorem dX8_stuck_90 : decode cX8_stuck 90 = .ok (.iconst 1, 1) := by decide +kernel
theorem dX8_stuck_91 : decode cX8_stuck 91 = .ok (.iload 4, 2) := by decide +kernel
theorem dX8_stuck_93 : decode cX8_stuck 93 = .ok (.ishl, 1) := by decide +kernel
theorem dX8_stuck_94 : decode cX8_stuck 94 = .ok (.goto 4, 3) := by decide +kernel
theorem dX8_stuck_97 : decode cX8_stuck 97 = .ok (.iconst 0, 1) := by decide +kernel
theorem dX8_stuck_98 : decode cX8_stuck 98 = .ok (.ior, 1) := by decide +kernel
theorem dX8_stuck_99 : decode cX8_stuck 99 = .ok (.istore_n 2, 1) := by decide +kernel
theorem dX8_stuck_100 : decode cX8_stuck 100 = .ok (.iinc 4 1, 3) := by decide +kernel
theorem dX8_stuck_103 : decode cX8_stuck 103 = .ok (.goto (-42), 3) := by decide +kernel
theorem dX8_stuck_106 : decode cX8_stuck 106 = .ok (.aload_n 0, 1) := by decide +kernel
theorem dX8_stuck_107 : decode cX8_stuck 107 = .ok (.iload_n 2, 1) := by decide +kernel
theorem dX8_stuck_108 : decode cX8_stuck 108 = .ok (.iload_n 3, 1) := by decide +kernel
theorem dX8_stuck_109 : decode cX8_stuck 109 = .ok (.invokevirtual 134, 3) := by decide +kernel
theorem dX8_stuck_112 : decode cX8_stuck 112 = .ok (.ireturn, 1) := by decide +kernel
theorem dX8_helps_0 : decode cX8_helps 0 = .ok (.iload_n 1, 1) := by decide +kernel
theorem dX8_helps_1 : decode cX8_helps 1 = .ok (.iload_n 2, 1) := by decide +kernel
theorem dX8_helps_2 : decode cX8_helps 2 = .ok (.if_icmp .eq 15, 3) := by decide +kernel
theorem dX8_helps_5 : decode cX8_helps 5 = .ok (.aload_n 0, 1) := by decide +kernel
theorem dX8_helps_6 : decode cX8_helps 6 = .ok (.iload_n 1, 1) := by decide +kernel
theorem dX8_helps_7 : decode cX8_helps 7 = .ok (.invokevirtual 237, 3) := by decide +kernel
theorem dX8_helps_10 : decode cX8_helps 10 = .ok (.ifCond .eq 7, 3) := by decide +kernel
theorem dX8_helps_13 : decode cX8_helps 13 = .ok (.iconst 1, 1) := by decide +kernel
theorem dX8_helps_14 : decode cX8_helps 14 = .ok (.goto 4, 3) := by decide +kernel
theorem dX8_helps_17 : decode cX8_helps 17 = .ok (.iconst 0, 1) := by decide +kernel
theorem dX8_helps_18 : decode cX8_helps 18 = .ok (.istore_n 3, 1) := by decide +kernel
theorem dX8_helps_19 : decode cX8_helps 19 = .ok (.iconst 0, 1) := by decide +kernel
theorem dX8_helps_20 : decode cX8_helps 20 = .ok (.istore 4, 2) := by decide +kernel
theorem dX8_helps_22 : decode cX8_helps 22 = .ok (.iload 4, 2) := by decide +kernel
theorem dX8_helps_24 : decode cX8_helps 24 = .ok (.aload_n 0, 1) := by decide +kernel
theorem dX8_helps_25 : decode cX8_helps 25 = .ok (.getfield 183, 3) := by decide +kernel
theorem dX8_helps_28 : decode cX8_helps 28 = .ok (.if_icmp .ge 103, 3) := by decide +kernel
theorem dX8_helps_31 : decode cX8_helps 31 = .ok (.iconst 0, 1) := by decide +kernel
theorem dX8_helps_32 : decode cX8_helps 32 = .ok (.istore 5, 2) := by decide +kernel
theorem dX8_helps_34 : decode cX8_helps 34 = .ok (.iload 5, 2) := by decide +kernel
theorem dX8_helps_36 : decode cX8_helps 36 = .ok (.aload_n 0, 1) := by decide +kernel
theorem dX8_helps_37 : decode cX8_helps 37 = .ok (.getfield 183, 3) := by decide +kernel
theorem dX8_helps_40 : decode cX8_helps 40 = .ok (.if_icmp .ge 85, 3) := by decide +kernel
theorem dX8_helps_43 : decode cX8_helps 43 = .ok (.aload_n 0, 1) := by decide +kernel
theorem dX8_helps_44 : decode cX8_helps 44 = .ok (.getfield 32, 3) := by decide +kernel
theorem dX8_helps_47 : decode cX8_helps 47 = .ok (.iload 4, 2) := by decide +kernel
theorem dX8_helps_49 : decode cX8_helps 49 = .ok (.iaload, 1) := by decide +kernel
theorem dX8_helps_50 : decode cX8_helps 50 = .ok (.iload_n 1, 1) := by decide +kernel
theorem dX8_helps_51 : decode cX8_helps 51 = .ok (.if_icmp .ne 18, 3) := by decide +kernel
theorem dX8_helps_54 : decode cX8_helps 54 = .ok (.aload_n 0, 1) := by decide +kernel
theorem dX8_helps_55 : decode cX8_helps 55 = .ok (.getfield 32, 3) := by decide +kernel
theorem dX8_helps_58 : decode cX8_helps 58 = .ok (.iload 5, 2) := by decide +kernel
theorem dX8_helps_60 : decode cX8_helps 60 = .ok (.iaload, 1) := by decide +kernel
theorem dX8_helps_61 : decode cX8_helps 61 = .ok (.iload_n 2, 1) := by decide +kernel
theorem dX8_helps_62 : decode cX8_helps 62 = .ok (.if_icmp .ne 7, 3) := by decide +kernel
theorem dX8_helps_65 : decode cX8_helps 65 = .ok (.iconst 1, 1) := by decide +kernel
theorem dX8_helps_66 : decode cX8_helps 66 = .ok (.goto 4, 3) := by decide +kernel
theorem dX8_helps_69 : decode cX8_helps 69 = .ok (.iconst 0, 1) := by decide +kernel
theorem dX8_helps_70 : decode cX8_helps 70 = .ok (.istore 6, 2) := by decide +kernel
theorem dX8_helps_72 : decode cX8_helps 72 = .ok (.iload_n 3, 1) := by decide +kernel
theorem dX8_helps_73 : decode cX8_helps 73 = .ok (.ifCond .eq 44, 3) := by decide +kernel
theorem dX8_helps_76 : decode cX8_helps 76 = .ok (.iload 6, 2) := by decide +kernel
theorem dX8_helps_78 : decode cX8_helps 78 = .ok (.ifCond .eq 35, 3) := by decide +kernel
theorem dX8_helps_81 : decode cX8_helps 81 = .ok (.aload_n 0, 1) := by decide +kernel
theorem dX8_helps_82 : decode cX8_helps 82 = .ok (.getfield 74, 3) := by decide +kernel
theorem dX8_helps_85 : decode cX8_helps 85 = .ok (.bipush 12, 2) := by decide +kernel
theorem dX8_helps_87 : decode cX8_helps 87 = .ok (.iload 4, 2) := by decide +kernel
theorem dX8_helps_89 : decode cX8_helps 89 = .ok (.imul, 1) := by decide +kernel
theorem dX8_helps_90 : decode cX8_helps 90 = .ok (.iload 5, 2) := by decide +kernel
theorem dX8_helps_92 : decode cX8_helps 92 = .ok (.iadd, 1) := by decide +kernel
theorem dX8_helps_93 : decode cX8_helps 93 = .ok (.iaload, 1) := by decide +kernel
theorem dX8_helps_94 : decode cX8_helps 94 = .ok (.ifCond .lt 23, 3) := by decide +kernel
theorem dX8_helps_97 : decode cX8_helps 97 = .ok (.aload_n 0, 1) := by decide +kernel
theorem dX8_helps_98 : decode cX8_helps 98 = .ok (.getfield 74, 3) := by decide +kernel
theorem dX8_helps_101 : decode cX8_helps 101 = .ok (.bipush 12, 2) := by decide +kernel
theorem dX8_helps_103 : decode cX8_helps 103 = .ok (.iload 5, 2) := by decide +kernel
theorem dX8_helps_105 : decode cX8_helps 105 = .ok (.imul, 1) := by decide +kernel
theorem dX8_helps_106 : decode cX8_helps 106 = .ok (.iload 4, 2) := by decide +kernel
theorem dX8_helps_108 : decode cX8_helps 108 = .ok (.iadd, 1) := by decide +kernel
theorem dX8_helps_109 : decode cX8_helps 109 = .ok (.iaload, 1) := by decide +kernel
theorem dX8_helps_110 : decode cX8_helps 110 = .ok (.ifCond .lt 7, 3) := by decide +kernel
theorem dX8_helps_113 : decode cX8_helps 113 = .ok (.iconst 1, 1) := by decide +kernel
theorem dX8_helps_114 : decode cX8_helps 114 = .ok (.goto 4, 3) := by decide +kernel
theorem dX8_helps_117 : decode cX8_helps 117 = .ok (.iconst 0, 1) := by decide +kernel
theorem dX8_helps_118 : decode cX8_helps 118 = .ok (.istore_n 3, 1) := by decide +kernel
theorem dX8_helps_119 : decode cX8_helps 119 = .ok (.iinc 5 1, 3) := by decide +kernel
theorem dX8_helps_122 : decode cX8_helps 122 = .ok (.goto (-88), 3) := by decide +kernel
theorem dX8_helps_125 : decode cX8_helps 125 = .ok (.iinc 4 1, 3) := by decide +kernel
theorem dX8_helps_128 : decode cX8_helps 128 = .ok (.goto (-106), 3) := by decide +kernel
theorem dX8_helps_131 : decode cX8_helps 131 = .ok (.iload_n 3, 1) := by decide +kernel
theorem dX8_helps_132 : decode cX8_helps 132 = .ok (.ireturn, 1) := by decide +kernel
theorem dX8_hasKeyOf_0 : decode cX8_hasKeyOf 0 = .ok (.iconst 0, 1) := by decide +kernel
theorem dX8_hasKeyOf_1 : decode cX8_hasKeyOf 1 = .ok (.istore_n 3, 1) := by decide +kernel
theorem dX8_hasKeyOf_2 : decode cX8_hasKeyOf 2 = .ok (.iconst 0, 1) := by decide +kernel
theorem dX8_hasKeyOf_3 : decode cX8_hasKeyOf 3 = .ok (.istore 4, 2) := by decide +kernel
theorem dX8_hasKeyOf_5 : decode cX8_hasKeyOf 5 = .ok (.iload 4, 2) := by decide +kernel
theorem dX8_hasKeyOf_7 : decode cX8_hasKeyOf 7 = .ok (.aload_n 0, 1) := by decide +kernel
theorem dX8_hasKeyOf_8 : decode cX8_hasKeyOf 8 = .ok (.getfield 183, 3) := by decide +kernel
theorem dX8_hasKeyOf_11 : decode cX8_hasKeyOf 11 = .ok (.if_icmp .ge 46, 3) := by decide +kernel
theorem dX8_hasKeyOf_14 : decode cX8_hasKeyOf 14 = .ok (.iload_n 3, 1) := by decide +kernel
theorem dX8_hasKeyOf_15 : decode cX8_hasKeyOf 15 = .ok (.ifCond .ne 30, 3) := by decide +kernel
theorem dX8_hasKeyOf_18 : decode cX8_hasKeyOf 18 = .ok (.aload_n 0, 1) := by decide +kernel
theorem dX8_hasKeyOf_19 : decode cX8_hasKeyOf 19 = .ok (.getfield 32, 3) := by decide +kernel
theorem dX8_hasKeyOf_22 : decode cX8_hasKeyOf 22 = .ok (.iload 4, 2) := by decide +kernel
theorem dX8_hasKeyOf_24 : decode cX8_hasKeyOf 24 = .ok (.iaload, 1) := by decide +kernel
theorem dX8_hasKeyOf_25 : decode cX8_hasKeyOf 25 = .ok (.iload_n 1, 1) := by decide +kernel
theorem dX8_hasKeyOf_26 : decode cX8_hasKeyOf 26 = .ok (.if_icmp .ne 23, 3) := by decide +kernel
theorem dX8_hasKeyOf_29 : decode cX8_hasKeyOf 29 = .ok (.aload_n 0, 1) := by decide +kernel
theorem dX8_hasKeyOf_30 : decode cX8_hasKeyOf 30 = .ok (.iload 4, 2) := by decide +kernel
theorem dX8_hasKeyOf_32 : decode cX8_hasKeyOf 32 = .ok (.invokevirtual 243, 3) := by decide +kernel
theorem dX8_hasKeyOf_35 : decode cX8_hasKeyOf 35 = .ok (.aload_n 0, 1) := by decide +kernel
theorem dX8_hasKeyOf_36 : decode cX8_hasKeyOf 36 = .ok (.getfield 77, 3) := by decide +kernel
theorem dX8_hasKeyOf_39 : decode cX8_hasKeyOf 39 = .ok (.iload_n 2, 1) := by decide +kernel
theorem dX8_hasKeyOf_40 : decode cX8_hasKeyOf 40 = .ok (.iaload, 1) := by decide +kernel
theorem dX8_hasKeyOf_41 : decode cX8_hasKeyOf 41 = .ok (.iand, 1) := by decide +kernel
theorem dX8_hasKeyOf_42 : decode cX8_hasKeyOf 42 = .ok (.ifCond .eq 7, 3) := by decide +kernel
theorem dX8_hasKeyOf_45 : decode cX8_hasKeyOf 45 = .ok (.iconst 1, 1) := by decide +kernel
theorem dX8_hasKeyOf_46 : decode cX8_hasKeyOf 46 = .ok (.goto 4, 3) := by decide +kernel
theorem dX8_hasKeyOf_49 : decode cX8_hasKeyOf 49 = .ok (.iconst 0, 1) := by decide +kernel
theorem dX8_hasKeyOf_50 : decode cX8_hasKeyOf 50 = .ok (.istore_n 3, 1) := by decide +kernel
theorem dX8_hasKeyOf_51 : decode cX8_hasKeyOf 51 = .ok (.iinc 4 1, 3) := by decide +kernel
theorem dX8_hasKeyOf_54 : decode cX8_hasKeyOf 54 = .ok (.goto (-49), 3) := by decide +kernel
theorem dX8_hasKeyOf_57 : decode cX8_hasKeyOf 57 = .ok (.iload_n 3, 1) := by decide +kernel
theorem dX8_hasKeyOf_58 : decode cX8_hasKeyOf 58 = .ok (.ireturn, 1) := by decide +kernel
theorem dX8_layLacks_0 : decode cX8_layLacks 0 = .ok (.iconst 0, 1) := by decide +kernel
theorem dX8_layLacks_1 : decode cX8_layLacks 1 = .ok (.istore_n 2, 1) := by decide +kernel
theorem dX8_layLacks_2 : decode cX8_layLacks 2 = .ok (.iload_n 2, 1) := by decide +kernel
theorem dX8_layLacks_3 : decode cX8_layLacks 3 = .ok (.aload_n 0, 1) := by decide +kernel
theorem dX8_layLacks_4 : decode cX8_layLacks 4 = .ok (.getfield 180, 3) := by decide +kernel
theorem dX8_layLacks_7 : decode cX8_layLacks 7 = .ok (.if_icmp .ge 119, 3) := by decide +kernel
theorem dX8_layLacks_10 : decode cX8_layLacks 10 = .ok (.iconst 0, 1) := by decide +kernel
theorem dX8_layLacks_11 : decode cX8_layLacks 11 = .ok (.istore_n 3, 1) := by decide +kernel
theorem dX8_layLacks_12 : decode cX8_layLacks 12 = .ok (.aload_n 0, 1) := by decide +kernel
theorem dX8_layLacks_13 : decode cX8_layLacks 13 = .ok (.getfield 98, 3) := by decide +kernel
theorem dX8_layLacks_16 : decode cX8_layLacks 16 = .ok (.iload_n 2, 1) := by decide +kernel
theorem dX8_layLacks_17 : decode cX8_layLacks 17 = .ok (.iconst 0, 1) := by decide +kernel
theorem dX8_layLacks_18 : decode cX8_layLacks 18 = .ok (.iastore, 1) := by decide +kernel
theorem dX8_layLacks_19 : decode cX8_layLacks 19 = .ok (.iconst 0, 1) := by decide +kernel
theorem dX8_layLacks_20 : decode cX8_layLacks 20 = .ok (.istore 4, 2) := by decide +kernel
theorem dX8_layLacks_22 : decode cX8_layLacks 22 = .ok (.iload 4, 2) := by decide +kernel
theorem dX8_layLacks_24 : decode cX8_layLacks 24 = .ok (.aload_n 0, 1) := by decide +kernel
theorem dX8_layLacks_25 : decode cX8_layLacks 25 = .ok (.getfield 180, 3) := by decide +kernel
theorem dX8_layLacks_28 : decode cX8_layLacks 28 = .ok (.if_icmp .ge 64, 3) := by decide +kernel
theorem dX8_layLacks_31 : decode cX8_layLacks 31 = .ok (.aload_n 0, 1) := by decide +kernel
theorem dX8_layLacks_32 : decode cX8_layLacks 32 = .ok (.iload 4, 2) := by decide +kernel
theorem dX8_layLacks_34 : decode cX8_layLacks 34 = .ok (.iload_n 2, 1) := by decide +kernel
theorem dX8_layLacks_35 : decode cX8_layLacks 35 = .ok (.invokevirtual 308, 3) := by decide +kernel
theorem dX8_layLacks_38 : decode cX8_layLacks 38 = .ok (.ifCond .eq 48, 3) := by decide +kernel
theorem dX8_layLacks_41 : decode cX8_layLacks 41 = .ok (.iload_n 3, 1) := by decide +kernel
theorem dX8_layLacks_42 : decode cX8_layLacks 42 = .ok (.aload_n 0, 1) := by decide +kernel
theorem dX8_layLacks_43 : decode cX8_layLacks 43 = .ok (.iload 4, 2) := by decide +kernel
theorem dX8_layLacks_45 : decode cX8_layLacks 45 = .ok (.iload_n 2, 1) := by decide +kernel
theorem dX8_layLacks_46 : decode cX8_layLacks 46 = .ok (.invokevirtual 311, 3) := by decide +kernel
theorem dX8_layLacks_49 : decode cX8_layLacks 49 = .ok (.ifCond .eq 7, 3) := by decide +kernel
theorem dX8_layLacks_52 : decode cX8_layLacks 52 = .ok (.iconst 1, 1) := by decide +kernel
theorem dX8_layLacks_53 : decode cX8_layLacks 53 = .ok (.goto 4, 3) := by decide +kernel
theorem dX8_layLacks_56 : decode cX8_layLacks 56 = .ok (.iconst 0, 1) := by decide +kernel
theorem dX8_layLacks_57 : decode cX8_layLacks 57 = .ok (.iadd, 1) := by decide +kernel
theorem dX8_layLacks_58 : decode cX8_layLacks 58 = .ok (.istore_n 3, 1) := by decide +kernel
theorem dX8_layLacks_59 : decode cX8_layLacks 59 = .ok (.aload_n 0, 1) := by decide +kernel
theorem dX8_layLacks_60 : decode cX8_layLacks 60 = .ok (.getfield 98, 3) := by decide +kernel
theorem dX8_layLacks_63 : decode cX8_layLacks 63 = .ok (.iload_n 2, 1) := by decide +kernel
theorem dX8_layLacks_64 : decode cX8_layLacks 64 = .ok (.dup2, 1) := by decide +kernel
theorem dX8_layLacks_65 : decode cX8_layLacks 65 = .ok (.iaload, 1) := by decide +kernel
theorem dX8_layLacks_66 : decode cX8_layLacks 66 = .ok (.aload_n 0, 1) := by decide +kernel
theorem dX8_layLacks_67 : decode cX8_layLacks 67 = .ok (.iload 4, 2) := by decide +kernel
theorem dX8_layLacks_69 : decode cX8_layLacks 69 = .ok (.iload_n 2, 1) := by decide +kernel
theorem dX8_layLacks_70 : decode cX8_layLacks 70 = .ok (.invokevirtual 311, 3) := by decide +kernel
theorem dX8_layLacks_73 : decode cX8_layLacks 73 = .ok (.ifCond .eq 7, 3) := by decide +kernel
theorem dX8_layLacks_76 : decode cX8_layLacks 76 = .ok (.iconst 0, 1) := by decide +kernel
theorem dX8_layLacks_77 : decode cX8_layLacks 77 = .ok (.goto 7, 3) := by decide +kernel
theorem dX8_layLacks_80 : decode cX8_layLacks 80 = .ok (.iconst 1, 1) := by decide +kernel
theorem dX8_layLacks_81 : decode cX8_layLacks 81 = .ok (.iload 4, 2) := by decide +kernel
theorem dX8_layLacks_83 : decode cX8_layLacks 83 = .ok (.ishl, 1) := by decide +kernel
theorem dX8_layLacks_84 : decode cX8_layLacks 84 = .ok (.ior, 1) := by decide +kernel
theorem dX8_layLacks_85 : decode cX8_layLacks 85 = .ok (.iastore, 1) := by decide +kernel
theorem dX8_layLacks_86 : decode cX8_layLacks 86 = .ok (.iinc 4 1, 3) := by decide +kernel
theorem dX8_layLacks_89 : decode cX8_layLacks 89 = .ok (.goto (-67), 3) := by decide +kernel
theorem dX8_layLacks_92 : decode cX8_layLacks 92 = .ok (.aload_n 0, 1) := by decide +kernel
theorem dX8_layLacks_93 : decode cX8_layLacks 93 = .ok (.getfield 95, 3) := by decide +kernel
theorem dX8_layLacks_96 : decode cX8_layLacks 96 = .ok (.iload_n 2, 1) := by decide +kernel
theorem dX8_layLacks_97 : decode cX8_layLacks 97 = .ok (.aload_n 0, 1) := by decide +kernel
theorem dX8_layLacks_98 : decode cX8_layLacks 98 = .ok (.iload_n 2, 1) := by decide +kernel
theorem dX8_layLacks_99 : decode cX8_layLacks 99 = .ok (.invokevirtual 237, 3) := by decide +kernel
theorem dX8_layLacks_102 : decode cX8_layLacks 102 = .ok (.ifCond .eq 8, 3) := by decide +kernel
theorem dX8_layLacks_105 : decode cX8_layLacks 105 = .ok (.iload_n 3, 1) := by decide +kernel
theorem dX8_layLacks_106 : decode cX8_layLacks 106 = .ok (.iload_n 1, 1) := by decide +kernel
theorem dX8_layLacks_107 : decode cX8_layLacks 107 = .ok (.if_icmp .le 7, 3) := by decide +kernel
theorem dX8_layLacks_110 : decode cX8_layLacks 110 = .ok (.iconst 0, 1) := by decide +kernel
theorem dX8_layLacks_111 : decode cX8_layLacks 111 = .ok (.goto 8, 3) := by decide +kernel
theorem dX8_layLacks_114 : decode cX8_layLacks 114 = .ok (.iload_n 1, 1) := by decide +kernel
theorem dX8_layLacks_115 : decode cX8_layLacks 115 = .ok (.iconst 1, 1) := by decide +kernel
theorem dX8_layLacks_116 : decode cX8_layLacks 116 = .ok (.iadd, 1) := by decide +kernel
theorem dX8_layLacks_117 : decode cX8_layLacks 117 = .ok (.iload_n 3, 1) := by decide +kernel
theorem dX8_layLacks_118 : decode cX8_layLacks 118 = .ok (.isub, 1) := by decide +kernel
theorem dX8_layLacks_119 : decode cX8_layLacks 119 = .ok (.iastore, 1) := by decide +kernel
theorem dX8_layLacks_120 : decode cX8_layLacks 120 = .ok (.iinc 2 1, 3) := by decide +kernel
theorem dX8_layLacks_123 : decode cX8_layLacks 123 = .ok (.goto (-121), 3) := by decide +kernel
theorem dX8_layLacks_126 : decode cX8_layLacks 126 = .ok (.return_, 1) := by decide +kernel
theorem dX8_isLittle_0 : decode cX8_isLittle 0 = .ok (.iconst 1, 1) := by decide +kernel
theorem dX8_isLittle_1 : decode cX8_isLittle 1 = .ok (.istore_n 3, 1) := by decide +kernel
theorem dX8_isLittle_2 : decode cX8_isLittle 2 = .ok (.iconst 0, 1) := by decide +kernel
theorem dX8_isLittle_3 : decode cX8_isLittle 3 = .ok (.istore 4, 2) := by decide +kernel
theorem dX8_isLittle_5 : decode cX8_isLittle 5 = .ok (.iload 4, 2) := by decide +kernel
theorem dX8_isLittle_7 : decode cX8_isLittle 7 = .ok (.aload_n 0, 1) := by decide +kernel
theorem dX8_isLittle_8 : decode cX8_isLittle 8 = .ok (.getfield 180, 3) := by decide +kernel
theorem dX8_isLittle_11 : decode cX8_isLittle 11 = .ok (.if_icmp .ge 68, 3) := by decide +kernel
theorem dX8_isLittle_14 : decode cX8_isLittle 14 = .ok (.iconst 0, 1) := by decide +kernel
theorem dX8_isLittle_15 : decode cX8_isLittle 15 = .ok (.istore 5, 2) := by decide +kernel
theorem dX8_isLittle_17 : decode cX8_isLittle 17 = .ok (.iconst 0, 1) := by decide +kernel
theorem dX8_isLittle_18 : decode cX8_isLittle 18 = .ok (.istore 6, 2) := by decide +kernel
theorem dX8_isLittle_20 : decode cX8_isLittle 20 = .ok (.iload 6, 2) := by decide +kernel
theorem dX8_isLittle_22 : decode cX8_isLittle 22 = .ok (.iload_n 1, 1) := by decide +kernel
theorem dX8_isLittle_23 : decode cX8_isLittle 23 = .ok (.if_icmp .gt 34, 3) := by decide +kernel
theorem dX8_isLittle_26 : decode cX8_isLittle 26 = .ok (.iload 5, 2) := by decide +kernel
theorem dX8_isLittle_28 : decode cX8_isLittle 28 = .ok (.aload_n 0, 1) := by decide +kernel
theorem dX8_isLittle_29 : decode cX8_isLittle 29 = .ok (.getfield 101, 3) := by decide +kernel
theorem dX8_isLittle_32 : decode cX8_isLittle 32 = .ok (.iload 6, 2) := by decide +kernel
theorem dX8_isLittle_34 : decode cX8_isLittle 34 = .ok (.iaload, 1) := by decide +kernel
theorem dX8_isLittle_35 : decode cX8_isLittle 35 = .ok (.iload 4, 2) := by decide +kernel
theorem dX8_isLittle_37 : decode cX8_isLittle 37 = .ok (.invokestatic 252, 3) := by decide +kernel
theorem dX8_isLittle_40 : decode cX8_isLittle 40 = .ok (.ifCond .eq 7, 3) := by decide +kernel
theorem dX8_isLittle_43 : decode cX8_isLittle 43 = .ok (.iconst 1, 1) := by decide +kernel
theorem dX8_isLittle_44 : decode cX8_isLittle 44 = .ok (.goto 4, 3) := by decide +kernel
theorem dX8_isLittle_47 : decode cX8_isLittle 47 = .ok (.iconst 0, 1) := by decide +kernel
theorem dX8_isLittle_48 : decode cX8_isLittle 48 = .ok (.iadd, 1) := by decide +kernel
theorem dX8_isLittle_49 : decode cX8_isLittle 49 = .ok (.istore 5, 2) := by decide +kernel
theorem dX8_isLittle_51 : decode cX8_isLittle 51 = .ok (.iinc 6 1, 3) := by decide +kernel
theorem dX8_isLittle_54 : decode cX8_isLittle 54 = .ok (.goto (-34), 3) := by decide +kernel
theorem dX8_isLittle_57 : decode cX8_isLittle 57 = .ok (.iload_n 3, 1) := by decide +kernel
theorem dX8_isLittle_58 : decode cX8_isLittle 58 = .ok (.ifCond .eq 13, 3) := by decide +kernel
theorem dX8_isLittle_61 : decode cX8_isLittle 61 = .ok (.iload 5, 2) := by decide +kernel
theorem dX8_isLittle_63 : decode cX8_isLittle 63 = .ok (.iload_n 2, 1) := by decide +kernel
theorem dX8_isLittle_64 : decode cX8_isLittle 64 = .ok (.if_icmp .gt 7, 3) := by decide +kernel
theorem dX8_isLittle_67 : decode cX8_isLittle 67 = .ok (.iconst 1, 1) := by decide +kernel
theorem dX8_isLittle_68 : decode cX8_isLittle 68 = .ok (.goto 4, 3) := by decide +kernel
theorem dX8_isLittle_71 : decode cX8_isLittle 71 = .ok (.iconst 0, 1) := by decide +kernel
theorem dX8_isLittle_72 : decode cX8_isLittle 72 = .ok (.istore_n 3, 1) := by decide +kernel
theorem dX8_isLittle_73 : decode cX8_isLittle 73 = .ok (.iinc 4 1, 3) := by decide +kernel
theorem dX8_isLittle_76 : decode cX8_isLittle 76 = .ok (.goto (-71), 3) := by decide +kernel
theorem dX8_isLittle_79 : decode cX8_isLittle 79 = .ok (.iload_n 3, 1) := by decide +kernel
theorem dX8_isLittle_80 : decode cX8_isLittle 80 = .ok (.ireturn, 1) := by decide +kernel
theorem dX8_safe_0 : decode cX8_safe 0 = .ok (.iload_n 1, 1) := by decide +kernel
theorem dX8_safe_1 : decode cX8_safe 1 = .ok (.iconst 1, 1) := by decide +kernel
theorem dX8_safe_2 : decode cX8_safe 2 = .ok (.iconst 2, 1) := by decide +kernel
theorem dX8_safe_3 : decode cX8_safe 3 = .ok (.invokestatic 112, 3) := by decide +kernel
theorem dX8_safe_6 : decode cX8_safe 6 = .ok (.ifCond .eq 20, 3) := by decide +kernel
theorem dX8_safe_9 : decode cX8_safe 9 = .ok (.iload_n 2, 1) := by decide +kernel
theorem dX8_safe_10 : decode cX8_safe 10 = .ok (.iconst 0, 1) := by decide +kernel
theorem dX8_safe_11 : decode cX8_safe 11 = .ok (.bipush 9, 2) := by decide +kernel
theorem dX8_safe_13 : decode cX8_safe 13 = .ok (.invokestatic 112, 3) := by decide +kernel
theorem dX8_safe_16 : decode cX8_safe 16 = .ok (.ifCond .eq 10, 3) := by decide +kernel
theorem dX8_safe_19 : decode cX8_safe 19 = .ok (.iload_n 3, 1) := by decide +kernel
theorem dX8_safe_20 : decode cX8_safe 20 = .ok (.invokestatic 122, 3) := by decide +kernel
theorem dX8_safe_23 : decode cX8_safe 23 = .ok (.ifCond .ne 5, 3) := by decide +kernel
theorem dX8_safe_26 : decode cX8_safe 26 = .ok (.iconst (-1), 1) := by decide +kernel
theorem dX8_safe_27 : decode cX8_safe 27 = .ok (.ireturn, 1) := by decide +kernel
theorem dX8_safe_28 : decode cX8_safe 28 = .ok (.aload_n 0, 1) := by decide +kernel
theorem dX8_safe_29 : decode cX8_safe 29 = .ok (.iload_n 1, 1) := by decide +kernel
theorem dX8_safe_30 : decode cX8_safe 30 = .ok (.invokevirtual 314, 3) := by decide +kernel
theorem dX8_safe_33 : decode cX8_safe 33 = .ok (.iconst 0, 1) := by decide +kernel
theorem dX8_safe_34 : decode cX8_safe 34 = .ok (.istore 4, 2) := by decide +kernel
theorem dX8_safe_36 : decode cX8_safe 36 = .ok (.iconst 1, 1) := by decide +kernel
theorem dX8_safe_37 : decode cX8_safe 37 = .ok (.aload_n 0, 1) := by decide +kernel
theorem dX8_safe_38 : decode cX8_safe 38 = .ok (.getfield 180, 3) := by decide +kernel
theorem dX8_safe_41 : decode cX8_safe 41 = .ok (.ishl, 1) := by decide +kernel
theorem dX8_safe_42 : decode cX8_safe 42 = .ok (.iconst 1, 1) := by decide +kernel
theorem dX8_safe_43 : decode cX8_safe 43 = .ok (.isub, 1) := by decide +kernel
theorem dX8_safe_44 : decode cX8_safe 44 = .ok (.istore 5, 2) := by decide +kernel
theorem dX8_safe_46 : decode cX8_safe 46 = .ok (.aload_n 0, 1) := by decide +kernel
theorem dX8_safe_47 : decode cX8_safe 47 = .ok (.getfield 101, 3) := by decide +kernel
theorem dX8_safe_50 : decode cX8_safe 50 = .ok (.iconst 0, 1) := by decide +kernel
theorem dX8_safe_51 : decode cX8_safe 51 = .ok (.iconst (-1), 1) := by decide +kernel
theorem dX8_safe_52 : decode cX8_safe 52 = .ok (.iastore, 1) := by decide +kernel
theorem dX8_safe_53 : decode cX8_safe 53 = .ok (.iload 4, 2) := by decide +kernel
theorem dX8_safe_55 : decode cX8_safe 55 = .ok (.ifCond .lt 138, 3) := by decide +kernel
theorem dX8_safe_58 : decode cX8_safe 58 = .ok (.iload 4, 2) := by decide +kernel
theorem dX8_safe_60 : decode cX8_safe 60 = .ok (.aload_n 0, 1) := by decide +kernel
theorem dX8_safe_61 : decode cX8_safe 61 = .ok (.getfield 180, 3) := by decide +kernel
theorem dX8_safe_64 : decode cX8_safe 64 = .ok (.if_icmp .ge 129, 3) := by decide +kernel
theorem dX8_safe_67 : decode cX8_safe 67 = .ok (.aload_n 0, 1) := by decide +kernel
theorem dX8_safe_68 : decode cX8_safe 68 = .ok (.getfield 101, 3) := by decide +kernel
theorem dX8_safe_71 : decode cX8_safe 71 = .ok (.iload 4, 2) := by decide +kernel
theorem dX8_safe_73 : decode cX8_safe 73 = .ok (.iaload, 1) := by decide +kernel
theorem dX8_safe_74 : decode cX8_safe 74 = .ok (.iconst 1, 1) := by decide +kernel
theorem dX8_safe_75 : decode cX8_safe 75 = .ok (.iadd, 1) := by decide +kernel
theorem dX8_safe_76 : decode cX8_safe 76 = .ok (.istore 6, 2) := by decide +kernel
theorem dX8_safe_78 : decode cX8_safe 78 = .ok (.aload_n 0, 1) := by decide +kernel
theorem dX8_safe_79 : decode cX8_safe 79 = .ok (.getfield 101, 3) := by decide +kernel
theorem dX8_safe_82 : decode cX8_safe 82 = .ok (.iload 4, 2) := by decide +kernel
theorem dX8_safe_84 : decode cX8_safe 84 = .ok (.iload 6, 2) := by decide +kernel
theorem dX8_safe_86 : decode cX8_safe 86 = .ok (.iastore, 1) := by decide +kernel
theorem dX8_safe_87 : decode cX8_safe 87 = .ok (.iload 6, 2) := by decide +kernel
theorem dX8_safe_89 : decode cX8_safe 89 = .ok (.iload 5, 2) := by decide +kernel
theorem dX8_safe_91 : decode cX8_safe 91 = .ok (.if_icmp .gt 58, 3) := by decide +kernel
theorem dX8_safe_94 : decode cX8_safe 94 = .ok (.iload 6, 2) := by decide +kernel
theorem dX8_safe_96 : decode cX8_safe 96 = .ok (.aload_n 0, 1) := by decide +kernel
theorem dX8_safe_97 : decode cX8_safe 97 = .ok (.getfield 98, 3) := by decide +kernel
theorem dX8_safe_100 : decode cX8_safe 100 = .ok (.iload 4, 2) := by decide +kernel
theorem dX8_safe_102 : decode cX8_safe 102 = .ok (.iaload, 1) := by decide +kernel
theorem dX8_safe_103 : decode cX8_safe 103 = .ok (.iconst (-1), 1) := by decide +kernel
theorem dX8_safe_104 : decode cX8_safe 104 = .ok (.ixor, 1) := by decide +kernel
theorem dX8_safe_105 : decode cX8_safe 105 = .ok (.iand, 1) := by decide +kernel
theorem dX8_safe_106 : decode cX8_safe 106 = .ok (.ifCond .ne 28, 3) := by decide +kernel
theorem dX8_safe_109 : decode cX8_safe 109 = .ok (.iload 6, 2) := by decide +kernel
theorem dX8_safe_111 : decode cX8_safe 111 = .ok (.invokestatic 268, 3) := by decide +kernel
theorem dX8_safe_114 : decode cX8_safe 114 = .ok (.aload_n 0, 1) := by decide +kernel
theorem dX8_safe_115 : decode cX8_safe 115 = .ok (.getfield 95, 3) := by decide +kernel
theorem dX8_safe_118 : decode cX8_safe 118 = .ok (.iload 4, 2) := by decide +kernel
theorem dX8_safe_120 : decode cX8_safe 120 = .ok (.iaload, 1) := by decide +kernel
theorem dX8_safe_121 : decode cX8_safe 121 = .ok (.if_icmp .ne 13, 3) := by decide +kernel
theorem dX8_safe_124 : decode cX8_safe 124 = .ok (.aload_n 0, 1) := by decide +kernel
theorem dX8_safe_125 : decode cX8_safe 125 = .ok (.iload 4, 2) := by decide +kernel
theorem dX8_safe_127 : decode cX8_safe 127 = .ok (.iload_n 2, 1) := by decide +kernel
theorem dX8_safe_128 : decode cX8_safe 128 = .ok (.invokevirtual 317, 3) := by decide +kernel
theorem dX8_safe_131 : decode cX8_safe 131 = .ok (.ifCond .ne 18, 3) := by decide +kernel
theorem dX8_safe_134 : decode cX8_safe 134 = .ok (.iinc 6 1, 3) := by decide +kernel
theorem dX8_safe_137 : decode cX8_safe 137 = .ok (.aload_n 0, 1) := by decide +kernel
theorem dX8_safe_138 : decode cX8_safe 138 = .ok (.getfield 101, 3) := by decide +kernel
theorem dX8_safe_141 : decode cX8_safe 141 = .ok (.iload 4, 2) := by decide +kernel
theorem dX8_safe_143 : decode cX8_safe 143 = .ok (.iload 6, 2) := by decide +kernel
theorem dX8_safe_145 : decode cX8_safe 145 = .ok (.iastore, 1) := by decide +kernel
theorem dX8_safe_146 : decode cX8_safe 146 = .ok (.goto (-59), 3) := by decide +kernel
theorem dX8_safe_149 : decode cX8_safe 149 = .ok (.iload 4, 2) := by decide +kernel
theorem dX8_safe_151 : decode cX8_safe 151 = .ok (.iload 6, 2) := by decide +kernel
theorem dX8_safe_153 : decode cX8_safe 153 = .ok (.iload 5, 2) := by decide +kernel
theorem dX8_safe_155 : decode cX8_safe 155 = .ok (.if_icmp .gt 7, 3) := by decide +kernel
theorem dX8_safe_158 : decode cX8_safe 158 = .ok (.iconst 1, 1) := by decide +kernel
theorem dX8_safe_159 : decode cX8_safe 159 = .ok (.goto 4, 3) := by decide +kernel
theorem dX8_safe_162 : decode cX8_safe 162 = .ok (.iconst (-1), 1) := by decide +kernel
theorem dX8_safe_163 : decode cX8_safe 163 = .ok (.iadd, 1) := by decide +kernel
theorem dX8_safe_164 : decode cX8_safe 164 = .ok (.istore 4, 2) := by decide +kernel
theorem dX8_safe_166 : decode cX8_safe 166 = .ok (.iload 6, 2) := by decide +kernel
theorem dX8_safe_168 : decode cX8_safe 168 = .ok (.iload 5, 2) := by decide +kernel
theorem dX8_safe_170 : decode cX8_safe 170 = .ok (.if_icmp .gt 20, 3) := by decide +kernel
theorem dX8_safe_173 : decode cX8_safe 173 = .ok (.iload 4, 2) := by decide +kernel
theorem dX8_safe_175 : decode cX8_safe 175 = .ok (.aload_n 0, 1) := by decide +kernel
theorem dX8_safe_176 : decode cX8_safe 176 = .ok (.getfield 180, 3) := by decide +kernel
theorem dX8_safe_179 : decode cX8_safe 179 = .ok (.if_icmp .ge 11, 3) := by decide +kernel
theorem dX8_safe_182 : decode cX8_safe 182 = .ok (.aload_n 0, 1) := by decide +kernel
theorem dX8_safe_183 : decode cX8_safe 183 = .ok (.getfield 101, 3) := by decide +kernel
theorem dX8_safe_186 : decode cX8_safe 186 = .ok (.iload 4, 2) := by decide +kernel
theorem dX8_safe_188 : decode cX8_safe 188 = .ok (.iconst (-1), 1) := by decide +kernel
theorem dX8_safe_189 : decode cX8_safe 189 = .ok (.iastore, 1) := by decide +kernel
theorem dX8_safe_190 : decode cX8_safe 190 = .ok (.goto (-137), 3) := by decide +kernel
theorem dX8_safe_193 : decode cX8_safe 193 = .ok (.iload 4, 2) := by decide +kernel
theorem dX8_safe_195 : decode cX8_safe 195 = .ok (.ifCond .ge 6, 3) := by decide +kernel
theorem dX8_safe_198 : decode cX8_safe 198 = .ok (.bipush (-9), 2) := by decide +kernel
theorem dX8_safe_200 : decode cX8_safe 200 = .ok (.ireturn, 1) := by decide +kernel
theorem dX8_safe_201 : decode cX8_safe 201 = .ok (.aload_n 0, 1) := by decide +kernel
theorem dX8_safe_202 : decode cX8_safe 202 = .ok (.iload_n 3, 1) := by decide +kernel
theorem dX8_safe_203 : decode cX8_safe 203 = .ok (.invokevirtual 320, 3) := by decide +kernel
theorem dX8_safe_206 : decode cX8_safe 206 = .ok (.ireturn, 1) := by decide +kernel
theorem dX8_planTold_0 : decode cX8_planTold 0 = .ok (.iconst 0, 1) := by decide +kernel
theorem dX8_planTold_1 : decode cX8_planTold 1 = .ok (.istore_n 2, 1) := by decide +kernel
theorem dX8_planTold_2 : decode cX8_planTold 2 = .ok (.iconst 0, 1) := by decide +kernel
theorem dX8_planTold_3 : decode cX8_planTold 3 = .ok (.istore_n 3, 1) := by decide +kernel
theorem dX8_planTold_4 : decode cX8_planTold 4 = .ok (.iload_n 3, 1) := by decide +kernel
theorem dX8_planTold_5 : decode cX8_planTold 5 = .ok (.bipush 40, 2) := by decide +kernel
theorem dX8_planTold_7 : decode cX8_planTold 7 = .ok (.if_icmp .ge 21, 3) := by decide +kernel
theorem dX8_planTold_10 : decode cX8_planTold 10 = .ok (.aload_n 0, 1) := by decide +kernel
theorem dX8_planTold_11 : decode cX8_planTold 11 = .ok (.getfield 16, 3) := by decide +kernel
theorem dX8_planTold_14 : decode cX8_planTold 14 = .ok (.bipush 40, 2) := by decide +kernel
theorem dX8_planTold_16 : decode cX8_planTold 16 = .ok (.iload_n 1, 1) := by decide +kernel
theorem dX8_planTold_17 : decode cX8_planTold 17 = .ok (.imul, 1) := by decide +kernel
theorem dX8_planTold_18 : decode cX8_planTold 18 = .ok (.iload_n 3, 1) := by decide +kernel
theorem dX8_planTold_19 : decode cX8_planTold 19 = .ok (.iadd, 1) := by decide +kernel
theorem dX8_planTold_20 : decode cX8_planTold 20 = .ok (.iconst 0, 1) := by decide +kernel
theorem dX8_planTold_21 : decode cX8_planTold 21 = .ok (.iastore, 1) := by decide +kernel
theorem dX8_planTold_22 : decode cX8_planTold 22 = .ok (.iinc 3 1, 3) := by decide +kernel
theorem dX8_planTold_25 : decode cX8_planTold 25 = .ok (.goto (-21), 3) := by decide +kernel
theorem dX8_planTold_28 : decode cX8_planTold 28 = .ok (.iconst 0, 1) := by decide +kernel
theorem dX8_planTold_29 : decode cX8_planTold 29 = .ok (.istore_n 3, 1) := by decide +kernel
theorem dX8_planTold_30 : decode cX8_planTold 30 = .ok (.iload_n 3, 1) := by decide +kernel
theorem dX8_planTold_31 : decode cX8_planTold 31 = .ok (.aload_n 0, 1) := by decide +kernel
theorem dX8_planTold_32 : decode cX8_planTold 32 = .ok (.getfield 180, 3) := by decide +kernel
theorem dX8_planTold_35 : decode cX8_planTold 35 = .ok (.if_icmp .ge 75, 3) := by decide +kernel
theorem dX8_planTold_38 : decode cX8_planTold 38 = .ok (.iconst 0, 1) := by decide +kernel
theorem dX8_planTold_39 : decode cX8_planTold 39 = .ok (.istore 4, 2) := by decide +kernel
theorem dX8_planTold_41 : decode cX8_planTold 41 = .ok (.iload 4, 2) := by decide +kernel
theorem dX8_planTold_43 : decode cX8_planTold 43 = .ok (.aload_n 0, 1) := by decide +kernel
theorem dX8_planTold_44 : decode cX8_planTold 44 = .ok (.getfield 180, 3) := by decide +kernel
theorem dX8_planTold_47 : decode cX8_planTold 47 = .ok (.if_icmp .ge 57, 3) := by decide +kernel
theorem dX8_planTold_50 : decode cX8_planTold 50 = .ok (.aload_n 0, 1) := by decide +kernel
theorem dX8_planTold_51 : decode cX8_planTold 51 = .ok (.getfield 101, 3) := by decide +kernel
theorem dX8_planTold_54 : decode cX8_planTold 54 = .ok (.iload_n 3, 1) := by decide +kernel
theorem dX8_planTold_55 : decode cX8_planTold 55 = .ok (.iaload, 1) := by decide +kernel
theorem dX8_planTold_56 : decode cX8_planTold 56 = .ok (.iload 4, 2) := by decide +kernel
theorem dX8_planTold_58 : decode cX8_planTold 58 = .ok (.invokestatic 252, 3) := by decide +kernel
theorem dX8_planTold_61 : decode cX8_planTold 61 = .ok (.ifCond .eq 37, 3) := by decide +kernel
theorem dX8_planTold_64 : decode cX8_planTold 64 = .ok (.aload_n 0, 1) := by decide +kernel
theorem dX8_planTold_65 : decode cX8_planTold 65 = .ok (.getfield 16, 3) := by decide +kernel
theorem dX8_planTold_68 : decode cX8_planTold 68 = .ok (.bipush 40, 2) := by decide +kernel
theorem dX8_planTold_70 : decode cX8_planTold 70 = .ok (.iload_n 1, 1) := by decide +kernel
theorem dX8_planTold_71 : decode cX8_planTold 71 = .ok (.imul, 1) := by decide +kernel
theorem dX8_planTold_72 : decode cX8_planTold 72 = .ok (.iconst 2, 1) := by decide +kernel
theorem dX8_planTold_73 : decode cX8_planTold 73 = .ok (.iload_n 2, 1) := by decide +kernel
theorem dX8_planTold_74 : decode cX8_planTold 74 = .ok (.imul, 1) := by decide +kernel
theorem dX8_planTold_75 : decode cX8_planTold 75 = .ok (.iadd, 1) := by decide +kernel
theorem dX8_planTold_76 : decode cX8_planTold 76 = .ok (.iload_n 3, 1) := by decide +kernel
theorem dX8_planTold_77 : decode cX8_planTold 77 = .ok (.iastore, 1) := by decide +kernel
theorem dX8_planTold_78 : decode cX8_planTold 78 = .ok (.aload_n 0, 1) := by decide +kernel
theorem dX8_planTold_79 : decode cX8_planTold 79 = .ok (.getfield 16, 3) := by decide +kernel
theorem dX8_planTold_82 : decode cX8_planTold 82 = .ok (.bipush 40, 2) := by decide +kernel
theorem dX8_planTold_84 : decode cX8_planTold 84 = .ok (.iload_n 1, 1) := by decide +kernel
theorem dX8_planTold_85 : decode cX8_planTold 85 = .ok (.imul, 1) := by decide +kernel
theorem dX8_planTold_86 : decode cX8_planTold 86 = .ok (.iconst 2, 1) := by decide +kernel
theorem dX8_planTold_87 : decode cX8_planTold 87 = .ok (.iload_n 2, 1) := by decide +kernel
theorem dX8_planTold_88 : decode cX8_planTold 88 = .ok (.imul, 1) := by decide +kernel
theorem dX8_planTold_89 : decode cX8_planTold 89 = .ok (.iadd, 1) := by decide +kernel
theorem dX8_planTold_90 : decode cX8_planTold 90 = .ok (.iconst 1, 1) := by decide +kernel
theorem dX8_planTold_91 : decode cX8_planTold 91 = .ok (.iadd, 1) := by decide +kernel
theorem dX8_planTold_92 : decode cX8_planTold 92 = .ok (.iload 4, 2) := by decide +kernel
theorem dX8_planTold_94 : decode cX8_planTold 94 = .ok (.iastore, 1) := by decide +kernel
theorem dX8_planTold_95 : decode cX8_planTold 95 = .ok (.iinc 2 1, 3) := by decide +kernel
theorem dX8_planTold_98 : decode cX8_planTold 98 = .ok (.iinc 4 1, 3) := by decide +kernel
theorem dX8_planTold_101 : decode cX8_planTold 101 = .ok (.goto (-60), 3) := by decide +kernel
theorem dX8_planTold_104 : decode cX8_planTold 104 = .ok (.iinc 3 1, 3) := by decide +kernel
theorem dX8_planTold_107 : decode cX8_planTold 107 = .ok (.goto (-77), 3) := by decide +kernel
theorem dX8_planTold_110 : decode cX8_planTold 110 = .ok (.aload_n 0, 1) := by decide +kernel
theorem dX8_planTold_111 : decode cX8_planTold 111 = .ok (.getfield 13, 3) := by decide +kernel
theorem dX8_planTold_114 : decode cX8_planTold 114 = .ok (.iload_n 1, 1) := by decide +kernel
theorem dX8_planTold_115 : decode cX8_planTold 115 = .ok (.iconst 2, 1) := by decide +kernel
theorem dX8_planTold_116 : decode cX8_planTold 116 = .ok (.iload_n 2, 1) := by decide +kernel
theorem dX8_planTold_117 : decode cX8_planTold 117 = .ok (.imul, 1) := by decide +kernel
theorem dX8_planTold_118 : decode cX8_planTold 118 = .ok (.iastore, 1) := by decide +kernel
theorem dX8_planTold_119 : decode cX8_planTold 119 = .ok (.iload_n 2, 1) := by decide +kernel
theorem dX8_planTold_120 : decode cX8_planTold 120 = .ok (.ireturn, 1) := by decide +kernel
theorem dX8_passedLive_0 : decode cX8_passedLive 0 = .ok (.iconst 0, 1) := by decide +kernel
theorem dX8_passedLive_1 : decode cX8_passedLive 1 = .ok (.istore_n 3, 1) := by decide +kernel
theorem dX8_passedLive_2 : decode cX8_passedLive 2 = .ok (.iconst 0, 1) := by decide +kernel
theorem dX8_passedLive_3 : decode cX8_passedLive 3 = .ok (.istore 4, 2) := by decide +kernel
theorem dX8_passedLive_5 : decode cX8_passedLive 5 = .ok (.iload 4, 2) := by decide +kernel
theorem dX8_passedLive_7 : decode cX8_passedLive 7 = .ok (.aload_n 0, 1) := by decide +kernel
theorem dX8_passedLive_8 : decode cX8_passedLive 8 = .ok (.getfield 189, 3) := by decide +kernel
theorem dX8_passedLive_11 : decode cX8_passedLive 11 = .ok (.if_icmp .ge 57, 3) := by decide +kernel
theorem dX8_passedLive_14 : decode cX8_passedLive 14 = .ok (.iload_n 3, 1) := by decide +kernel
theorem dX8_passedLive_15 : decode cX8_passedLive 15 = .ok (.aload_n 0, 1) := by decide +kernel
theorem dX8_passedLive_16 : decode cX8_passedLive 16 = .ok (.iload 4, 2) := by decide +kernel
theorem dX8_passedLive_18 : decode cX8_passedLive 18 = .ok (.invokevirtual 223, 3) := by decide +kernel
theorem dX8_passedLive_21 : decode cX8_passedLive 21 = .ok (.ifCond .eq 38, 3) := by decide +kernel
theorem dX8_passedLive_24 : decode cX8_passedLive 24 = .ok (.aload_n 0, 1) := by decide +kernel
theorem dX8_passedLive_25 : decode cX8_passedLive 25 = .ok (.getfield 65, 3) := by decide +kernel
theorem dX8_passedLive_28 : decode cX8_passedLive 28 = .ok (.iload 4, 2) := by decide +kernel
theorem dX8_passedLive_30 : decode cX8_passedLive 30 = .ok (.iaload, 1) := by decide +kernel
theorem dX8_passedLive_31 : decode cX8_passedLive 31 = .ok (.iload_n 1, 1) := by decide +kernel
theorem dX8_passedLive_32 : decode cX8_passedLive 32 = .ok (.invokestatic 252, 3) := by decide +kernel
theorem dX8_passedLive_35 : decode cX8_passedLive 35 = .ok (.ifCond .eq 24, 3) := by decide +kernel
theorem dX8_passedLive_38 : decode cX8_passedLive 38 = .ok (.iload_n 2, 1) := by decide +kernel
theorem dX8_passedLive_39 : decode cX8_passedLive 39 = .ok (.aload_n 0, 1) := by decide +kernel
theorem dX8_passedLive_40 : decode cX8_passedLive 40 = .ok (.getfield 53, 3) := by decide +kernel
theorem dX8_passedLive_43 : decode cX8_passedLive 43 = .ok (.iload 4, 2) := by decide +kernel
theorem dX8_passedLive_45 : decode cX8_passedLive 45 = .ok (.iaload, 1) := by decide +kernel
theorem dX8_passedLive_46 : decode cX8_passedLive 46 = .ok (.invokestatic 252, 3) := by decide +kernel
theorem dX8_passedLive_49 : decode cX8_passedLive 49 = .ok (.ifCond .eq 10, 3) := by decide +kernel
theorem dX8_passedLive_52 : decode cX8_passedLive 52 = .ok (.iconst 1, 1) := by decide +kernel
theorem dX8_passedLive_53 : decode cX8_passedLive 53 = .ok (.iload 4, 2) := by decide +kernel
theorem dX8_passedLive_55 : decode cX8_passedLive 55 = .ok (.ishl, 1) := by decide +kernel
theorem dX8_passedLive_56 : decode cX8_passedLive 56 = .ok (.goto 4, 3) := by decide +kernel
theorem dX8_passedLive_59 : decode cX8_passedLive 59 = .ok (.iconst 0, 1) := by decide +kernel
theorem dX8_passedLive_60 : decode cX8_passedLive 60 = .ok (.ior, 1) := by decide +kernel
theorem dX8_passedLive_61 : decode cX8_passedLive 61 = .ok (.istore_n 3, 1) := by decide +kernel
theorem dX8_passedLive_62 : decode cX8_passedLive 62 = .ok (.iinc 4 1, 3) := by decide +kernel
theorem dX8_passedLive_65 : decode cX8_passedLive 65 = .ok (.goto (-60), 3) := by decide +kernel
theorem dX8_passedLive_68 : decode cX8_passedLive 68 = .ok (.iload_n 3, 1) := by decide +kernel
theorem dX8_passedLive_69 : decode cX8_passedLive 69 = .ok (.ireturn, 1) := by decide +kernel
theorem dX8_suspects_0 : decode cX8_suspects 0 = .ok (.aload_n 0, 1) := by decide +kernel
theorem dX8_suspects_1 : decode cX8_suspects 1 = .ok (.iload_n 1, 1) := by decide +kernel
theorem dX8_suspects_2 : decode cX8_suspects 2 = .ok (.invokevirtual 204, 3) := by decide +kernel
theorem dX8_suspects_5 : decode cX8_suspects 5 = .ok (.ifCond .ne 5, 3) := by decide +kernel
theorem dX8_suspects_8 : decode cX8_suspects 8 = .ok (.iconst (-1), 1) := by decide +kernel
theorem dX8_suspects_9 : decode cX8_suspects 9 = .ok (.ireturn, 1) := by decide +kernel
theorem dX8_suspects_10 : decode cX8_suspects 10 = .ok (.iconst 0, 1) := by decide +kernel
theorem dX8_suspects_11 : decode cX8_suspects 11 = .ok (.istore_n 2, 1) := by decide +kernel
theorem dX8_suspects_12 : decode cX8_suspects 12 = .ok (.iconst 0, 1) := by decide +kernel
theorem dX8_suspects_13 : decode cX8_suspects 13 = .ok (.istore_n 3, 1) := by decide +kernel
theorem dX8_suspects_14 : decode cX8_suspects 14 = .ok (.iconst 0, 1) := by decide +kernel
theorem dX8_suspects_15 : decode cX8_suspects 15 = .ok (.istore 4, 2) := by decide +kernel
theorem dX8_suspects_17 : decode cX8_suspects 17 = .ok (.iload 4, 2) := by decide +kernel
theorem dX8_suspects_19 : decode cX8_suspects 19 = .ok (.aload_n 0, 1) := by decide +kernel
theorem dX8_suspects_20 : decode cX8_suspects 20 = .ok (.getfield 183, 3) := by decide +kernel
theorem dX8_suspects_23 : decode cX8_suspects 23 = .ok (.if_icmp .ge 76, 3) := by decide +kernel
theorem dX8_suspects_26 : decode cX8_suspects 26 = .ok (.aload_n 0, 1) := by decide +kernel
theorem dX8_suspects_27 : decode cX8_suspects 27 = .ok (.getfield 32, 3) := by decide +kernel
theorem dX8_suspects_30 : decode cX8_suspects 30 = .ok (.iload 4, 2) := by decide +kernel
theorem dX8_suspects_32 : decode cX8_suspects 32 = .ok (.iaload, 1) := by decide +kernel
theorem dX8_suspects_33 : decode cX8_suspects 33 = .ok (.iload_n 1, 1) := by decide +kernel
theorem dX8_suspects_34 : decode cX8_suspects 34 = .ok (.if_icmp .eq 59, 3) := by decide +kernel
theorem dX8_suspects_37 : decode cX8_suspects 37 = .ok (.iload_n 2, 1) := by decide +kernel
theorem dX8_suspects_38 : decode cX8_suspects 38 = .ok (.aload_n 0, 1) := by decide +kernel
theorem dX8_suspects_39 : decode cX8_suspects 39 = .ok (.iload 4, 2) := by decide +kernel
theorem dX8_suspects_41 : decode cX8_suspects 41 = .ok (.iconst 0, 1) := by decide +kernel
theorem dX8_suspects_42 : decode cX8_suspects 42 = .ok (.invokevirtual 258, 3) := by decide +kernel
theorem dX8_suspects_45 : decode cX8_suspects 45 = .ok (.iload_n 1, 1) := by decide +kernel
theorem dX8_suspects_46 : decode cX8_suspects 46 = .ok (.invokestatic 252, 3) := by decide +kernel
theorem dX8_suspects_49 : decode cX8_suspects 49 = .ok (.ifCond .eq 10, 3) := by decide +kernel
theorem dX8_suspects_52 : decode cX8_suspects 52 = .ok (.iconst 1, 1) := by decide +kernel
theorem dX8_suspects_53 : decode cX8_suspects 53 = .ok (.iload 4, 2) := by decide +kernel
theorem dX8_suspects_55 : decode cX8_suspects 55 = .ok (.ishl, 1) := by decide +kernel
theorem dX8_suspects_56 : decode cX8_suspects 56 = .ok (.goto 4, 3) := by decide +kernel
theorem dX8_suspects_59 : decode cX8_suspects 59 = .ok (.iconst 0, 1) := by decide +kernel
theorem dX8_suspects_60 : decode cX8_suspects 60 = .ok (.ior, 1) := by decide +kernel
theorem dX8_suspects_61 : decode cX8_suspects 61 = .ok (.istore_n 2, 1) := by decide +kernel
theorem dX8_suspects_62 : decode cX8_suspects 62 = .ok (.iload_n 3, 1) := by decide +kernel
theorem dX8_suspects_63 : decode cX8_suspects 63 = .ok (.aload_n 0, 1) := by decide +kernel
theorem dX8_suspects_64 : decode cX8_suspects 64 = .ok (.iload 4, 2) := by decide +kernel
theorem dX8_suspects_66 : decode cX8_suspects 66 = .ok (.aload_n 0, 1) := by decide +kernel
theorem dX8_suspects_67 : decode cX8_suspects 67 = .ok (.iload 4, 2) := by decide +kernel
theorem dX8_suspects_69 : decode cX8_suspects 69 = .ok (.iconst (-1), 1) := by decide +kernel
theorem dX8_suspects_70 : decode cX8_suspects 70 = .ok (.invokevirtual 323, 3) := by decide +kernel
theorem dX8_suspects_73 : decode cX8_suspects 73 = .ok (.invokevirtual 258, 3) := by decide +kernel
theorem dX8_suspects_76 : decode cX8_suspects 76 = .ok (.iload_n 1, 1) := by decide +kernel
theorem dX8_suspects_77 : decode cX8_suspects 77 = .ok (.invokestatic 252, 3) := by decide +kernel
theorem dX8_suspects_80 : decode cX8_suspects 80 = .ok (.ifCond .eq 10, 3) := by decide +kernel
theorem dX8_suspects_83 : decode cX8_suspects 83 = .ok (.iconst 1, 1) := by decide +kernel
theorem dX8_suspects_84 : decode cX8_suspects 84 = .ok (.iload 4, 2) := by decide +kernel
theorem dX8_suspects_86 : decode cX8_suspects 86 = .ok (.ishl, 1) := by decide +kernel
theorem dX8_suspects_87 : decode cX8_suspects 87 = .ok (.goto 4, 3) := by decide +kernel
theorem dX8_suspects_90 : decode cX8_suspects 90 = .ok (.iconst 0, 1) := by decide +kernel
theorem dX8_suspects_91 : decode cX8_suspects 91 = .ok (.ior, 1) := by decide +kernel
theorem dX8_suspects_92 : decode cX8_suspects 92 = .ok (.istore_n 3, 1) := by decide +kernel
theorem dX8_suspects_93 : decode cX8_suspects 93 = .ok (.iinc 4 1, 3) := by decide +kernel
theorem dX8_suspects_96 : decode cX8_suspects 96 = .ok (.goto (-79), 3) := by decide +kernel
theorem dX8_suspects_99 : decode cX8_suspects 99 = .ok (.aload_n 0, 1) := by decide +kernel
theorem dX8_suspects_100 : decode cX8_suspects 100 = .ok (.iload_n 3, 1) := by decide +kernel
theorem dX8_suspects_101 : decode cX8_suspects 101 = .ok (.iload_n 2, 1) := by decide +kernel
theorem dX8_suspects_102 : decode cX8_suspects 102 = .ok (.invokevirtual 134, 3) := by decide +kernel
theorem dX8_suspects_105 : decode cX8_suspects 105 = .ok (.ireturn, 1) := by decide +kernel
theorem dX8_copies_0 : decode cX8_copies 0 = .ok (.aload_n 0, 1) := by decide +kernel
theorem dX8_copies_1 : decode cX8_copies 1 = .ok (.iload_n 1, 1) := by decide +kernel
theorem dX8_copies_2 : decode cX8_copies 2 = .ok (.invokevirtual 207, 3) := by decide +kernel
theorem dX8_copies_5 : decode cX8_copies 5 = .ok (.ifCond .eq 21, 3) := by decide +kernel
theorem dX8_copies_8 : decode cX8_copies 8 = .ok (.aload_n 0, 1) := by decide +kernel
theorem dX8_copies_9 : decode cX8_copies 9 = .ok (.iload_n 2, 1) := by decide +kernel
theorem dX8_copies_10 : decode cX8_copies 10 = .ok (.invokevirtual 204, 3) := by decide +kernel
theorem dX8_copies_13 : decode cX8_copies 13 = .ok (.ifCond .eq 13, 3) := by decide +kernel
theorem dX8_copies_16 : decode cX8_copies 16 = .ok (.aload_n 0, 1) := by decide +kernel
theorem dX8_copies_17 : decode cX8_copies 17 = .ok (.getfield 32, 3) := by decide +kernel
theorem dX8_copies_20 : decode cX8_copies 20 = .ok (.iload_n 1, 1) := by decide +kernel
theorem dX8_copies_21 : decode cX8_copies 21 = .ok (.iaload, 1) := by decide +kernel
theorem dX8_copies_22 : decode cX8_copies 22 = .ok (.iload_n 2, 1) := by decide +kernel
theorem dX8_copies_23 : decode cX8_copies 23 = .ok (.if_icmp .ne 5, 3) := by decide +kernel
theorem dX8_copies_26 : decode cX8_copies 26 = .ok (.iconst (-1), 1) := by decide +kernel
theorem dX8_copies_27 : decode cX8_copies 27 = .ok (.ireturn, 1) := by decide +kernel
theorem dX8_copies_28 : decode cX8_copies 28 = .ok (.bipush (-9), 2) := by decide +kernel
theorem dX8_copies_30 : decode cX8_copies 30 = .ok (.istore_n 3, 1) := by decide +kernel
theorem dX8_copies_31 : decode cX8_copies 31 = .ok (.iconst 1, 1) := by decide +kernel
theorem dX8_copies_32 : decode cX8_copies 32 = .ok (.aload_n 0, 1) := by decide +kernel
theorem dX8_copies_33 : decode cX8_copies 33 = .ok (.getfield 180, 3) := by decide +kernel
theorem dX8_copies_36 : decode cX8_copies 36 = .ok (.ishl, 1) := by decide +kernel
theorem dX8_copies_37 : decode cX8_copies 37 = .ok (.iconst 1, 1) := by decide +kernel
theorem dX8_copies_38 : decode cX8_copies 38 = .ok (.isub, 1) := by decide +kernel
theorem dX8_copies_39 : decode cX8_copies 39 = .ok (.istore 4, 2) := by decide +kernel
theorem dX8_copies_41 : decode cX8_copies 41 = .ok (.iload 4, 2) := by decide +kernel
theorem dX8_copies_43 : decode cX8_copies 43 = .ok (.ifCond .lt 125, 3) := by decide +kernel
theorem dX8_copies_46 : decode cX8_copies 46 = .ok (.iconst 1, 1) := by decide +kernel
theorem dX8_copies_47 : decode cX8_copies 47 = .ok (.istore 5, 2) := by decide +kernel
theorem dX8_copies_49 : decode cX8_copies 49 = .ok (.iconst 0, 1) := by decide +kernel
theorem dX8_copies_50 : decode cX8_copies 50 = .ok (.istore 6, 2) := by decide +kernel
theorem dX8_copies_52 : decode cX8_copies 52 = .ok (.iload 6, 2) := by decide +kernel
theorem dX8_copies_54 : decode cX8_copies 54 = .ok (.aload_n 0, 1) := by decide +kernel
theorem dX8_copies_55 : decode cX8_copies 55 = .ok (.getfield 180, 3) := by decide +kernel
theorem dX8_copies_58 : decode cX8_copies 58 = .ok (.if_icmp .ge 43, 3) := by decide +kernel
theorem dX8_copies_61 : decode cX8_copies 61 = .ok (.iload 5, 2) := by decide +kernel
theorem dX8_copies_63 : decode cX8_copies 63 = .ok (.ifCond .eq 29, 3) := by decide +kernel
theorem dX8_copies_66 : decode cX8_copies 66 = .ok (.iload 4, 2) := by decide +kernel
theorem dX8_copies_68 : decode cX8_copies 68 = .ok (.iload 6, 2) := by decide +kernel
theorem dX8_copies_70 : decode cX8_copies 70 = .ok (.invokestatic 252, 3) := by decide +kernel
theorem dX8_copies_73 : decode cX8_copies 73 = .ok (.ifCond .eq 15, 3) := by decide +kernel
theorem dX8_copies_76 : decode cX8_copies 76 = .ok (.aload_n 0, 1) := by decide +kernel
theorem dX8_copies_77 : decode cX8_copies 77 = .ok (.iload_n 1, 1) := by decide +kernel
theorem dX8_copies_78 : decode cX8_copies 78 = .ok (.iconst 1, 1) := by decide +kernel
theorem dX8_copies_79 : decode cX8_copies 79 = .ok (.iload 6, 2) := by decide +kernel
theorem dX8_copies_81 : decode cX8_copies 81 = .ok (.ishl, 1) := by decide +kernel
theorem dX8_copies_82 : decode cX8_copies 82 = .ok (.invokevirtual 323, 3) := by decide +kernel
theorem dX8_copies_85 : decode cX8_copies 85 = .ok (.ifCond .eq 7, 3) := by decide +kernel
theorem dX8_copies_88 : decode cX8_copies 88 = .ok (.iconst 1, 1) := by decide +kernel
theorem dX8_copies_89 : decode cX8_copies 89 = .ok (.goto 4, 3) := by decide +kernel
theorem dX8_copies_92 : decode cX8_copies 92 = .ok (.iconst 0, 1) := by decide +kernel
theorem dX8_copies_93 : decode cX8_copies 93 = .ok (.istore 5, 2) := by decide +kernel
theorem dX8_copies_95 : decode cX8_copies 95 = .ok (.iinc 6 1, 3) := by decide +kernel
theorem dX8_copies_98 : decode cX8_copies 98 = .ok (.goto (-46), 3) := by decide +kernel
theorem dX8_copies_101 : decode cX8_copies 101 = .ok (.iload_n 3, 1) := by decide +kernel
theorem dX8_copies_102 : decode cX8_copies 102 = .ok (.bipush (-9), 2) := by decide +kernel
theorem dX8_copies_104 : decode cX8_copies 104 = .ok (.if_icmp .eq 15, 3) := by decide +kernel
theorem dX8_copies_107 : decode cX8_copies 107 = .ok (.iload 4, 2) := by decide +kernel
theorem dX8_copies_109 : decode cX8_copies 109 = .ok (.invokestatic 268, 3) := by decide +kernel
theorem dX8_copies_112 : decode cX8_copies 112 = .ok (.iload_n 3, 1) := by decide +kernel
theorem dX8_copies_113 : decode cX8_copies 113 = .ok (.invokestatic 268, 3) := by decide +kernel
theorem dX8_copies_116 : decode cX8_copies 116 = .ok (.if_icmp .gt 7, 3) := by decide +kernel
theorem dX8_copies_119 : decode cX8_copies 119 = .ok (.iconst 1, 1) := by decide +kernel
theorem dX8_copies_120 : decode cX8_copies 120 = .ok (.goto 4, 3) := by decide +kernel
theorem dX8_copies_123 : decode cX8_copies 123 = .ok (.iconst 0, 1) := by decide +kernel
theorem dX8_copies_124 : decode cX8_copies 124 = .ok (.istore 6, 2) := by decide +kernel
theorem dX8_copies_126 : decode cX8_copies 126 = .ok (.iload 5, 2) := by decide +kernel
theorem dX8_copies_128 : decode cX8_copies 128 = .ok (.ifCond .eq 32, 3) := by decide +kernel
theorem dX8_copies_131 : decode cX8_copies 131 = .ok (.iload 6, 2) := by decide +kernel
theorem dX8_copies_133 : decode cX8_copies 133 = .ok (.ifCond .eq 27, 3) := by decide +kernel
theorem dX8_copies_136 : decode cX8_copies 136 = .ok (.aload_n 0, 1) := by decide +kernel
theorem dX8_copies_137 : decode cX8_copies 137 = .ok (.iload_n 1, 1) := by decide +kernel
theorem dX8_copies_138 : decode cX8_copies 138 = .ok (.aload_n 0, 1) := by decide +kernel
theorem dX8_copies_139 : decode cX8_copies 139 = .ok (.iload_n 1, 1) := by decide +kernel
theorem dX8_copies_140 : decode cX8_copies 140 = .ok (.iload 4, 2) := by decide +kernel
theorem dX8_copies_142 : decode cX8_copies 142 = .ok (.invokevirtual 323, 3) := by decide +kernel
theorem dX8_copies_145 : decode cX8_copies 145 = .ok (.invokevirtual 258, 3) := by decide +kernel
theorem dX8_copies_148 : decode cX8_copies 148 = .ok (.iload_n 2, 1) := by decide +kernel
theorem dX8_copies_149 : decode cX8_copies 149 = .ok (.invokestatic 252, 3) := by decide +kernel
theorem dX8_copies_152 : decode cX8_copies 152 = .ok (.ifCond .eq 8, 3) := by decide +kernel
theorem dX8_copies_155 : decode cX8_copies 155 = .ok (.iload 4, 2) := by decide +kernel
theorem dX8_copies_157 : decode cX8_copies 157 = .ok (.goto 4, 3) := by decide +kernel
theorem dX8_copies_160 : decode cX8_copies 160 = .ok (.iload_n 3, 1) := by decide +kernel
theorem dX8_copies_161 : decode cX8_copies 161 = .ok (.istore_n 3, 1) := by decide +kernel
theorem dX8_copies_162 : decode cX8_copies 162 = .ok (.iinc 4 (-1), 3) := by decide +kernel
theorem dX8_copies_165 : decode cX8_copies 165 = .ok (.goto (-124), 3) := by decide +kernel
theorem dX8_copies_168 : decode cX8_copies 168 = .ok (.iload_n 3, 1) := by decide +kernel
theorem dX8_copies_169 : decode cX8_copies 169 = .ok (.bipush (-9), 2) := by decide +kernel
theorem dX8_copies_171 : decode cX8_copies 171 = .ok (.if_icmp .ne 8, 3) := by decide +kernel
theorem dX8_copies_174 : decode cX8_copies 174 = .ok (.bipush (-9), 2) := by decide +kernel
theorem dX8_copies_176 : decode cX8_copies 176 = .ok (.goto 12, 3) := by decide +kernel
theorem dX8_copies_179 : decode cX8_copies 179 = .ok (.aload_n 0, 1) := by decide +kernel
theorem dX8_copies_180 : decode cX8_copies 180 = .ok (.iload_n 3, 1) := by decide +kernel
theorem dX8_copies_181 : decode cX8_copies 181 = .ok (.iload_n 3, 1) := by decide +kernel
theorem dX8_copies_182 : decode cX8_copies 182 = .ok (.invokestatic 268, 3) := by decide +kernel
theorem dX8_copies_185 : decode cX8_copies 185 = .ok (.invokevirtual 134, 3) := by decide +kernel
theorem dX8_copies_188 : decode cX8_copies 188 = .ok (.ireturn, 1) := by decide +kernel
theorem dX8_dead_0 : decode cX8_dead 0 = .ok (.aload_n 0, 1) := by decide +kernel
theorem dX8_dead_1 : decode cX8_dead 1 = .ok (.iload_n 1, 1) := by decide +kernel
theorem dX8_dead_2 : decode cX8_dead 2 = .ok (.invokevirtual 204, 3) := by decide +kernel
theorem dX8_dead_5 : decode cX8_dead 5 = .ok (.ifCond .ne 5, 3) := by decide +kernel
theorem dX8_dead_8 : decode cX8_dead 8 = .ok (.iconst (-1), 1) := by decide +kernel
theorem dX8_dead_9 : decode cX8_dead 9 = .ok (.ireturn, 1) := by decide +kernel
theorem dX8_dead_10 : decode cX8_dead 10 = .ok (.iconst 0, 1) := by decide +kernel
theorem dX8_dead_11 : decode cX8_dead 11 = .ok (.istore_n 2, 1) := by decide +kernel
theorem dX8_dead_12 : decode cX8_dead 12 = .ok (.iconst 0, 1) := by decide +kernel
theorem dX8_dead_13 : decode cX8_dead 13 = .ok (.istore_n 3, 1) := by decide +kernel
theorem dX8_dead_14 : decode cX8_dead 14 = .ok (.iconst 0, 1) := by decide +kernel
theorem dX8_dead_15 : decode cX8_dead 15 = .ok (.istore 4, 2) := by decide +kernel
theorem dX8_dead_17 : decode cX8_dead 17 = .ok (.iload 4, 2) := by decide +kernel
theorem dX8_dead_19 : decode cX8_dead 19 = .ok (.aload_n 0, 1) := by decide +kernel
theorem dX8_dead_20 : decode cX8_dead 20 = .ok (.getfield 189, 3) := by decide +kernel
theorem dX8_dead_23 : decode cX8_dead 23 = .ok (.if_icmp .ge 80, 3) := by decide +kernel
theorem dX8_dead_26 : decode cX8_dead 26 = .ok (.aload_n 0, 1) := by decide +kernel
theorem dX8_dead_27 : decode cX8_dead 27 = .ok (.getfield 53, 3) := by decide +kernel
theorem dX8_dead_30 : decode cX8_dead 30 = .ok (.iload 4, 2) := by decide +kernel
theorem dX8_dead_32 : decode cX8_dead 32 = .ok (.iaload, 1) := by decide +kernel
theorem dX8_dead_33 : decode cX8_dead 33 = .ok (.iload_n 1, 1) := by decide +kernel
theorem dX8_dead_34 : decode cX8_dead 34 = .ok (.if_icmp .ne 16, 3) := by decide +kernel
theorem dX8_dead_37 : decode cX8_dead 37 = .ok (.aload_n 0, 1) := by decide +kernel
theorem dX8_dead_38 : decode cX8_dead 38 = .ok (.iload 4, 2) := by decide +kernel
theorem dX8_dead_40 : decode cX8_dead 40 = .ok (.invokevirtual 223, 3) := by decide +kernel
theorem dX8_dead_43 : decode cX8_dead 43 = .ok (.ifCond .ne 7, 3) := by decide +kernel
theorem dX8_dead_46 : decode cX8_dead 46 = .ok (.iconst 1, 1) := by decide +kernel
theorem dX8_dead_47 : decode cX8_dead 47 = .ok (.goto 4, 3) := by decide +kernel
theorem dX8_dead_50 : decode cX8_dead 50 = .ok (.iconst 0, 1) := by decide +kernel
theorem dX8_dead_51 : decode cX8_dead 51 = .ok (.istore 5, 2) := by decide +kernel
theorem dX8_dead_53 : decode cX8_dead 53 = .ok (.iload_n 2, 1) := by decide +kernel
theorem dX8_dead_54 : decode cX8_dead 54 = .ok (.iload 5, 2) := by decide +kernel
theorem dX8_dead_56 : decode cX8_dead 56 = .ok (.ifCond .eq 7, 3) := by decide +kernel
theorem dX8_dead_59 : decode cX8_dead 59 = .ok (.iconst 1, 1) := by decide +kernel
theorem dX8_dead_60 : decode cX8_dead 60 = .ok (.goto 4, 3) := by decide +kernel
theorem dX8_dead_63 : decode cX8_dead 63 = .ok (.iconst 0, 1) := by decide +kernel
theorem dX8_dead_64 : decode cX8_dead 64 = .ok (.iadd, 1) := by decide +kernel
theorem dX8_dead_65 : decode cX8_dead 65 = .ok (.istore_n 2, 1) := by decide +kernel
theorem dX8_dead_66 : decode cX8_dead 66 = .ok (.iload_n 3, 1) := by decide +kernel
theorem dX8_dead_67 : decode cX8_dead 67 = .ok (.iload 5, 2) := by decide +kernel
theorem dX8_dead_69 : decode cX8_dead 69 = .ok (.ifCond .eq 25, 3) := by decide +kernel
theorem dX8_dead_72 : decode cX8_dead 72 = .ok (.aload_n 0, 1) := by decide +kernel
theorem dX8_dead_73 : decode cX8_dead 73 = .ok (.getfield 59, 3) := by decide +kernel
theorem dX8_dead_76 : decode cX8_dead 76 = .ok (.iload 4, 2) := by decide +kernel
theorem dX8_dead_78 : decode cX8_dead 78 = .ok (.iaload, 1) := by decide +kernel
theorem dX8_dead_79 : decode cX8_dead 79 = .ok (.ifCond .ne 15, 3) := by decide +kernel
theorem dX8_dead_82 : decode cX8_dead 82 = .ok (.iconst 1, 1) := by decide +kernel
theorem dX8_dead_83 : decode cX8_dead 83 = .ok (.aload_n 0, 1) := by decide +kernel
theorem dX8_dead_84 : decode cX8_dead 84 = .ok (.getfield 62, 3) := by decide +kernel
theorem dX8_dead_87 : decode cX8_dead 87 = .ok (.iload 4, 2) := by decide +kernel
theorem dX8_dead_89 : decode cX8_dead 89 = .ok (.iaload, 1) := by decide +kernel
theorem dX8_dead_90 : decode cX8_dead 90 = .ok (.ishl, 1) := by decide +kernel
theorem dX8_dead_91 : decode cX8_dead 91 = .ok (.goto 4, 3) := by decide +kernel
theorem dX8_dead_94 : decode cX8_dead 94 = .ok (.iconst 0, 1) := by decide +kernel
theorem dX8_dead_95 : decode cX8_dead 95 = .ok (.ior, 1) := by decide +kernel
theorem dX8_dead_96 : decode cX8_dead 96 = .ok (.istore_n 3, 1) := by decide +kernel
theorem dX8_dead_97 : decode cX8_dead 97 = .ok (.iinc 4 1, 3) := by decide +kernel
theorem dX8_dead_100 : decode cX8_dead 100 = .ok (.goto (-83), 3) := by decide +kernel
theorem dX8_dead_103 : decode cX8_dead 103 = .ok (.aload_n 0, 1) := by decide +kernel
theorem dX8_dead_104 : decode cX8_dead 104 = .ok (.iload_n 3, 1) := by decide +kernel
theorem dX8_dead_105 : decode cX8_dead 105 = .ok (.iload_n 2, 1) := by decide +kernel
theorem dX8_dead_106 : decode cX8_dead 106 = .ok (.invokevirtual 134, 3) := by decide +kernel
theorem dX8_dead_109 : decode cX8_dead 109 = .ok (.ireturn, 1) := by decide +kernel
theorem dX8_riskOf_0 : decode cX8_riskOf 0 = .ok (.aload_n 0, 1) := by decide +kernel
theorem dX8_riskOf_1 : decode cX8_riskOf 1 = .ok (.iconst 0, 1) := by decide +kernel
theorem dX8_riskOf_2 : decode cX8_riskOf 2 = .ok (.iconst 1, 1) := by decide +kernel
theorem dX8_riskOf_3 : decode cX8_riskOf 3 = .ok (.iload_n 1, 1) := by decide +kernel
theorem dX8_riskOf_4 : decode cX8_riskOf 4 = .ok (.ishl, 1) := by decide +kernel
theorem dX8_riskOf_5 : decode cX8_riskOf 5 = .ok (.invokevirtual 255, 3) := by decide +kernel
theorem dX8_riskOf_8 : decode cX8_riskOf 8 = .ok (.invokestatic 268, 3) := by decide +kernel
theorem dX8_riskOf_11 : decode cX8_riskOf 11 = .ok (.ireturn, 1) := by decide +kernel
theorem dX8_isAhead_0 : decode cX8_isAhead 0 = .ok (.aload_n 0, 1) := by decide +kernel
theorem dX8_isAhead_1 : decode cX8_isAhead 1 = .ok (.iload_n 1, 1) := by decide +kernel
theorem dX8_isAhead_2 : decode cX8_isAhead 2 = .ok (.invokevirtual 326, 3) := by decide +kernel
theorem dX8_isAhead_5 : decode cX8_isAhead 5 = .ok (.aload_n 0, 1) := by decide +kernel
theorem dX8_isAhead_6 : decode cX8_isAhead 6 = .ok (.iload_n 2, 1) := by decide +kernel
theorem dX8_isAhead_7 : decode cX8_isAhead 7 = .ok (.invokevirtual 326, 3) := by decide +kernel
theorem dX8_isAhead_10 : decode cX8_isAhead 10 = .ok (.isub, 1) := by decide +kernel
theorem dX8_isAhead_11 : decode cX8_isAhead 11 = .ok (.istore_n 3, 1) := by decide +kernel
theorem dX8_isAhead_12 : decode cX8_isAhead 12 = .ok (.iload_n 3, 1) := by decide +kernel
theorem dX8_isAhead_13 : decode cX8_isAhead 13 = .ok (.ifCond .gt 42, 3) := by decide +kernel
theorem dX8_isAhead_16 : decode cX8_isAhead 16 = .ok (.iload_n 3, 1) := by decide +kernel
theorem dX8_isAhead_17 : decode cX8_isAhead 17 = .ok (.ifCond .ne 42, 3) := by decide +kernel
theorem dX8_isAhead_20 : decode cX8_isAhead 20 = .ok (.aload_n 0, 1) := by decide +kernel
theorem dX8_isAhead_21 : decode cX8_isAhead 21 = .ok (.getfield 29, 3) := by decide +kernel
theorem dX8_isAhead_24 : decode cX8_isAhead 24 = .ok (.iload_n 1, 1) := by decide +kernel
theorem dX8_isAhead_25 : decode cX8_isAhead 25 = .ok (.iaload, 1) := by decide +kernel
theorem dX8_isAhead_26 : decode cX8_isAhead 26 = .ok (.aload_n 0, 1) := by decide +kernel
theorem dX8_isAhead_27 : decode cX8_isAhead 27 = .ok (.getfield 29, 3) := by decide +kernel
theorem dX8_isAhead_30 : decode cX8_isAhead 30 = .ok (.iload_n 2, 1) := by decide +kernel
theorem dX8_isAhead_31 : decode cX8_isAhead 31 = .ok (.iaload, 1) := by decide +kernel
theorem dX8_isAhead_32 : decode cX8_isAhead 32 = .ok (.if_icmp .lt 23, 3) := by decide +kernel
theorem dX8_isAhead_35 : decode cX8_isAhead 35 = .ok (.aload_n 0, 1) := by decide +kernel
theorem dX8_isAhead_36 : decode cX8_isAhead 36 = .ok (.getfield 29, 3) := by decide +kernel
theorem dX8_isAhead_39 : decode cX8_isAhead 39 = .ok (.iload_n 1, 1) := by decide +kernel
theorem dX8_isAhead_40 : decode cX8_isAhead 40 = .ok (.iaload, 1) := by decide +kernel
theorem dX8_isAhead_41 : decode cX8_isAhead 41 = .ok (.aload_n 0, 1) := by decide +kernel
theorem dX8_isAhead_42 : decode cX8_isAhead 42 = .ok (.getfield 29, 3) := by decide +kernel
theorem dX8_isAhead_45 : decode cX8_isAhead 45 = .ok (.iload_n 2, 1) := by decide +kernel
theorem dX8_isAhead_46 : decode cX8_isAhead 46 = .ok (.iaload, 1) := by decide +kernel
theorem dX8_isAhead_47 : decode cX8_isAhead 47 = .ok (.if_icmp .ne 12, 3) := by decide +kernel
theorem dX8_isAhead_50 : decode cX8_isAhead 50 = .ok (.iload_n 1, 1) := by decide +kernel
theorem dX8_isAhead_51 : decode cX8_isAhead 51 = .ok (.iload_n 2, 1) := by decide +kernel
theorem dX8_isAhead_52 : decode cX8_isAhead 52 = .ok (.if_icmp .ge 7, 3) := by decide +kernel
theorem dX8_isAhead_55 : decode cX8_isAhead 55 = .ok (.iconst 1, 1) := by decide +kernel
theorem dX8_isAhead_56 : decode cX8_isAhead 56 = .ok (.goto 4, 3) := by decide +kernel
theorem dX8_isAhead_59 : decode cX8_isAhead 59 = .ok (.iconst 0, 1) := by decide +kernel
theorem dX8_isAhead_60 : decode cX8_isAhead 60 = .ok (.ireturn, 1) := by decide +kernel
theorem dX8_lost_0 : decode cX8_lost 0 = .ok (.aload_n 0, 1) := by decide +kernel
theorem dX8_lost_1 : decode cX8_lost 1 = .ok (.iload_n 1, 1) := by decide +kernel
theorem dX8_lost_2 : decode cX8_lost 2 = .ok (.invokevirtual 207, 3) := by decide +kernel
theorem dX8_lost_5 : decode cX8_lost 5 = .ok (.ifCond .eq 10, 3) := by decide +kernel
theorem dX8_lost_8 : decode cX8_lost 8 = .ok (.iload_n 2, 1) := by decide +kernel
theorem dX8_lost_9 : decode cX8_lost 9 = .ok (.invokestatic 122, 3) := by decide +kernel
theorem dX8_lost_12 : decode cX8_lost 12 = .ok (.ifCond .ne 5, 3) := by decide +kernel
theorem dX8_lost_15 : decode cX8_lost 15 = .ok (.iconst (-1), 1) := by decide +kernel
theorem dX8_lost_16 : decode cX8_lost 16 = .ok (.ireturn, 1) := by decide +kernel
theorem dX8_lost_17 : decode cX8_lost 17 = .ok (.iconst 0, 1) := by decide +kernel
theorem dX8_lost_18 : decode cX8_lost 18 = .ok (.istore_n 3, 1) := by decide +kernel
theorem dX8_lost_19 : decode cX8_lost 19 = .ok (.iconst 0, 1) := by decide +kernel
theorem dX8_lost_20 : decode cX8_lost 20 = .ok (.istore 4, 2) := by decide +kernel
theorem dX8_lost_22 : decode cX8_lost 22 = .ok (.iload 4, 2) := by decide +kernel
theorem dX8_lost_24 : decode cX8_lost 24 = .ok (.aload_n 0, 1) := by decide +kernel
theorem dX8_lost_25 : decode cX8_lost 25 = .ok (.getfield 180, 3) := by decide +kernel
theorem dX8_lost_28 : decode cX8_lost 28 = .ok (.if_icmp .ge 36, 3) := by decide +kernel
theorem dX8_lost_31 : decode cX8_lost 31 = .ok (.iload_n 3, 1) := by decide +kernel
theorem dX8_lost_32 : decode cX8_lost 32 = .ok (.aload_n 0, 1) := by decide +kernel
theorem dX8_lost_33 : decode cX8_lost 33 = .ok (.iload_n 1, 1) := by decide +kernel
theorem dX8_lost_34 : decode cX8_lost 34 = .ok (.invokevirtual 243, 3) := by decide +kernel
theorem dX8_lost_37 : decode cX8_lost 37 = .ok (.aload_n 0, 1) := by decide +kernel
theorem dX8_lost_38 : decode cX8_lost 38 = .ok (.getfield 77, 3) := by decide +kernel
theorem dX8_lost_41 : decode cX8_lost 41 = .ok (.iload 4, 2) := by decide +kernel
theorem dX8_lost_43 : decode cX8_lost 43 = .ok (.iaload, 1) := by decide +kernel
theorem dX8_lost_44 : decode cX8_lost 44 = .ok (.iand, 1) := by decide +kernel
theorem dX8_lost_45 : decode cX8_lost 45 = .ok (.ifCond .eq 10, 3) := by decide +kernel
theorem dX8_lost_48 : decode cX8_lost 48 = .ok (.iconst 1, 1) := by decide +kernel
theorem dX8_lost_49 : decode cX8_lost 49 = .ok (.iload 4, 2) := by decide +kernel
theorem dX8_lost_51 : decode cX8_lost 51 = .ok (.ishl, 1) := by decide +kernel
theorem dX8_lost_52 : decode cX8_lost 52 = .ok (.goto 4, 3) := by decide +kernel
theorem dX8_lost_55 : decode cX8_lost 55 = .ok (.iconst 0, 1) := by decide +kernel
theorem dX8_lost_56 : decode cX8_lost 56 = .ok (.ior, 1) := by decide +kernel
theorem dX8_lost_57 : decode cX8_lost 57 = .ok (.istore_n 3, 1) := by decide +kernel
theorem dX8_lost_58 : decode cX8_lost 58 = .ok (.iinc 4 1, 3) := by decide +kernel
theorem dX8_lost_61 : decode cX8_lost 61 = .ok (.goto (-39), 3) := by decide +kernel
theorem dX8_lost_64 : decode cX8_lost 64 = .ok (.iconst 0, 1) := by decide +kernel
theorem dX8_lost_65 : decode cX8_lost 65 = .ok (.istore 4, 2) := by decide +kernel
theorem dX8_lost_67 : decode cX8_lost 67 = .ok (.iconst 0, 1) := by decide +kernel
theorem dX8_lost_68 : decode cX8_lost 68 = .ok (.istore 5, 2) := by decide +kernel
theorem dX8_lost_70 : decode cX8_lost 70 = .ok (.iload 5, 2) := by decide +kernel
theorem dX8_lost_72 : decode cX8_lost 72 = .ok (.bipush 40, 2) := by decide +kernel
theorem dX8_lost_74 : decode cX8_lost 74 = .ok (.if_icmp .ge 22, 3) := by decide +kernel
theorem dX8_lost_77 : decode cX8_lost 77 = .ok (.aload_n 0, 1) := by decide +kernel
theorem dX8_lost_78 : decode cX8_lost 78 = .ok (.getfield 16, 3) := by decide +kernel
theorem dX8_lost_81 : decode cX8_lost 81 = .ok (.bipush 40, 2) := by decide +kernel
theorem dX8_lost_83 : decode cX8_lost 83 = .ok (.iload_n 2, 1) := by decide +kernel
theorem dX8_lost_84 : decode cX8_lost 84 = .ok (.imul, 1) := by decide +kernel
theorem dX8_lost_85 : decode cX8_lost 85 = .ok (.iload 5, 2) := by decide +kernel
theorem dX8_lost_87 : decode cX8_lost 87 = .ok (.iadd, 1) := by decide +kernel
theorem dX8_lost_88 : decode cX8_lost 88 = .ok (.iconst 0, 1) := by decide +kernel
theorem dX8_lost_89 : decode cX8_lost 89 = .ok (.iastore, 1) := by decide +kernel
theorem dX8_lost_90 : decode cX8_lost 90 = .ok (.iinc 5 1, 3) := by decide +kernel
theorem dX8_lost_93 : decode cX8_lost 93 = .ok (.goto (-23), 3) := by decide +kernel
theorem dX8_lost_96 : decode cX8_lost 96 = .ok (.aload_n 0, 1) := by decide +kernel
theorem dX8_lost_97 : decode cX8_lost 97 = .ok (.getfield 13, 3) := by decide +kernel
theorem dX8_lost_100 : decode cX8_lost 100 = .ok (.iload_n 2, 1) := by decide +kernel
theorem dX8_lost_101 : decode cX8_lost 101 = .ok (.iload_n 3, 1) := by decide +kernel
theorem dX8_lost_102 : decode cX8_lost 102 = .ok (.invokestatic 268, 3) := by decide +kernel
theorem dX8_lost_105 : decode cX8_lost 105 = .ok (.iastore, 1) := by decide +kernel
theorem dX8_lost_106 : decode cX8_lost 106 = .ok (.iconst 0, 1) := by decide +kernel
theorem dX8_lost_107 : decode cX8_lost 107 = .ok (.istore 5, 2) := by decide +kernel
theorem dX8_lost_109 : decode cX8_lost 109 = .ok (.iload 5, 2) := by decide +kernel
theorem dX8_lost_111 : decode cX8_lost 111 = .ok (.aload_n 0, 1) := by decide +kernel
theorem dX8_lost_112 : decode cX8_lost 112 = .ok (.getfield 180, 3) := by decide +kernel
theorem dX8_lost_115 : decode cX8_lost 115 = .ok (.if_icmp .ge 102, 3) := by decide +kernel
theorem dX8_lost_118 : decode cX8_lost 118 = .ok (.iload_n 3, 1) := by decide +kernel
theorem dX8_lost_119 : decode cX8_lost 119 = .ok (.iload 5, 2) := by decide +kernel
theorem dX8_lost_121 : decode cX8_lost 121 = .ok (.invokestatic 252, 3) := by decide +kernel
theorem dX8_lost_124 : decode cX8_lost 124 = .ok (.ifCond .eq 87, 3) := by decide +kernel
theorem dX8_lost_127 : decode cX8_lost 127 = .ok (.iconst 0, 1) := by decide +kernel
theorem dX8_lost_128 : decode cX8_lost 128 = .ok (.istore 6, 2) := by decide +kernel
theorem dX8_lost_130 : decode cX8_lost 130 = .ok (.iconst 0, 1) := by decide +kernel
theorem dX8_lost_131 : decode cX8_lost 131 = .ok (.istore 7, 2) := by decide +kernel
theorem dX8_lost_133 : decode cX8_lost 133 = .ok (.iload 7, 2) := by decide +kernel
theorem dX8_lost_135 : decode cX8_lost 135 = .ok (.aload_n 0, 1) := by decide +kernel
theorem dX8_lost_136 : decode cX8_lost 136 = .ok (.getfield 180, 3) := by decide +kernel
theorem dX8_lost_139 : decode cX8_lost 139 = .ok (.if_icmp .ge 46, 3) := by decide +kernel
theorem dX8_lost_142 : decode cX8_lost 142 = .ok (.iload 6, 2) := by decide +kernel
theorem dX8_lost_144 : decode cX8_lost 144 = .ok (.iload_n 3, 1) := by decide +kernel
theorem dX8_lost_145 : decode cX8_lost 145 = .ok (.iload 7, 2) := by decide +kernel
theorem dX8_lost_147 : decode cX8_lost 147 = .ok (.invokestatic 252, 3) := by decide +kernel
theorem dX8_lost_150 : decode cX8_lost 150 = .ok (.ifCond .eq 25, 3) := by decide +kernel
theorem dX8_lost_153 : decode cX8_lost 153 = .ok (.iload 7, 2) := by decide +kernel
theorem dX8_lost_155 : decode cX8_lost 155 = .ok (.iload 5, 2) := by decide +kernel
theorem dX8_lost_157 : decode cX8_lost 157 = .ok (.if_icmp .eq 18, 3) := by decide +kernel
theorem dX8_lost_160 : decode cX8_lost 160 = .ok (.aload_n 0, 1) := by decide +kernel
theorem dX8_lost_161 : decode cX8_lost 161 = .ok (.iload 7, 2) := by decide +kernel
theorem dX8_lost_163 : decode cX8_lost 163 = .ok (.iload 5, 2) := by decide +kernel
theorem dX8_lost_165 : decode cX8_lost 165 = .ok (.invokevirtual 329, 3) := by decide +kernel
theorem dX8_lost_168 : decode cX8_lost 168 = .ok (.ifCond .eq 7, 3) := by decide +kernel
theorem dX8_lost_171 : decode cX8_lost 171 = .ok (.iconst 1, 1) := by decide +kernel
theorem dX8_lost_172 : decode cX8_lost 172 = .ok (.goto 4, 3) := by decide +kernel
theorem dX8_lost_175 : decode cX8_lost 175 = .ok (.iconst 0, 1) := by decide +kernel
theorem dX8_lost_176 : decode cX8_lost 176 = .ok (.iadd, 1) := by decide +kernel
theorem dX8_lost_177 : decode cX8_lost 177 = .ok (.istore 6, 2) := by decide +kernel
theorem dX8_lost_179 : decode cX8_lost 179 = .ok (.iinc 7 1, 3) := by decide +kernel
theorem dX8_lost_182 : decode cX8_lost 182 = .ok (.goto (-49), 3) := by decide +kernel
theorem dX8_lost_185 : decode cX8_lost 185 = .ok (.aload_n 0, 1) := by decide +kernel
theorem dX8_lost_186 : decode cX8_lost 186 = .ok (.getfield 16, 3) := by decide +kernel
theorem dX8_lost_189 : decode cX8_lost 189 = .ok (.bipush 40, 2) := by decide +kernel
theorem dX8_lost_191 : decode cX8_lost 191 = .ok (.iload_n 2, 1) := by decide +kernel
theorem dX8_lost_192 : decode cX8_lost 192 = .ok (.imul, 1) := by decide +kernel
theorem dX8_lost_193 : decode cX8_lost 193 = .ok (.iload 6, 2) := by decide +kernel
theorem dX8_lost_195 : decode cX8_lost 195 = .ok (.iadd, 1) := by decide +kernel
theorem dX8_lost_196 : decode cX8_lost 196 = .ok (.iload 5, 2) := by decide +kernel
theorem dX8_lost_198 : decode cX8_lost 198 = .ok (.iastore, 1) := by decide +kernel
theorem dX8_lost_199 : decode cX8_lost 199 = .ok (.iload 4, 2) := by decide +kernel
theorem dX8_lost_201 : decode cX8_lost 201 = .ok (.aload_n 0, 1) := by decide +kernel
theorem dX8_lost_202 : decode cX8_lost 202 = .ok (.getfield 29, 3) := by decide +kernel
theorem dX8_lost_205 : decode cX8_lost 205 = .ok (.iload 5, 2) := by decide +kernel
theorem dX8_lost_207 : decode cX8_lost 207 = .ok (.iaload, 1) := by decide +kernel
theorem dX8_lost_208 : decode cX8_lost 208 = .ok (.iadd, 1) := by decide +kernel
theorem dX8_lost_209 : decode cX8_lost 209 = .ok (.istore 4, 2) := by decide +kernel
theorem dX8_lost_211 : decode cX8_lost 211 = .ok (.iinc 5 1, 3) := by decide +kernel
theorem dX8_lost_214 : decode cX8_lost 214 = .ok (.goto (-105), 3) := by decide +kernel
theorem dX8_lost_217 : decode cX8_lost 217 = .ok (.aload_n 0, 1) := by decide +kernel
theorem dX8_lost_218 : decode cX8_lost 218 = .ok (.iload 4, 2) := by decide +kernel
theorem dX8_lost_220 : decode cX8_lost 220 = .ok (.iload_n 3, 1) := by decide +kernel
theorem dX8_lost_221 : decode cX8_lost 221 = .ok (.invokestatic 268, 3) := by decide +kernel
theorem dX8_lost_224 : decode cX8_lost 224 = .ok (.invokevirtual 134, 3) := by decide +kernel
theorem dX8_lost_227 : decode cX8_lost 227 = .ok (.ireturn, 1) := by decide +kernel
theorem dX8_counted_0 : decode cX8_counted 0 = .ok (.iconst 0, 1) := by decide +kernel
theorem dX8_counted_1 : decode cX8_counted 1 = .ok (.istore_n 2, 1) := by decide +kernel
theorem dX8_counted_2 : decode cX8_counted 2 = .ok (.iconst 0, 1) := by decide +kernel
theorem dX8_counted_3 : decode cX8_counted 3 = .ok (.istore_n 3, 1) := by decide +kernel
theorem dX8_counted_4 : decode cX8_counted 4 = .ok (.iload_n 3, 1) := by decide +kernel
theorem dX8_counted_5 : decode cX8_counted 5 = .ok (.aload_n 0, 1) := by decide +kernel
theorem dX8_counted_6 : decode cX8_counted 6 = .ok (.getfield 189, 3) := by decide +kernel
theorem dX8_counted_9 : decode cX8_counted 9 = .ok (.if_icmp .ge 30, 3) := by decide +kernel
theorem dX8_counted_12 : decode cX8_counted 12 = .ok (.iload_n 2, 1) := by decide +kernel
theorem dX8_counted_13 : decode cX8_counted 13 = .ok (.iload_n 1, 1) := by decide +kernel
theorem dX8_counted_14 : decode cX8_counted 14 = .ok (.iconst 3, 1) := by decide +kernel
theorem dX8_counted_15 : decode cX8_counted 15 = .ok (.if_icmp .ne 15, 3) := by decide +kernel
theorem dX8_counted_18 : decode cX8_counted 18 = .ok (.aload_n 0, 1) := by decide +kernel
theorem dX8_counted_19 : decode cX8_counted 19 = .ok (.iload_n 3, 1) := by decide +kernel
theorem dX8_counted_20 : decode cX8_counted 20 = .ok (.invokevirtual 223, 3) := by decide +kernel
theorem dX8_counted_23 : decode cX8_counted 23 = .ok (.ifCond .eq 7, 3) := by decide +kernel
theorem dX8_counted_26 : decode cX8_counted 26 = .ok (.iconst 1, 1) := by decide +kernel
theorem dX8_counted_27 : decode cX8_counted 27 = .ok (.goto 4, 3) := by decide +kernel
theorem dX8_counted_30 : decode cX8_counted 30 = .ok (.iconst 0, 1) := by decide +kernel
theorem dX8_counted_31 : decode cX8_counted 31 = .ok (.iadd, 1) := by decide +kernel
theorem dX8_counted_32 : decode cX8_counted 32 = .ok (.istore_n 2, 1) := by decide +kernel
theorem dX8_counted_33 : decode cX8_counted 33 = .ok (.iinc 3 1, 3) := by decide +kernel
theorem dX8_counted_36 : decode cX8_counted 36 = .ok (.goto (-32), 3) := by decide +kernel
theorem dX8_counted_39 : decode cX8_counted 39 = .ok (.iconst 0, 1) := by decide +kernel
theorem dX8_counted_40 : decode cX8_counted 40 = .ok (.istore_n 3, 1) := by decide +kernel
theorem dX8_counted_41 : decode cX8_counted 41 = .ok (.iload_n 3, 1) := by decide +kernel
theorem dX8_counted_42 : decode cX8_counted 42 = .ok (.aload_n 0, 1) := by decide +kernel
theorem dX8_counted_43 : decode cX8_counted 43 = .ok (.getfield 186, 3) := by decide +kernel
theorem dX8_counted_46 : decode cX8_counted 46 = .ok (.if_icmp .ge 34, 3) := by decide +kernel
theorem dX8_counted_49 : decode cX8_counted 49 = .ok (.iload_n 2, 1) := by decide +kernel
theorem dX8_counted_50 : decode cX8_counted 50 = .ok (.iload_n 1, 1) := by decide +kernel
theorem dX8_counted_51 : decode cX8_counted 51 = .ok (.iconst 5, 1) := by decide +kernel
theorem dX8_counted_52 : decode cX8_counted 52 = .ok (.if_icmp .ne 19, 3) := by decide +kernel
theorem dX8_counted_55 : decode cX8_counted 55 = .ok (.aload_n 0, 1) := by decide +kernel
theorem dX8_counted_56 : decode cX8_counted 56 = .ok (.getfield 47, 3) := by decide +kernel
theorem dX8_counted_59 : decode cX8_counted 59 = .ok (.iconst 4, 1) := by decide +kernel
theorem dX8_counted_60 : decode cX8_counted 60 = .ok (.iload_n 3, 1) := by decide +kernel
theorem dX8_counted_61 : decode cX8_counted 61 = .ok (.imul, 1) := by decide +kernel
theorem dX8_counted_62 : decode cX8_counted 62 = .ok (.iaload, 1) := by decide +kernel
theorem dX8_counted_63 : decode cX8_counted 63 = .ok (.iconst 2, 1) := by decide +kernel
theorem dX8_counted_64 : decode cX8_counted 64 = .ok (.if_icmp .gt 7, 3) := by decide +kernel
theorem dX8_counted_67 : decode cX8_counted 67 = .ok (.iconst 1, 1) := by decide +kernel
theorem dX8_counted_68 : decode cX8_counted 68 = .ok (.goto 4, 3) := by decide +kernel
theorem dX8_counted_71 : decode cX8_counted 71 = .ok (.iconst 0, 1) := by decide +kernel
theorem dX8_counted_72 : decode cX8_counted 72 = .ok (.iadd, 1) := by decide +kernel
theorem dX8_counted_73 : decode cX8_counted 73 = .ok (.istore_n 2, 1) := by decide +kernel
theorem dX8_counted_74 : decode cX8_counted 74 = .ok (.iinc 3 1, 3) := by decide +kernel
theorem dX8_counted_77 : decode cX8_counted 77 = .ok (.goto (-36), 3) := by decide +kernel
theorem dX8_counted_80 : decode cX8_counted 80 = .ok (.iconst 0, 1) := by decide +kernel
theorem dX8_counted_81 : decode cX8_counted 81 = .ok (.istore_n 3, 1) := by decide +kernel
theorem dX8_counted_82 : decode cX8_counted 82 = .ok (.iload_n 3, 1) := by decide +kernel
theorem dX8_counted_83 : decode cX8_counted 83 = .ok (.bipush 6, 2) := by decide +kernel
theorem dX8_counted_85 : decode cX8_counted 85 = .ok (.if_icmp .ge 32, 3) := by decide +kernel
theorem dX8_counted_88 : decode cX8_counted 88 = .ok (.iload_n 2, 1) := by decide +kernel
theorem dX8_counted_89 : decode cX8_counted 89 = .ok (.iload_n 1, 1) := by decide +kernel
theorem dX8_counted_90 : decode cX8_counted 90 = .ok (.bipush 6, 2) := by decide +kernel
theorem dX8_counted_92 : decode cX8_counted 92 = .ok (.if_icmp .ne 16, 3) := by decide +kernel
theorem dX8_counted_95 : decode cX8_counted 95 = .ok (.aload_n 0, 1) := by decide +kernel
theorem dX8_counted_96 : decode cX8_counted 96 = .ok (.getfield 13, 3) := by decide +kernel
theorem dX8_counted_99 : decode cX8_counted 99 = .ok (.iload_n 3, 1) := by decide +kernel
theorem dX8_counted_100 : decode cX8_counted 100 = .ok (.iaload, 1) := by decide +kernel
theorem dX8_counted_101 : decode cX8_counted 101 = .ok (.ifCond .lt 7, 3) := by decide +kernel
theorem dX8_counted_104 : decode cX8_counted 104 = .ok (.iconst 1, 1) := by decide +kernel
theorem dX8_counted_105 : decode cX8_counted 105 = .ok (.goto 4, 3) := by decide +kernel
theorem dX8_counted_108 : decode cX8_counted 108 = .ok (.iconst 0, 1) := by decide +kernel
theorem dX8_counted_109 : decode cX8_counted 109 = .ok (.iadd, 1) := by decide +kernel
theorem dX8_counted_110 : decode cX8_counted 110 = .ok (.istore_n 2, 1) := by decide +kernel
theorem dX8_counted_111 : decode cX8_counted 111 = .ok (.iinc 3 1, 3) := by decide +kernel
theorem dX8_counted_114 : decode cX8_counted 114 = .ok (.goto (-32), 3) := by decide +kernel
theorem dX8_counted_117 : decode cX8_counted 117 = .ok (.iconst 0, 1) := by decide +kernel
theorem dX8_counted_118 : decode cX8_counted 118 = .ok (.istore_n 3, 1) := by decide +kernel
theorem dX8_counted_119 : decode cX8_counted 119 = .ok (.iload_n 3, 1) := by decide +kernel
theorem dX8_counted_120 : decode cX8_counted 120 = .ok (.iconst 4, 1) := by decide +kernel
theorem dX8_counted_121 : decode cX8_counted 121 = .ok (.if_icmp .ge 32, 3) := by decide +kernel
theorem dX8_counted_124 : decode cX8_counted 124 = .ok (.iload_n 2, 1) := by decide +kernel
theorem dX8_counted_125 : decode cX8_counted 125 = .ok (.iload_n 1, 1) := by decide +kernel
theorem dX8_counted_126 : decode cX8_counted 126 = .ok (.bipush 7, 2) := by decide +kernel
theorem dX8_counted_128 : decode cX8_counted 128 = .ok (.if_icmp .ne 16, 3) := by decide +kernel
theorem dX8_counted_131 : decode cX8_counted 131 = .ok (.aload_n 0, 1) := by decide +kernel
theorem dX8_counted_132 : decode cX8_counted 132 = .ok (.getfield 22, 3) := by decide +kernel
theorem dX8_counted_135 : decode cX8_counted 135 = .ok (.iload_n 3, 1) := by decide +kernel
theorem dX8_counted_136 : decode cX8_counted 136 = .ok (.iaload, 1) := by decide +kernel
theorem dX8_counted_137 : decode cX8_counted 137 = .ok (.ifCond .lt 7, 3) := by decide +kernel
theorem dX8_counted_140 : decode cX8_counted 140 = .ok (.iconst 1, 1) := by decide +kernel
theorem dX8_counted_141 : decode cX8_counted 141 = .ok (.goto 4, 3) := by decide +kernel
theorem dX8_counted_144 : decode cX8_counted 144 = .ok (.iconst 0, 1) := by decide +kernel
theorem dX8_counted_145 : decode cX8_counted 145 = .ok (.iadd, 1) := by decide +kernel
theorem dX8_counted_146 : decode cX8_counted 146 = .ok (.istore_n 2, 1) := by decide +kernel
theorem dX8_counted_147 : decode cX8_counted 147 = .ok (.iinc 3 1, 3) := by decide +kernel
theorem dX8_counted_150 : decode cX8_counted 150 = .ok (.goto (-31), 3) := by decide +kernel
theorem dX8_counted_153 : decode cX8_counted 153 = .ok (.iload_n 1, 1) := by decide +kernel
theorem dX8_counted_154 : decode cX8_counted 154 = .ok (.ifCond .ne 10, 3) := by decide +kernel
theorem dX8_counted_157 : decode cX8_counted 157 = .ok (.aload_n 0, 1) := by decide +kernel
theorem dX8_counted_158 : decode cX8_counted 158 = .ok (.getfield 180, 3) := by decide +kernel
theorem dX8_counted_161 : decode cX8_counted 161 = .ok (.goto 40, 3) := by decide +kernel
theorem dX8_counted_164 : decode cX8_counted 164 = .ok (.iload_n 1, 1) := by decide +kernel
theorem dX8_counted_165 : decode cX8_counted 165 = .ok (.iconst 1, 1) := by decide +kernel
theorem dX8_counted_166 : decode cX8_counted 166 = .ok (.if_icmp .ne 10, 3) := by decide +kernel
theorem dX8_counted_169 : decode cX8_counted 169 = .ok (.aload_n 0, 1) := by decide +kernel
theorem dX8_counted_170 : decode cX8_counted 170 = .ok (.getfield 183, 3) := by decide +kernel
theorem dX8_counted_173 : decode cX8_counted 173 = .ok (.goto 28, 3) := by decide +kernel
theorem dX8_counted_176 : decode cX8_counted 176 = .ok (.iload_n 1, 1) := by decide +kernel
theorem dX8_counted_177 : decode cX8_counted 177 = .ok (.iconst 2, 1) := by decide +kernel
theorem dX8_counted_178 : decode cX8_counted 178 = .ok (.if_icmp .ne 10, 3) := by decide +kernel
theorem dX8_counted_181 : decode cX8_counted 181 = .ok (.aload_n 0, 1) := by decide +kernel
theorem dX8_counted_182 : decode cX8_counted 182 = .ok (.getfield 189, 3) := by decide +kernel
theorem dX8_counted_185 : decode cX8_counted 185 = .ok (.goto 16, 3) := by decide +kernel
theorem dX8_counted_188 : decode cX8_counted 188 = .ok (.iload_n 1, 1) := by decide +kernel
theorem dX8_counted_189 : decode cX8_counted 189 = .ok (.iconst 4, 1) := by decide +kernel
theorem dX8_counted_190 : decode cX8_counted 190 = .ok (.if_icmp .ne 10, 3) := by decide +kernel
theorem dX8_counted_193 : decode cX8_counted 193 = .ok (.aload_n 0, 1) := by decide +kernel
theorem dX8_counted_194 : decode cX8_counted 194 = .ok (.getfield 186, 3) := by decide +kernel
theorem dX8_counted_197 : decode cX8_counted 197 = .ok (.goto 4, 3) := by decide +kernel
theorem dX8_counted_200 : decode cX8_counted 200 = .ok (.iload_n 2, 1) := by decide +kernel
theorem dX8_counted_201 : decode cX8_counted 201 = .ok (.ireturn, 1) := by decide +kernel
theorem dX8_count_0 : decode cX8_count 0 = .ok (.iload_n 1, 1) := by decide +kernel
theorem dX8_count_1 : decode cX8_count 1 = .ok (.iconst 0, 1) := by decide +kernel
theorem dX8_count_2 : decode cX8_count 2 = .ok (.bipush 7, 2) := by decide +kernel
theorem dX8_count_4 : decode cX8_count 4 = .ok (.invokestatic 112, 3) := by decide +kernel
theorem dX8_count_7 : decode cX8_count 7 = .ok (.ifCond .eq 11, 3) := by decide +kernel
theorem dX8_count_10 : decode cX8_count 10 = .ok (.aload_n 0, 1) := by decide +kernel
theorem dX8_count_11 : decode cX8_count 11 = .ok (.iload_n 1, 1) := by decide +kernel
theorem dX8_count_12 : decode cX8_count 12 = .ok (.invokevirtual 332, 3) := by decide +kernel
theorem dX8_count_15 : decode cX8_count 15 = .ok (.goto 4, 3) := by decide +kernel
theorem dX8_count_18 : decode cX8_count 18 = .ok (.iconst (-1), 1) := by decide +kernel
theorem dX8_count_19 : decode cX8_count 19 = .ok (.ireturn, 1) := by decide +kernel
theorem dX8_mix_0 : decode cX8_mix 0 = .ok (.aload_n 0, 1) := by decide +kernel
theorem dX8_mix_1 : decode cX8_mix 1 = .ok (.ldc2_w 335, 3) := by decide +kernel
theorem dX8_mix_4 : decode cX8_mix 4 = .ok (.aload_n 0, 1) := by decide +kernel
theorem dX8_mix_5 : decode cX8_mix 5 = .ok (.getfield 337, 3) := by decide +kernel
theorem dX8_mix_8 : decode cX8_mix 8 = .ok (.lmul, 1) := by decide +kernel
theorem dX8_mix_9 : decode cX8_mix 9 = .ok (.lload_n 1, 1) := by decide +kernel
theorem dX8_mix_10 : decode cX8_mix 10 = .ok (.ladd, 1) := by decide +kernel
theorem dX8_mix_11 : decode cX8_mix 11 = .ok (.putfield 337, 3) := by decide +kernel
theorem dX8_mix_14 : decode cX8_mix 14 = .ok (.return_, 1) := by decide +kernel
theorem dX8_mixStreet_0 : decode cX8_mixStreet 0 = .ok (.iconst 0, 1) := by decide +kernel
theorem dX8_mixStreet_1 : decode cX8_mixStreet 1 = .ok (.istore_n 1, 1) := by decide +kernel
theorem dX8_mixStreet_2 : decode cX8_mixStreet 2 = .ok (.iload_n 1, 1) := by decide +kernel
theorem dX8_mixStreet_3 : decode cX8_mixStreet 3 = .ok (.aload_n 0, 1) := by decide +kernel
theorem dX8_mixStreet_4 : decode cX8_mixStreet 4 = .ok (.getfield 180, 3) := by decide +kernel
theorem dX8_mixStreet_7 : decode cX8_mixStreet 7 = .ok (.if_icmp .ge 33, 3) := by decide +kernel
theorem dX8_mixStreet_10 : decode cX8_mixStreet 10 = .ok (.iconst 0, 1) := by decide +kernel
theorem dX8_mixStreet_11 : decode cX8_mixStreet 11 = .ok (.istore_n 2, 1) := by decide +kernel
theorem dX8_mixStreet_12 : decode cX8_mixStreet 12 = .ok (.iload_n 2, 1) := by decide +kernel
theorem dX8_mixStreet_13 : decode cX8_mixStreet 13 = .ok (.iconst 4, 1) := by decide +kernel
theorem dX8_mixStreet_14 : decode cX8_mixStreet 14 = .ok (.if_icmp .ge 20, 3) := by decide +kernel
theorem dX8_mixStreet_17 : decode cX8_mixStreet 17 = .ok (.aload_n 0, 1) := by decide +kernel
theorem dX8_mixStreet_18 : decode cX8_mixStreet 18 = .ok (.aload_n 0, 1) := by decide +kernel
theorem dX8_mixStreet_19 : decode cX8_mixStreet 19 = .ok (.iload_n 1, 1) := by decide +kernel
theorem dX8_mixStreet_20 : decode cX8_mixStreet 20 = .ok (.iload_n 2, 1) := by decide +kernel
theorem dX8_mixStreet_21 : decode cX8_mixStreet 21 = .ok (.invokevirtual 240, 3) := by decide +kernel
theorem dX8_mixStreet_24 : decode cX8_mixStreet 24 = .ok (.i2l, 1) := by decide +kernel
theorem dX8_mixStreet_25 : decode cX8_mixStreet 25 = .ok (.invokevirtual 340, 3) := by decide +kernel
theorem dX8_mixStreet_28 : decode cX8_mixStreet 28 = .ok (.iinc 2 1, 3) := by decide +kernel
theorem dX8_mixStreet_31 : decode cX8_mixStreet 31 = .ok (.goto (-19), 3) := by decide +kernel
theorem dX8_mixStreet_34 : decode cX8_mixStreet 34 = .ok (.iinc 1 1, 3) := by decide +kernel
theorem dX8_mixStreet_37 : decode cX8_mixStreet 37 = .ok (.goto (-35), 3) := by decide +kernel
theorem dX8_mixStreet_40 : decode cX8_mixStreet 40 = .ok (.iconst 0, 1) := by decide +kernel
theorem dX8_mixStreet_41 : decode cX8_mixStreet 41 = .ok (.istore_n 1, 1) := by decide +kernel
theorem dX8_mixStreet_42 : decode cX8_mixStreet 42 = .ok (.iload_n 1, 1) := by decide +kernel
theorem dX8_mixStreet_43 : decode cX8_mixStreet 43 = .ok (.aload_n 0, 1) := by decide +kernel
theorem dX8_mixStreet_44 : decode cX8_mixStreet 44 = .ok (.getfield 183, 3) := by decide +kernel
theorem dX8_mixStreet_47 : decode cX8_mixStreet 47 = .ok (.if_icmp .ge 70, 3) := by decide +kernel
theorem dX8_mixStreet_50 : decode cX8_mixStreet 50 = .ok (.iconst 0, 1) := by decide +kernel
theorem dX8_mixStreet_51 : decode cX8_mixStreet 51 = .ok (.istore_n 2, 1) := by decide +kernel
theorem dX8_mixStreet_52 : decode cX8_mixStreet 52 = .ok (.iload_n 2, 1) := by decide +kernel
theorem dX8_mixStreet_53 : decode cX8_mixStreet 53 = .ok (.iconst 3, 1) := by decide +kernel
theorem dX8_mixStreet_54 : decode cX8_mixStreet 54 = .ok (.if_icmp .ge 20, 3) := by decide +kernel
theorem dX8_mixStreet_57 : decode cX8_mixStreet 57 = .ok (.aload_n 0, 1) := by decide +kernel
theorem dX8_mixStreet_58 : decode cX8_mixStreet 58 = .ok (.aload_n 0, 1) := by decide +kernel
theorem dX8_mixStreet_59 : decode cX8_mixStreet 59 = .ok (.iload_n 1, 1) := by decide +kernel
theorem dX8_mixStreet_60 : decode cX8_mixStreet 60 = .ok (.iload_n 2, 1) := by decide +kernel
theorem dX8_mixStreet_61 : decode cX8_mixStreet 61 = .ok (.invokevirtual 246, 3) := by decide +kernel
theorem dX8_mixStreet_64 : decode cX8_mixStreet 64 = .ok (.i2l, 1) := by decide +kernel
theorem dX8_mixStreet_65 : decode cX8_mixStreet 65 = .ok (.invokevirtual 340, 3) := by decide +kernel
theorem dX8_mixStreet_68 : decode cX8_mixStreet 68 = .ok (.iinc 2 1, 3) := by decide +kernel
theorem dX8_mixStreet_71 : decode cX8_mixStreet 71 = .ok (.goto (-19), 3) := by decide +kernel
theorem dX8_mixStreet_74 : decode cX8_mixStreet 74 = .ok (.iconst 0, 1) := by decide +kernel
theorem dX8_mixStreet_75 : decode cX8_mixStreet 75 = .ok (.istore_n 2, 1) := by decide +kernel
theorem dX8_mixStreet_76 : decode cX8_mixStreet 76 = .ok (.iload_n 2, 1) := by decide +kernel
theorem dX8_mixStreet_77 : decode cX8_mixStreet 77 = .ok (.aload_n 0, 1) := by decide +kernel
theorem dX8_mixStreet_78 : decode cX8_mixStreet 78 = .ok (.getfield 183, 3) := by decide +kernel
theorem dX8_mixStreet_81 : decode cX8_mixStreet 81 = .ok (.if_icmp .ge 30, 3) := by decide +kernel
theorem dX8_mixStreet_84 : decode cX8_mixStreet 84 = .ok (.iload_n 2, 1) := by decide +kernel
theorem dX8_mixStreet_85 : decode cX8_mixStreet 85 = .ok (.iload_n 1, 1) := by decide +kernel
theorem dX8_mixStreet_86 : decode cX8_mixStreet 86 = .ok (.if_icmp .eq 19, 3) := by decide +kernel
theorem dX8_mixStreet_89 : decode cX8_mixStreet 89 = .ok (.aload_n 0, 1) := by decide +kernel
theorem dX8_mixStreet_90 : decode cX8_mixStreet 90 = .ok (.aload_n 0, 1) := by decide +kernel
theorem dX8_mixStreet_91 : decode cX8_mixStreet 91 = .ok (.getfield 74, 3) := by decide +kernel
theorem dX8_mixStreet_94 : decode cX8_mixStreet 94 = .ok (.bipush 12, 2) := by decide +kernel
theorem dX8_mixStreet_96 : decode cX8_mixStreet 96 = .ok (.iload_n 1, 1) := by decide +kernel
theorem dX8_mixStreet_97 : decode cX8_mixStreet 97 = .ok (.imul, 1) := by decide +kernel
theorem dX8_mixStreet_98 : decode cX8_mixStreet 98 = .ok (.iload_n 2, 1) := by decide +kernel
theorem dX8_mixStreet_99 : decode cX8_mixStreet 99 = .ok (.iadd, 1) := by decide +kernel
theorem dX8_mixStreet_100 : decode cX8_mixStreet 100 = .ok (.iaload, 1) := by decide +kernel
theorem dX8_mixStreet_101 : decode cX8_mixStreet 101 = .ok (.i2l, 1) := by decide +kernel
theorem dX8_mixStreet_102 : decode cX8_mixStreet 102 = .ok (.invokevirtual 340, 3) := by decide +kernel
theorem dX8_mixStreet_105 : decode cX8_mixStreet 105 = .ok (.iinc 2 1, 3) := by decide +kernel
theorem dX8_mixStreet_108 : decode cX8_mixStreet 108 = .ok (.goto (-32), 3) := by decide +kernel
theorem dX8_mixStreet_111 : decode cX8_mixStreet 111 = .ok (.iinc 1 1, 3) := by decide +kernel
theorem dX8_mixStreet_114 : decode cX8_mixStreet 114 = .ok (.goto (-72), 3) := by decide +kernel
theorem dX8_mixStreet_117 : decode cX8_mixStreet 117 = .ok (.iconst 0, 1) := by decide +kernel
theorem dX8_mixStreet_118 : decode cX8_mixStreet 118 = .ok (.istore_n 1, 1) := by decide +kernel
theorem dX8_mixStreet_119 : decode cX8_mixStreet 119 = .ok (.iload_n 1, 1) := by decide +kernel
theorem dX8_mixStreet_120 : decode cX8_mixStreet 120 = .ok (.aload_n 0, 1) := by decide +kernel
theorem dX8_mixStreet_121 : decode cX8_mixStreet 121 = .ok (.getfield 189, 3) := by decide +kernel
theorem dX8_mixStreet_124 : decode cX8_mixStreet 124 = .ok (.if_icmp .ge 33, 3) := by decide +kernel
theorem dX8_mixStreet_127 : decode cX8_mixStreet 127 = .ok (.iconst 0, 1) := by decide +kernel
theorem dX8_mixStreet_128 : decode cX8_mixStreet 128 = .ok (.istore_n 2, 1) := by decide +kernel
theorem dX8_mixStreet_129 : decode cX8_mixStreet 129 = .ok (.iload_n 2, 1) := by decide +kernel
theorem dX8_mixStreet_130 : decode cX8_mixStreet 130 = .ok (.iconst 5, 1) := by decide +kernel
theorem dX8_mixStreet_131 : decode cX8_mixStreet 131 = .ok (.if_icmp .ge 20, 3) := by decide +kernel
theorem dX8_mixStreet_134 : decode cX8_mixStreet 134 = .ok (.aload_n 0, 1) := by decide +kernel
theorem dX8_mixStreet_135 : decode cX8_mixStreet 135 = .ok (.aload_n 0, 1) := by decide +kernel
theorem dX8_mixStreet_136 : decode cX8_mixStreet 136 = .ok (.iload_n 1, 1) := by decide +kernel
theorem dX8_mixStreet_137 : decode cX8_mixStreet 137 = .ok (.iload_n 2, 1) := by decide +kernel
theorem dX8_mixStreet_138 : decode cX8_mixStreet 138 = .ok (.invokevirtual 249, 3) := by decide +kernel
theorem dX8_mixStreet_141 : decode cX8_mixStreet 141 = .ok (.i2l, 1) := by decide +kernel
theorem dX8_mixStreet_142 : decode cX8_mixStreet 142 = .ok (.invokevirtual 340, 3) := by decide +kernel
theorem dX8_mixStreet_145 : decode cX8_mixStreet 145 = .ok (.iinc 2 1, 3) := by decide +kernel
theorem dX8_mixStreet_148 : decode cX8_mixStreet 148 = .ok (.goto (-19), 3) := by decide +kernel
theorem dX8_mixStreet_151 : decode cX8_mixStreet 151 = .ok (.iinc 1 1, 3) := by decide +kernel
theorem dX8_mixStreet_154 : decode cX8_mixStreet 154 = .ok (.goto (-35), 3) := by decide +kernel
theorem dX8_mixStreet_157 : decode cX8_mixStreet 157 = .ok (.iconst 0, 1) := by decide +kernel
theorem dX8_mixStreet_158 : decode cX8_mixStreet 158 = .ok (.istore_n 1, 1) := by decide +kernel
theorem dX8_mixStreet_159 : decode cX8_mixStreet 159 = .ok (.iload_n 1, 1) := by decide +kernel
theorem dX8_mixStreet_160 : decode cX8_mixStreet 160 = .ok (.iconst 4, 1) := by decide +kernel
theorem dX8_mixStreet_161 : decode cX8_mixStreet 161 = .ok (.aload_n 0, 1) := by decide +kernel
theorem dX8_mixStreet_162 : decode cX8_mixStreet 162 = .ok (.getfield 186, 3) := by decide +kernel
theorem dX8_mixStreet_165 : decode cX8_mixStreet 165 = .ok (.imul, 1) := by decide +kernel
theorem dX8_mixStreet_166 : decode cX8_mixStreet 166 = .ok (.if_icmp .ge 20, 3) := by decide +kernel
theorem dX8_mixStreet_169 : decode cX8_mixStreet 169 = .ok (.aload_n 0, 1) := by decide +kernel
theorem dX8_mixStreet_170 : decode cX8_mixStreet 170 = .ok (.aload_n 0, 1) := by decide +kernel
theorem dX8_mixStreet_171 : decode cX8_mixStreet 171 = .ok (.getfield 47, 3) := by decide +kernel
theorem dX8_mixStreet_174 : decode cX8_mixStreet 174 = .ok (.iload_n 1, 1) := by decide +kernel
theorem dX8_mixStreet_175 : decode cX8_mixStreet 175 = .ok (.iaload, 1) := by decide +kernel
theorem dX8_mixStreet_176 : decode cX8_mixStreet 176 = .ok (.i2l, 1) := by decide +kernel
theorem dX8_mixStreet_177 : decode cX8_mixStreet 177 = .ok (.invokevirtual 340, 3) := by decide +kernel
theorem dX8_mixStreet_180 : decode cX8_mixStreet 180 = .ok (.iinc 1 1, 3) := by decide +kernel
theorem dX8_mixStreet_183 : decode cX8_mixStreet 183 = .ok (.goto (-24), 3) := by decide +kernel
theorem dX8_mixStreet_186 : decode cX8_mixStreet 186 = .ok (.return_, 1) := by decide +kernel
theorem dX8_digest_0 : decode cX8_digest 0 = .ok (.aload_n 0, 1) := by decide +kernel
theorem dX8_digest_1 : decode cX8_digest 1 = .ok (.ldc2_w 344, 3) := by decide +kernel
theorem dX8_digest_4 : decode cX8_digest 4 = .ok (.putfield 337, 3) := by decide +kernel
theorem dX8_digest_7 : decode cX8_digest 7 = .ok (.iconst 0, 1) := by decide +kernel
theorem dX8_digest_8 : decode cX8_digest 8 = .ok (.istore_n 1, 1) := by decide +kernel
theorem dX8_digest_9 : decode cX8_digest 9 = .ok (.iload_n 1, 1) := by decide +kernel
theorem dX8_digest_10 : decode cX8_digest 10 = .ok (.bipush 8, 2) := by decide +kernel
theorem dX8_digest_12 : decode cX8_digest 12 = .ok (.if_icmp .ge 19, 3) := by decide +kernel
theorem dX8_digest_15 : decode cX8_digest 15 = .ok (.aload_n 0, 1) := by decide +kernel
theorem dX8_digest_16 : decode cX8_digest 16 = .ok (.aload_n 0, 1) := by decide +kernel
theorem dX8_digest_17 : decode cX8_digest 17 = .ok (.iload_n 1, 1) := by decide +kernel
theorem dX8_digest_18 : decode cX8_digest 18 = .ok (.invokevirtual 332, 3) := by decide +kernel
theorem dX8_digest_21 : decode cX8_digest 21 = .ok (.i2l, 1) := by decide +kernel
theorem dX8_digest_22 : decode cX8_digest 22 = .ok (.invokevirtual 340, 3) := by decide +kernel
theorem dX8_digest_25 : decode cX8_digest 25 = .ok (.iinc 1 1, 3) := by decide +kernel
theorem dX8_digest_28 : decode cX8_digest 28 = .ok (.goto (-19), 3) := by decide +kernel
theorem dX8_digest_31 : decode cX8_digest 31 = .ok (.aload_n 0, 1) := by decide +kernel
theorem dX8_digest_32 : decode cX8_digest 32 = .ok (.invokevirtual 346, 3) := by decide +kernel
theorem dX8_digest_35 : decode cX8_digest 35 = .ok (.iconst 0, 1) := by decide +kernel
theorem dX8_digest_36 : decode cX8_digest 36 = .ok (.istore_n 1, 1) := by decide +kernel
theorem dX8_digest_37 : decode cX8_digest 37 = .ok (.iload_n 1, 1) := by decide +kernel
theorem dX8_digest_38 : decode cX8_digest 38 = .ok (.bipush 6, 2) := by decide +kernel
theorem dX8_digest_40 : decode cX8_digest 40 = .ok (.if_icmp .ge 49, 3) := by decide +kernel
theorem dX8_digest_43 : decode cX8_digest 43 = .ok (.aload_n 0, 1) := by decide +kernel
theorem dX8_digest_44 : decode cX8_digest 44 = .ok (.aload_n 0, 1) := by decide +kernel
theorem dX8_digest_45 : decode cX8_digest 45 = .ok (.getfield 13, 3) := by decide +kernel
theorem dX8_digest_48 : decode cX8_digest 48 = .ok (.iload_n 1, 1) := by decide +kernel
theorem dX8_digest_49 : decode cX8_digest 49 = .ok (.iaload, 1) := by decide +kernel
theorem dX8_digest_50 : decode cX8_digest 50 = .ok (.i2l, 1) := by decide +kernel
theorem dX8_digest_51 : decode cX8_digest 51 = .ok (.invokevirtual 340, 3) := by decide +kernel
theorem dX8_digest_54 : decode cX8_digest 54 = .ok (.iconst 0, 1) := by decide +kernel
theorem dX8_digest_55 : decode cX8_digest 55 = .ok (.istore_n 2, 1) := by decide +kernel
theorem dX8_digest_56 : decode cX8_digest 56 = .ok (.iload_n 2, 1) := by decide +kernel
theorem dX8_digest_57 : decode cX8_digest 57 = .ok (.aload_n 0, 1) := by decide +kernel
theorem dX8_digest_58 : decode cX8_digest 58 = .ok (.getfield 13, 3) := by decide +kernel
theorem dX8_digest_61 : decode cX8_digest 61 = .ok (.iload_n 1, 1) := by decide +kernel
theorem dX8_digest_62 : decode cX8_digest 62 = .ok (.iaload, 1) := by decide +kernel
theorem dX8_digest_63 : decode cX8_digest 63 = .ok (.if_icmp .ge 20, 3) := by decide +kernel
theorem dX8_digest_66 : decode cX8_digest 66 = .ok (.aload_n 0, 1) := by decide +kernel
theorem dX8_digest_67 : decode cX8_digest 67 = .ok (.aload_n 0, 1) := by decide +kernel
theorem dX8_digest_68 : decode cX8_digest 68 = .ok (.iload_n 1, 1) := by decide +kernel
theorem dX8_digest_69 : decode cX8_digest 69 = .ok (.iload_n 2, 1) := by decide +kernel
theorem dX8_digest_70 : decode cX8_digest 70 = .ok (.invokevirtual 130, 3) := by decide +kernel
theorem dX8_digest_73 : decode cX8_digest 73 = .ok (.i2l, 1) := by decide +kernel
theorem dX8_digest_74 : decode cX8_digest 74 = .ok (.invokevirtual 340, 3) := by decide +kernel
theorem dX8_digest_77 : decode cX8_digest 77 = .ok (.iinc 2 1, 3) := by decide +kernel
theorem dX8_digest_80 : decode cX8_digest 80 = .ok (.goto (-24), 3) := by decide +kernel
theorem dX8_digest_83 : decode cX8_digest 83 = .ok (.iinc 1 1, 3) := by decide +kernel
theorem dX8_digest_86 : decode cX8_digest 86 = .ok (.goto (-49), 3) := by decide +kernel
theorem dX8_digest_89 : decode cX8_digest 89 = .ok (.iconst 0, 1) := by decide +kernel
theorem dX8_digest_90 : decode cX8_digest 90 = .ok (.istore_n 1, 1) := by decide +kernel
theorem dX8_digest_91 : decode cX8_digest 91 = .ok (.iload_n 1, 1) := by decide +kernel
theorem dX8_digest_92 : decode cX8_digest 92 = .ok (.iconst 4, 1) := by decide +kernel
theorem dX8_digest_93 : decode cX8_digest 93 = .ok (.if_icmp .ge 49, 3) := by decide +kernel
theorem dX8_digest_96 : decode cX8_digest 96 = .ok (.aload_n 0, 1) := by decide +kernel
theorem dX8_digest_97 : decode cX8_digest 97 = .ok (.aload_n 0, 1) := by decide +kernel
theorem dX8_digest_98 : decode cX8_digest 98 = .ok (.getfield 22, 3) := by decide +kernel
theorem dX8_digest_101 : decode cX8_digest 101 = .ok (.iload_n 1, 1) := by decide +kernel
theorem dX8_digest_102 : decode cX8_digest 102 = .ok (.iaload, 1) := by decide +kernel
theorem dX8_digest_103 : decode cX8_digest 103 = .ok (.i2l, 1) := by decide +kernel
theorem dX8_digest_104 : decode cX8_digest 104 = .ok (.invokevirtual 340, 3) := by decide +kernel
theorem dX8_digest_107 : decode cX8_digest 107 = .ok (.iconst 0, 1) := by decide +kernel
theorem dX8_digest_108 : decode cX8_digest 108 = .ok (.istore_n 2, 1) := by decide +kernel
theorem dX8_digest_109 : decode cX8_digest 109 = .ok (.iload_n 2, 1) := by decide +kernel
theorem dX8_digest_110 : decode cX8_digest 110 = .ok (.aload_n 0, 1) := by decide +kernel
theorem dX8_digest_111 : decode cX8_digest 111 = .ok (.getfield 22, 3) := by decide +kernel
theorem dX8_digest_114 : decode cX8_digest 114 = .ok (.iload_n 1, 1) := by decide +kernel
theorem dX8_digest_115 : decode cX8_digest 115 = .ok (.iaload, 1) := by decide +kernel
theorem dX8_digest_116 : decode cX8_digest 116 = .ok (.if_icmp .ge 20, 3) := by decide +kernel
theorem dX8_digest_119 : decode cX8_digest 119 = .ok (.aload_n 0, 1) := by decide +kernel
theorem dX8_digest_120 : decode cX8_digest 120 = .ok (.aload_n 0, 1) := by decide +kernel
theorem dX8_digest_121 : decode cX8_digest 121 = .ok (.iload_n 1, 1) := by decide +kernel
theorem dX8_digest_122 : decode cX8_digest 122 = .ok (.iload_n 2, 1) := by decide +kernel
theorem dX8_digest_123 : decode cX8_digest 123 = .ok (.invokevirtual 143, 3) := by decide +kernel
theorem dX8_digest_126 : decode cX8_digest 126 = .ok (.i2l, 1) := by decide +kernel
theorem dX8_digest_127 : decode cX8_digest 127 = .ok (.invokevirtual 340, 3) := by decide +kernel
theorem dX8_digest_130 : decode cX8_digest 130 = .ok (.iinc 2 1, 3) := by decide +kernel
theorem dX8_digest_133 : decode cX8_digest 133 = .ok (.goto (-24), 3) := by decide +kernel
theorem dX8_digest_136 : decode cX8_digest 136 = .ok (.iinc 1 1, 3) := by decide +kernel
theorem dX8_digest_139 : decode cX8_digest 139 = .ok (.goto (-48), 3) := by decide +kernel
theorem dX8_digest_142 : decode cX8_digest 142 = .ok (.aload_n 0, 1) := by decide +kernel
theorem dX8_digest_143 : decode cX8_digest 143 = .ok (.getfield 337, 3) := by decide +kernel
theorem dX8_digest_146 : decode cX8_digest 146 = .ok (.lreturn, 1) := by decide +kernel
