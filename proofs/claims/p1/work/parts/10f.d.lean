theorem dX8_first_15 : decode cX8_first 15 = .ok (.getfield 291, 3) := by decide +kernel
theorem dX8_first_18 : decode cX8_first 18 = .ok (.if_icmp .ge 7, 3) := by decide +kernel
theorem dX8_first_21 : decode cX8_first 21 = .ok (.iload_n 2, 1) := by decide +kernel
theorem dX8_first_22 : decode cX8_first 22 = .ok (.ifCond .ge 5, 3) := by decide +kernel
theorem dX8_first_25 : decode cX8_first 25 = .ok (.iconst (-1), 1) := by decide +kernel
theorem dX8_first_26 : decode cX8_first 26 = .ok (.ireturn, 1) := by decide +kernel
theorem dX8_first_27 : decode cX8_first 27 = .ok (.iload_n 2, 1) := by decide +kernel
theorem dX8_first_28 : decode cX8_first 28 = .ok (.istore_n 3, 1) := by decide +kernel
theorem dX8_first_29 : decode cX8_first 29 = .ok (.iconst 1, 1) := by decide +kernel
theorem dX8_first_30 : decode cX8_first 30 = .ok (.istore 4, 2) := by decide +kernel
theorem dX8_first_32 : decode cX8_first 32 = .ok (.iload 4, 2) := by decide +kernel
theorem dX8_first_34 : decode cX8_first 34 = .ok (.aload_n 0, 1) := by decide +kernel
theorem dX8_first_35 : decode cX8_first 35 = .ok (.getfield 145, 3) := by decide +kernel
theorem dX8_first_38 : decode cX8_first 38 = .ok (.bipush 8, 2) := by decide +kernel
theorem dX8_first_40 : decode cX8_first 40 = .ok (.iaload, 1) := by decide +kernel
theorem dX8_first_41 : decode cX8_first 41 = .ok (.if_icmp .gt 33, 3) := by decide +kernel
theorem dX8_first_44 : decode cX8_first 44 = .ok (.aload_n 0, 1) := by decide +kernel
theorem dX8_first_45 : decode cX8_first 45 = .ok (.getfield 161, 3) := by decide +kernel
theorem dX8_first_48 : decode cX8_first 48 = .ok (.iload 4, 2) := by decide +kernel
theorem dX8_first_50 : decode cX8_first 50 = .ok (.iaload, 1) := by decide +kernel
theorem dX8_first_51 : decode cX8_first 51 = .ok (.iload_n 1, 1) := by decide +kernel
theorem dX8_first_52 : decode cX8_first 52 = .ok (.if_icmp .eq 6, 3) := by decide +kernel
theorem dX8_first_55 : decode cX8_first 55 = .ok (.goto 13, 3) := by decide +kernel
theorem dX8_first_58 : decode cX8_first 58 = .ok (.iload_n 3, 1) := by decide +kernel
theorem dX8_first_59 : decode cX8_first 59 = .ok (.ifCond .ne 6, 3) := by decide +kernel
theorem dX8_first_62 : decode cX8_first 62 = .ok (.iload 4, 2) := by decide +kernel
theorem dX8_first_64 : decode cX8_first 64 = .ok (.ireturn, 1) := by decide +kernel
theorem dX8_first_65 : decode cX8_first 65 = .ok (.iinc 3 (-1), 3) := by decide +kernel
theorem dX8_first_68 : decode cX8_first 68 = .ok (.iinc 4 1, 3) := by decide +kernel
theorem dX8_first_71 : decode cX8_first 71 = .ok (.goto (-39), 3) := by decide +kernel
theorem dX8_first_74 : decode cX8_first 74 = .ok (.iconst (-1), 1) := by decide +kernel
theorem dX8_first_75 : decode cX8_first 75 = .ok (.ireturn, 1) := by decide +kernel
theorem dX8_turn_0 : decode cX8_turn 0 = .ok (.iload_n 1, 1) := by decide +kernel
theorem dX8_turn_1 : decode cX8_turn 1 = .ok (.iconst 1, 1) := by decide +kernel
theorem dX8_turn_2 : decode cX8_turn 2 = .ok (.isub, 1) := by decide +kernel
theorem dX8_turn_3 : decode cX8_turn 3 = .ok (.istore_n 2, 1) := by decide +kernel
theorem dX8_turn_4 : decode cX8_turn 4 = .ok (.iload_n 2, 1) := by decide +kernel
theorem dX8_turn_5 : decode cX8_turn 5 = .ok (.iconst 1, 1) := by decide +kernel
theorem dX8_turn_6 : decode cX8_turn 6 = .ok (.if_icmp .lt 26, 3) := by decide +kernel
theorem dX8_turn_9 : decode cX8_turn 9 = .ok (.aload_n 0, 1) := by decide +kernel
theorem dX8_turn_10 : decode cX8_turn 10 = .ok (.getfield 167, 3) := by decide +kernel
theorem dX8_turn_13 : decode cX8_turn 13 = .ok (.iload_n 2, 1) := by decide +kernel
theorem dX8_turn_14 : decode cX8_turn 14 = .ok (.iaload, 1) := by decide +kernel
theorem dX8_turn_15 : decode cX8_turn 15 = .ok (.aload_n 0, 1) := by decide +kernel
theorem dX8_turn_16 : decode cX8_turn 16 = .ok (.getfield 167, 3) := by decide +kernel
theorem dX8_turn_19 : decode cX8_turn 19 = .ok (.iload_n 2, 1) := by decide +kernel
theorem dX8_turn_20 : decode cX8_turn 20 = .ok (.iconst 1, 1) := by decide +kernel
theorem dX8_turn_21 : decode cX8_turn 21 = .ok (.iadd, 1) := by decide +kernel
theorem dX8_turn_22 : decode cX8_turn 22 = .ok (.iaload, 1) := by decide +kernel
theorem dX8_turn_23 : decode cX8_turn 23 = .ok (.if_icmp .le 9, 3) := by decide +kernel
theorem dX8_turn_26 : decode cX8_turn 26 = .ok (.iinc 2 (-1), 3) := by decide +kernel
theorem dX8_turn_29 : decode cX8_turn 29 = .ok (.goto (-25), 3) := by decide +kernel
theorem dX8_turn_32 : decode cX8_turn 32 = .ok (.iload_n 2, 1) := by decide +kernel
theorem dX8_turn_33 : decode cX8_turn 33 = .ok (.iconst 1, 1) := by decide +kernel
theorem dX8_turn_34 : decode cX8_turn 34 = .ok (.if_icmp .ge 5, 3) := by decide +kernel
theorem dX8_turn_37 : decode cX8_turn 37 = .ok (.iconst 0, 1) := by decide +kernel
theorem dX8_turn_38 : decode cX8_turn 38 = .ok (.ireturn, 1) := by decide +kernel
theorem dX8_turn_39 : decode cX8_turn 39 = .ok (.iload_n 1, 1) := by decide +kernel
theorem dX8_turn_40 : decode cX8_turn 40 = .ok (.istore_n 3, 1) := by decide +kernel
theorem dX8_turn_41 : decode cX8_turn 41 = .ok (.aload_n 0, 1) := by decide +kernel
theorem dX8_turn_42 : decode cX8_turn 42 = .ok (.getfield 167, 3) := by decide +kernel
theorem dX8_turn_45 : decode cX8_turn 45 = .ok (.iload_n 3, 1) := by decide +kernel
theorem dX8_turn_46 : decode cX8_turn 46 = .ok (.iaload, 1) := by decide +kernel
theorem dX8_turn_47 : decode cX8_turn 47 = .ok (.aload_n 0, 1) := by decide +kernel
theorem dX8_turn_48 : decode cX8_turn 48 = .ok (.getfield 167, 3) := by decide +kernel
theorem dX8_turn_51 : decode cX8_turn 51 = .ok (.iload_n 2, 1) := by decide +kernel
theorem dX8_turn_52 : decode cX8_turn 52 = .ok (.iaload, 1) := by decide +kernel
theorem dX8_turn_53 : decode cX8_turn 53 = .ok (.if_icmp .ge 9, 3) := by decide +kernel
theorem dX8_turn_56 : decode cX8_turn 56 = .ok (.iinc 3 (-1), 3) := by decide +kernel
theorem dX8_turn_59 : decode cX8_turn 59 = .ok (.goto (-18), 3) := by decide +kernel
theorem dX8_turn_62 : decode cX8_turn 62 = .ok (.aload_n 0, 1) := by decide +kernel
theorem dX8_turn_63 : decode cX8_turn 63 = .ok (.iload_n 2, 1) := by decide +kernel
theorem dX8_turn_64 : decode cX8_turn 64 = .ok (.iload_n 3, 1) := by decide +kernel
theorem dX8_turn_65 : decode cX8_turn 65 = .ok (.invokevirtual 297, 3) := by decide +kernel
theorem dX8_turn_68 : decode cX8_turn 68 = .ok (.iconst 1, 1) := by decide +kernel
theorem dX8_turn_69 : decode cX8_turn 69 = .ok (.istore 4, 2) := by decide +kernel
theorem dX8_turn_71 : decode cX8_turn 71 = .ok (.iload_n 2, 1) := by decide +kernel
theorem dX8_turn_72 : decode cX8_turn 72 = .ok (.iload 4, 2) := by decide +kernel
theorem dX8_turn_74 : decode cX8_turn 74 = .ok (.iadd, 1) := by decide +kernel
theorem dX8_turn_75 : decode cX8_turn 75 = .ok (.iload_n 1, 1) := by decide +kernel
theorem dX8_turn_76 : decode cX8_turn 76 = .ok (.iconst 1, 1) := by decide +kernel
theorem dX8_turn_77 : decode cX8_turn 77 = .ok (.iadd, 1) := by decide +kernel
theorem dX8_turn_78 : decode cX8_turn 78 = .ok (.iload 4, 2) := by decide +kernel
theorem dX8_turn_80 : decode cX8_turn 80 = .ok (.isub, 1) := by decide +kernel
theorem dX8_turn_81 : decode cX8_turn 81 = .ok (.if_icmp .ge 23, 3) := by decide +kernel
theorem dX8_turn_84 : decode cX8_turn 84 = .ok (.aload_n 0, 1) := by decide +kernel
theorem dX8_turn_85 : decode cX8_turn 85 = .ok (.iload_n 2, 1) := by decide +kernel
theorem dX8_turn_86 : decode cX8_turn 86 = .ok (.iload 4, 2) := by decide +kernel
theorem dX8_turn_88 : decode cX8_turn 88 = .ok (.iadd, 1) := by decide +kernel
theorem dX8_turn_89 : decode cX8_turn 89 = .ok (.iload_n 1, 1) := by decide +kernel
theorem dX8_turn_90 : decode cX8_turn 90 = .ok (.iconst 1, 1) := by decide +kernel
theorem dX8_turn_91 : decode cX8_turn 91 = .ok (.iadd, 1) := by decide +kernel
theorem dX8_turn_92 : decode cX8_turn 92 = .ok (.iload 4, 2) := by decide +kernel
theorem dX8_turn_94 : decode cX8_turn 94 = .ok (.isub, 1) := by decide +kernel
theorem dX8_turn_95 : decode cX8_turn 95 = .ok (.invokevirtual 297, 3) := by decide +kernel
theorem dX8_turn_98 : decode cX8_turn 98 = .ok (.iinc 4 1, 3) := by decide +kernel
theorem dX8_turn_101 : decode cX8_turn 101 = .ok (.goto (-30), 3) := by decide +kernel
theorem dX8_turn_104 : decode cX8_turn 104 = .ok (.iconst 1, 1) := by decide +kernel
theorem dX8_turn_105 : decode cX8_turn 105 = .ok (.ireturn, 1) := by decide +kernel
theorem dX8_change_0 : decode cX8_change 0 = .ok (.aload_n 0, 1) := by decide +kernel
theorem dX8_change_1 : decode cX8_change 1 = .ok (.getfield 167, 3) := by decide +kernel
theorem dX8_change_4 : decode cX8_change 4 = .ok (.iload_n 1, 1) := by decide +kernel
theorem dX8_change_5 : decode cX8_change 5 = .ok (.iaload, 1) := by decide +kernel
theorem dX8_change_6 : decode cX8_change 6 = .ok (.istore_n 3, 1) := by decide +kernel
theorem dX8_change_7 : decode cX8_change 7 = .ok (.aload_n 0, 1) := by decide +kernel
theorem dX8_change_8 : decode cX8_change 8 = .ok (.getfield 167, 3) := by decide +kernel
theorem dX8_change_11 : decode cX8_change 11 = .ok (.iload_n 1, 1) := by decide +kernel
theorem dX8_change_12 : decode cX8_change 12 = .ok (.aload_n 0, 1) := by decide +kernel
theorem dX8_change_13 : decode cX8_change 13 = .ok (.getfield 167, 3) := by decide +kernel
theorem dX8_change_16 : decode cX8_change 16 = .ok (.iload_n 2, 1) := by decide +kernel
theorem dX8_change_17 : decode cX8_change 17 = .ok (.iaload, 1) := by decide +kernel
theorem dX8_change_18 : decode cX8_change 18 = .ok (.iastore, 1) := by decide +kernel
theorem dX8_change_19 : decode cX8_change 19 = .ok (.aload_n 0, 1) := by decide +kernel
theorem dX8_change_20 : decode cX8_change 20 = .ok (.getfield 167, 3) := by decide +kernel
theorem dX8_change_23 : decode cX8_change 23 = .ok (.iload_n 2, 1) := by decide +kernel
theorem dX8_change_24 : decode cX8_change 24 = .ok (.iload_n 3, 1) := by decide +kernel
theorem dX8_change_25 : decode cX8_change 25 = .ok (.iastore, 1) := by decide +kernel
theorem dX8_change_26 : decode cX8_change 26 = .ok (.return_, 1) := by decide +kernel
theorem dX8_begin_0 : decode cX8_begin 0 = .ok (.iconst 1, 1) := by decide +kernel
theorem dX8_begin_1 : decode cX8_begin 1 = .ok (.istore_n 2, 1) := by decide +kernel
theorem dX8_begin_2 : decode cX8_begin 2 = .ok (.iload_n 2, 1) := by decide +kernel
theorem dX8_begin_3 : decode cX8_begin 3 = .ok (.iload_n 1, 1) := by decide +kernel
theorem dX8_begin_4 : decode cX8_begin 4 = .ok (.if_icmp .gt 16, 3) := by decide +kernel
theorem dX8_begin_7 : decode cX8_begin 7 = .ok (.aload_n 0, 1) := by decide +kernel
theorem dX8_begin_8 : decode cX8_begin 8 = .ok (.getfield 167, 3) := by decide +kernel
theorem dX8_begin_11 : decode cX8_begin 11 = .ok (.iload_n 2, 1) := by decide +kernel
theorem dX8_begin_12 : decode cX8_begin 12 = .ok (.iload_n 2, 1) := by decide +kernel
theorem dX8_begin_13 : decode cX8_begin 13 = .ok (.iastore, 1) := by decide +kernel
theorem dX8_begin_14 : decode cX8_begin 14 = .ok (.iinc 2 1, 3) := by decide +kernel
theorem dX8_begin_17 : decode cX8_begin 17 = .ok (.goto (-15), 3) := by decide +kernel
theorem dX8_begin_20 : decode cX8_begin 20 = .ok (.return_, 1) := by decide +kernel
theorem dX8_isNaming_0 : decode cX8_isNaming 0 = .ok (.iconst 1, 1) := by decide +kernel
theorem dX8_isNaming_1 : decode cX8_isNaming 1 = .ok (.istore_n 2, 1) := by decide +kernel
theorem dX8_isNaming_2 : decode cX8_isNaming 2 = .ok (.iconst 1, 1) := by decide +kernel
theorem dX8_isNaming_3 : decode cX8_isNaming 3 = .ok (.istore_n 3, 1) := by decide +kernel
theorem dX8_isNaming_4 : decode cX8_isNaming 4 = .ok (.iload_n 3, 1) := by decide +kernel
theorem dX8_isNaming_5 : decode cX8_isNaming 5 = .ok (.iload_n 1, 1) := by decide +kernel
theorem dX8_isNaming_6 : decode cX8_isNaming 6 = .ok (.if_icmp .gt 39, 3) := by decide +kernel
theorem dX8_isNaming_9 : decode cX8_isNaming 9 = .ok (.iload_n 2, 1) := by decide +kernel
theorem dX8_isNaming_10 : decode cX8_isNaming 10 = .ok (.ifCond .eq 35, 3) := by decide +kernel
theorem dX8_isNaming_13 : decode cX8_isNaming 13 = .ok (.aload_n 0, 1) := by decide +kernel
theorem dX8_isNaming_14 : decode cX8_isNaming 14 = .ok (.getfield 164, 3) := by decide +kernel
theorem dX8_isNaming_17 : decode cX8_isNaming 17 = .ok (.aload_n 0, 1) := by decide +kernel
theorem dX8_isNaming_18 : decode cX8_isNaming 18 = .ok (.getfield 167, 3) := by decide +kernel
theorem dX8_isNaming_21 : decode cX8_isNaming 21 = .ok (.iload_n 3, 1) := by decide +kernel
theorem dX8_isNaming_22 : decode cX8_isNaming 22 = .ok (.iaload, 1) := by decide +kernel
theorem dX8_isNaming_23 : decode cX8_isNaming 23 = .ok (.iaload, 1) := by decide +kernel
theorem dX8_isNaming_24 : decode cX8_isNaming 24 = .ok (.aload_n 0, 1) := by decide +kernel
theorem dX8_isNaming_25 : decode cX8_isNaming 25 = .ok (.getfield 161, 3) := by decide +kernel
theorem dX8_isNaming_28 : decode cX8_isNaming 28 = .ok (.iload_n 3, 1) := by decide +kernel
theorem dX8_isNaming_29 : decode cX8_isNaming 29 = .ok (.iaload, 1) := by decide +kernel
theorem dX8_isNaming_30 : decode cX8_isNaming 30 = .ok (.if_icmp .ne 7, 3) := by decide +kernel
theorem dX8_isNaming_33 : decode cX8_isNaming 33 = .ok (.iconst 1, 1) := by decide +kernel
theorem dX8_isNaming_34 : decode cX8_isNaming 34 = .ok (.goto 4, 3) := by decide +kernel
theorem dX8_isNaming_37 : decode cX8_isNaming 37 = .ok (.iconst 0, 1) := by decide +kernel
theorem dX8_isNaming_38 : decode cX8_isNaming 38 = .ok (.istore_n 2, 1) := by decide +kernel
theorem dX8_isNaming_39 : decode cX8_isNaming 39 = .ok (.iinc 3 1, 3) := by decide +kernel
theorem dX8_isNaming_42 : decode cX8_isNaming 42 = .ok (.goto (-38), 3) := by decide +kernel
theorem dX8_isNaming_45 : decode cX8_isNaming 45 = .ok (.iload_n 2, 1) := by decide +kernel
theorem dX8_isNaming_46 : decode cX8_isNaming 46 = .ok (.ireturn, 1) := by decide +kernel
theorem dX8_compareTriples_0 : decode cX8_compareTriples 0 = .ok (.iconst 0, 1) := by decide +kernel
theorem dX8_compareTriples_1 : decode cX8_compareTriples 1 = .ok (.istore 4, 2) := by decide +kernel
theorem dX8_compareTriples_3 : decode cX8_compareTriples 3 = .ok (.iload 4, 2) := by decide +kernel
theorem dX8_compareTriples_5 : decode cX8_compareTriples 5 = .ok (.iconst 3, 1) := by decide +kernel
theorem dX8_compareTriples_6 : decode cX8_compareTriples 6 = .ok (.if_icmp .ge 53, 3) := by decide +kernel
theorem dX8_compareTriples_9 : decode cX8_compareTriples 9 = .ok (.aload_n 0, 1) := by decide +kernel
theorem dX8_compareTriples_10 : decode cX8_compareTriples 10 = .ok (.iconst 3, 1) := by decide +kernel
theorem dX8_compareTriples_11 : decode cX8_compareTriples 11 = .ok (.iload_n 1, 1) := by decide +kernel
theorem dX8_compareTriples_12 : decode cX8_compareTriples 12 = .ok (.imul, 1) := by decide +kernel
theorem dX8_compareTriples_13 : decode cX8_compareTriples 13 = .ok (.iload 4, 2) := by decide +kernel
theorem dX8_compareTriples_15 : decode cX8_compareTriples 15 = .ok (.iadd, 1) := by decide +kernel
theorem dX8_compareTriples_16 : decode cX8_compareTriples 16 = .ok (.iaload, 1) := by decide +kernel
theorem dX8_compareTriples_17 : decode cX8_compareTriples 17 = .ok (.aload_n 2, 1) := by decide +kernel
theorem dX8_compareTriples_18 : decode cX8_compareTriples 18 = .ok (.iconst 3, 1) := by decide +kernel
theorem dX8_compareTriples_19 : decode cX8_compareTriples 19 = .ok (.iload_n 3, 1) := by decide +kernel
theorem dX8_compareTriples_20 : decode cX8_compareTriples 20 = .ok (.imul, 1) := by decide +kernel
theorem dX8_compareTriples_21 : decode cX8_compareTriples 21 = .ok (.iload 4, 2) := by decide +kernel
theorem dX8_compareTriples_23 : decode cX8_compareTriples 23 = .ok (.iadd, 1) := by decide +kernel
theorem dX8_compareTriples_24 : decode cX8_compareTriples 24 = .ok (.iaload, 1) := by decide +kernel
theorem dX8_compareTriples_25 : decode cX8_compareTriples 25 = .ok (.if_icmp .eq 28, 3) := by decide +kernel
theorem dX8_compareTriples_28 : decode cX8_compareTriples 28 = .ok (.aload_n 0, 1) := by decide +kernel
theorem dX8_compareTriples_29 : decode cX8_compareTriples 29 = .ok (.iconst 3, 1) := by decide +kernel
theorem dX8_compareTriples_30 : decode cX8_compareTriples 30 = .ok (.iload_n 1, 1) := by decide +kernel
theorem dX8_compareTriples_31 : decode cX8_compareTriples 31 = .ok (.imul, 1) := by decide +kernel
theorem dX8_compareTriples_32 : decode cX8_compareTriples 32 = .ok (.iload 4, 2) := by decide +kernel
theorem dX8_compareTriples_34 : decode cX8_compareTriples 34 = .ok (.iadd, 1) := by decide +kernel
theorem dX8_compareTriples_35 : decode cX8_compareTriples 35 = .ok (.iaload, 1) := by decide +kernel
theorem dX8_compareTriples_36 : decode cX8_compareTriples 36 = .ok (.aload_n 2, 1) := by decide +kernel
theorem dX8_compareTriples_37 : decode cX8_compareTriples 37 = .ok (.iconst 3, 1) := by decide +kernel
theorem dX8_compareTriples_38 : decode cX8_compareTriples 38 = .ok (.iload_n 3, 1) := by decide +kernel
theorem dX8_compareTriples_39 : decode cX8_compareTriples 39 = .ok (.imul, 1) := by decide +kernel
theorem dX8_compareTriples_40 : decode cX8_compareTriples 40 = .ok (.iload 4, 2) := by decide +kernel
theorem dX8_compareTriples_42 : decode cX8_compareTriples 42 = .ok (.iadd, 1) := by decide +kernel
theorem dX8_compareTriples_43 : decode cX8_compareTriples 43 = .ok (.iaload, 1) := by decide +kernel
theorem dX8_compareTriples_44 : decode cX8_compareTriples 44 = .ok (.if_icmp .ge 7, 3) := by decide +kernel
theorem dX8_compareTriples_47 : decode cX8_compareTriples 47 = .ok (.iconst (-1), 1) := by decide +kernel
theorem dX8_compareTriples_48 : decode cX8_compareTriples 48 = .ok (.goto 4, 3) := by decide +kernel
theorem dX8_compareTriples_51 : decode cX8_compareTriples 51 = .ok (.iconst 1, 1) := by decide +kernel
theorem dX8_compareTriples_52 : decode cX8_compareTriples 52 = .ok (.ireturn, 1) := by decide +kernel
theorem dX8_compareTriples_53 : decode cX8_compareTriples 53 = .ok (.iinc 4 1, 3) := by decide +kernel
theorem dX8_compareTriples_56 : decode cX8_compareTriples 56 = .ok (.goto (-53), 3) := by decide +kernel
theorem dX8_compareTriples_59 : decode cX8_compareTriples 59 = .ok (.iconst 0, 1) := by decide +kernel
theorem dX8_compareTriples_60 : decode cX8_compareTriples 60 = .ok (.ireturn, 1) := by decide +kernel
theorem dX8_numbered_0 : decode cX8_numbered 0 = .ok (.iload_n 1, 1) := by decide +kernel
theorem dX8_numbered_1 : decode cX8_numbered 1 = .ok (.ifCond .le 7, 3) := by decide +kernel
theorem dX8_numbered_4 : decode cX8_numbered 4 = .ok (.iload_n 1, 1) := by decide +kernel
theorem dX8_numbered_5 : decode cX8_numbered 5 = .ok (.goto 11, 3) := by decide +kernel
theorem dX8_numbered_8 : decode cX8_numbered 8 = .ok (.aload_n 0, 1) := by decide +kernel
theorem dX8_numbered_9 : decode cX8_numbered 9 = .ok (.getfield 167, 3) := by decide +kernel
theorem dX8_numbered_12 : decode cX8_numbered 12 = .ok (.iload_n 1, 1) := by decide +kernel
theorem dX8_numbered_13 : decode cX8_numbered 13 = .ok (.ineg, 1) := by decide +kernel
theorem dX8_numbered_14 : decode cX8_numbered 14 = .ok (.iaload, 1) := by decide +kernel
theorem dX8_numbered_15 : decode cX8_numbered 15 = .ok (.ineg, 1) := by decide +kernel
theorem dX8_numbered_16 : decode cX8_numbered 16 = .ok (.ireturn, 1) := by decide +kernel
theorem dX8_makeRow_0 : decode cX8_makeRow 0 = .ok (.iconst 0, 1) := by decide +kernel
theorem dX8_makeRow_1 : decode cX8_makeRow 1 = .ok (.istore_n 1, 1) := by decide +kernel
theorem dX8_makeRow_2 : decode cX8_makeRow 2 = .ok (.iload_n 1, 1) := by decide +kernel
theorem dX8_makeRow_3 : decode cX8_makeRow 3 = .ok (.aload_n 0, 1) := by decide +kernel
theorem dX8_makeRow_4 : decode cX8_makeRow 4 = .ok (.getfield 149, 3) := by decide +kernel
theorem dX8_makeRow_7 : decode cX8_makeRow 7 = .ok (.bipush 8, 2) := by decide +kernel
theorem dX8_makeRow_9 : decode cX8_makeRow 9 = .ok (.iaload, 1) := by decide +kernel
theorem dX8_makeRow_10 : decode cX8_makeRow 10 = .ok (.if_icmp .ge 187, 3) := by decide +kernel
theorem dX8_makeRow_13 : decode cX8_makeRow 13 = .ok (.bipush 8, 2) := by decide +kernel
theorem dX8_makeRow_15 : decode cX8_makeRow 15 = .ok (.iload_n 1, 1) := by decide +kernel
theorem dX8_makeRow_16 : decode cX8_makeRow 16 = .ok (.invokestatic 245, 3) := by decide +kernel
theorem dX8_makeRow_19 : decode cX8_makeRow 19 = .ok (.istore_n 2, 1) := by decide +kernel
theorem dX8_makeRow_20 : decode cX8_makeRow 20 = .ok (.iload_n 1, 1) := by decide +kernel
theorem dX8_makeRow_21 : decode cX8_makeRow 21 = .ok (.istore_n 3, 1) := by decide +kernel
theorem dX8_makeRow_22 : decode cX8_makeRow 22 = .ok (.aload_n 0, 1) := by decide +kernel
theorem dX8_makeRow_23 : decode cX8_makeRow 23 = .ok (.aload_n 0, 1) := by decide +kernel
theorem dX8_makeRow_24 : decode cX8_makeRow 24 = .ok (.getfield 152, 3) := by decide +kernel
theorem dX8_makeRow_27 : decode cX8_makeRow 27 = .ok (.iload_n 2, 1) := by decide +kernel
theorem dX8_makeRow_28 : decode cX8_makeRow 28 = .ok (.iaload, 1) := by decide +kernel
theorem dX8_makeRow_29 : decode cX8_makeRow 29 = .ok (.invokevirtual 300, 3) := by decide +kernel
theorem dX8_makeRow_32 : decode cX8_makeRow 32 = .ok (.istore 4, 2) := by decide +kernel
theorem dX8_makeRow_34 : decode cX8_makeRow 34 = .ok (.aload_n 0, 1) := by decide +kernel
theorem dX8_makeRow_35 : decode cX8_makeRow 35 = .ok (.aload_n 0, 1) := by decide +kernel
theorem dX8_makeRow_36 : decode cX8_makeRow 36 = .ok (.getfield 152, 3) := by decide +kernel
theorem dX8_makeRow_39 : decode cX8_makeRow 39 = .ok (.iload_n 2, 1) := by decide +kernel
theorem dX8_makeRow_40 : decode cX8_makeRow 40 = .ok (.iconst 1, 1) := by decide +kernel
theorem dX8_makeRow_41 : decode cX8_makeRow 41 = .ok (.iadd, 1) := by decide +kernel
theorem dX8_makeRow_42 : decode cX8_makeRow 42 = .ok (.iaload, 1) := by decide +kernel
theorem dX8_makeRow_43 : decode cX8_makeRow 43 = .ok (.invokevirtual 300, 3) := by decide +kernel
theorem dX8_makeRow_46 : decode cX8_makeRow 46 = .ok (.istore 5, 2) := by decide +kernel
theorem dX8_makeRow_48 : decode cX8_makeRow 48 = .ok (.aload_n 0, 1) := by decide +kernel
theorem dX8_makeRow_49 : decode cX8_makeRow 49 = .ok (.aload_n 0, 1) := by decide +kernel
theorem dX8_makeRow_50 : decode cX8_makeRow 50 = .ok (.getfield 152, 3) := by decide +kernel
theorem dX8_makeRow_53 : decode cX8_makeRow 53 = .ok (.iload_n 2, 1) := by decide +kernel
theorem dX8_makeRow_54 : decode cX8_makeRow 54 = .ok (.iconst 2, 1) := by decide +kernel
theorem dX8_makeRow_55 : decode cX8_makeRow 55 = .ok (.iadd, 1) := by decide +kernel
theorem dX8_makeRow_56 : decode cX8_makeRow 56 = .ok (.iaload, 1) := by decide +kernel
theorem dX8_makeRow_57 : decode cX8_makeRow 57 = .ok (.invokevirtual 300, 3) := by decide +kernel
theorem dX8_makeRow_60 : decode cX8_makeRow 60 = .ok (.istore 6, 2) := by decide +kernel
theorem dX8_makeRow_62 : decode cX8_makeRow 62 = .ok (.aload_n 0, 1) := by decide +kernel
theorem dX8_makeRow_63 : decode cX8_makeRow 63 = .ok (.getfield 170, 3) := by decide +kernel
theorem dX8_makeRow_66 : decode cX8_makeRow 66 = .ok (.iconst 3, 1) := by decide +kernel
theorem dX8_makeRow_67 : decode cX8_makeRow 67 = .ok (.iload_n 3, 1) := by decide +kernel
theorem dX8_makeRow_68 : decode cX8_makeRow 68 = .ok (.imul, 1) := by decide +kernel
theorem dX8_makeRow_69 : decode cX8_makeRow 69 = .ok (.iload 4, 2) := by decide +kernel
theorem dX8_makeRow_71 : decode cX8_makeRow 71 = .ok (.iastore, 1) := by decide +kernel
theorem dX8_makeRow_72 : decode cX8_makeRow 72 = .ok (.aload_n 0, 1) := by decide +kernel
theorem dX8_makeRow_73 : decode cX8_makeRow 73 = .ok (.getfield 170, 3) := by decide +kernel
theorem dX8_makeRow_76 : decode cX8_makeRow 76 = .ok (.iconst 3, 1) := by decide +kernel
theorem dX8_makeRow_77 : decode cX8_makeRow 77 = .ok (.iload_n 3, 1) := by decide +kernel
theorem dX8_makeRow_78 : decode cX8_makeRow 78 = .ok (.imul, 1) := by decide +kernel
theorem dX8_makeRow_79 : decode cX8_makeRow 79 = .ok (.iconst 1, 1) := by decide +kernel
theorem dX8_makeRow_80 : decode cX8_makeRow 80 = .ok (.iadd, 1) := by decide +kernel
theorem dX8_makeRow_81 : decode cX8_makeRow 81 = .ok (.iload 5, 2) := by decide +kernel
theorem dX8_makeRow_83 : decode cX8_makeRow 83 = .ok (.iastore, 1) := by decide +kernel
theorem dX8_makeRow_84 : decode cX8_makeRow 84 = .ok (.aload_n 0, 1) := by decide +kernel
theorem dX8_makeRow_85 : decode cX8_makeRow 85 = .ok (.getfield 170, 3) := by decide +kernel
theorem dX8_makeRow_88 : decode cX8_makeRow 88 = .ok (.iconst 3, 1) := by decide +kernel
theorem dX8_makeRow_89 : decode cX8_makeRow 89 = .ok (.iload_n 3, 1) := by decide +kernel
theorem dX8_makeRow_90 : decode cX8_makeRow 90 = .ok (.imul, 1) := by decide +kernel
theorem dX8_makeRow_91 : decode cX8_makeRow 91 = .ok (.iconst 2, 1) := by decide +kernel
theorem dX8_makeRow_92 : decode cX8_makeRow 92 = .ok (.iadd, 1) := by decide +kernel
theorem dX8_makeRow_93 : decode cX8_makeRow 93 = .ok (.iload 6, 2) := by decide +kernel
theorem dX8_makeRow_95 : decode cX8_makeRow 95 = .ok (.iastore, 1) := by decide +kernel
theorem dX8_makeRow_96 : decode cX8_makeRow 96 = .ok (.iload_n 3, 1) := by decide +kernel
theorem dX8_makeRow_97 : decode cX8_makeRow 97 = .ok (.ifCond .le 94, 3) := by decide +kernel
theorem dX8_makeRow_100 : decode cX8_makeRow 100 = .ok (.aload_n 0, 1) := by decide +kernel
theorem dX8_makeRow_101 : decode cX8_makeRow 101 = .ok (.getfield 170, 3) := by decide +kernel
theorem dX8_makeRow_104 : decode cX8_makeRow 104 = .ok (.iload_n 3, 1) := by decide +kernel
theorem dX8_makeRow_105 : decode cX8_makeRow 105 = .ok (.aload_n 0, 1) := by decide +kernel
theorem dX8_makeRow_106 : decode cX8_makeRow 106 = .ok (.getfield 170, 3) := by decide +kernel
theorem dX8_makeRow_109 : decode cX8_makeRow 109 = .ok (.iload_n 3, 1) := by decide +kernel
theorem dX8_makeRow_110 : decode cX8_makeRow 110 = .ok (.iconst 1, 1) := by decide +kernel
theorem dX8_makeRow_111 : decode cX8_makeRow 111 = .ok (.isub, 1) := by decide +kernel
theorem dX8_makeRow_112 : decode cX8_makeRow 112 = .ok (.invokestatic 304, 3) := by decide +kernel
theorem dX8_makeRow_115 : decode cX8_makeRow 115 = .ok (.ifCond .ge 76, 3) := by decide +kernel
theorem dX8_makeRow_118 : decode cX8_makeRow 118 = .ok (.iconst 0, 1) := by decide +kernel
theorem dX8_makeRow_119 : decode cX8_makeRow 119 = .ok (.istore 7, 2) := by decide +kernel
theorem dX8_makeRow_121 : decode cX8_makeRow 121 = .ok (.iload 7, 2) := by decide +kernel
theorem dX8_makeRow_123 : decode cX8_makeRow 123 = .ok (.iconst 3, 1) := by decide +kernel
theorem dX8_makeRow_124 : decode cX8_makeRow 124 = .ok (.if_icmp .ge 61, 3) := by decide +kernel
theorem dX8_makeRow_127 : decode cX8_makeRow 127 = .ok (.aload_n 0, 1) := by decide +kernel
theorem dX8_makeRow_128 : decode cX8_makeRow 128 = .ok (.getfield 170, 3) := by decide +kernel
theorem dX8_makeRow_131 : decode cX8_makeRow 131 = .ok (.iconst 3, 1) := by decide +kernel
theorem dX8_makeRow_132 : decode cX8_makeRow 132 = .ok (.iload_n 3, 1) := by decide +kernel
theorem dX8_makeRow_133 : decode cX8_makeRow 133 = .ok (.imul, 1) := by decide +kernel
theorem dX8_makeRow_134 : decode cX8_makeRow 134 = .ok (.iload 7, 2) := by decide +kernel
theorem dX8_makeRow_136 : decode cX8_makeRow 136 = .ok (.iadd, 1) := by decide +kernel
theorem dX8_makeRow_137 : decode cX8_makeRow 137 = .ok (.iaload, 1) := by decide +kernel
theorem dX8_makeRow_138 : decode cX8_makeRow 138 = .ok (.istore 8, 2) := by decide +kernel
theorem dX8_makeRow_140 : decode cX8_makeRow 140 = .ok (.aload_n 0, 1) := by decide +kernel
theorem dX8_makeRow_141 : decode cX8_makeRow 141 = .ok (.getfield 170, 3) := by decide +kernel
theorem dX8_makeRow_144 : decode cX8_makeRow 144 = .ok (.iconst 3, 1) := by decide +kernel
theorem dX8_makeRow_145 : decode cX8_makeRow 145 = .ok (.iload_n 3, 1) := by decide +kernel
theorem dX8_makeRow_146 : decode cX8_makeRow 146 = .ok (.imul, 1) := by decide +kernel
theorem dX8_makeRow_147 : decode cX8_makeRow 147 = .ok (.iload 7, 2) := by decide +kernel
theorem dX8_makeRow_149 : decode cX8_makeRow 149 = .ok (.iadd, 1) := by decide +kernel
theorem dX8_makeRow_150 : decode cX8_makeRow 150 = .ok (.aload_n 0, 1) := by decide +kernel
theorem dX8_makeRow_151 : decode cX8_makeRow 151 = .ok (.getfield 170, 3) := by decide +kernel
theorem dX8_makeRow_154 : decode cX8_makeRow 154 = .ok (.iconst 3, 1) := by decide +kernel
theorem dX8_makeRow_155 : decode cX8_makeRow 155 = .ok (.iload_n 3, 1) := by decide +kernel
theorem dX8_makeRow_156 : decode cX8_makeRow 156 = .ok (.imul, 1) := by decide +kernel
theorem dX8_makeRow_157 : decode cX8_makeRow 157 = .ok (.iconst 3, 1) := by decide +kernel
theorem dX8_makeRow_158 : decode cX8_makeRow 158 = .ok (.isub, 1) := by decide +kernel
theorem dX8_makeRow_159 : decode cX8_makeRow 159 = .ok (.iload 7, 2) := by decide +kernel
theorem dX8_makeRow_161 : decode cX8_makeRow 161 = .ok (.iadd, 1) := by decide +kernel
theorem dX8_makeRow_162 : decode cX8_makeRow 162 = .ok (.iaload, 1) := by decide +kernel
theorem dX8_makeRow_163 : decode cX8_makeRow 163 = .ok (.iastore, 1) := by decide +kernel
theorem dX8_makeRow_164 : decode cX8_makeRow 164 = .ok (.aload_n 0, 1) := by decide +kernel
theorem dX8_makeRow_165 : decode cX8_makeRow 165 = .ok (.getfield 170, 3) := by decide +kernel
theorem dX8_makeRow_168 : decode cX8_makeRow 168 = .ok (.iconst 3, 1) := by decide +kernel
theorem dX8_makeRow_169 : decode cX8_makeRow 169 = .ok (.iload_n 3, 1) := by decide +kernel
theorem dX8_makeRow_170 : decode cX8_makeRow 170 = .ok (.imul, 1) := by decide +kernel
theorem dX8_makeRow_171 : decode cX8_makeRow 171 = .ok (.iconst 3, 1) := by decide +kernel
theorem dX8_makeRow_172 : decode cX8_makeRow 172 = .ok (.isub, 1) := by decide +kernel
theorem dX8_makeRow_173 : decode cX8_makeRow 173 = .ok (.iload 7, 2) := by decide +kernel
theorem dX8_makeRow_175 : decode cX8_makeRow 175 = .ok (.iadd, 1) := by decide +kernel
theorem dX8_makeRow_176 : decode cX8_makeRow 176 = .ok (.iload 8, 2) := by decide +kernel
theorem dX8_makeRow_178 : decode cX8_makeRow 178 = .ok (.iastore, 1) := by decide +kernel
theorem dX8_makeRow_179 : decode cX8_makeRow 179 = .ok (.iinc 7 1, 3) := by decide +kernel
theorem dX8_makeRow_182 : decode cX8_makeRow 182 = .ok (.goto (-61), 3) := by decide +kernel
theorem dX8_makeRow_185 : decode cX8_makeRow 185 = .ok (.iinc 3 (-1), 3) := by decide +kernel
theorem dX8_makeRow_188 : decode cX8_makeRow 188 = .ok (.goto (-92), 3) := by decide +kernel
theorem dX8_makeRow_191 : decode cX8_makeRow 191 = .ok (.iinc 1 1, 3) := by decide +kernel
theorem dX8_makeRow_194 : decode cX8_makeRow 194 = .ok (.goto (-192), 3) := by decide +kernel
theorem dX8_makeRow_197 : decode cX8_makeRow 197 = .ok (.return_, 1) := by decide +kernel
theorem dX8_compareForm_0 : decode cX8_compareForm 0 = .ok (.iconst 0, 1) := by decide +kernel
theorem dX8_compareForm_1 : decode cX8_compareForm 1 = .ok (.istore_n 1, 1) := by decide +kernel
theorem dX8_compareForm_2 : decode cX8_compareForm 2 = .ok (.iload_n 1, 1) := by decide +kernel
theorem dX8_compareForm_3 : decode cX8_compareForm 3 = .ok (.aload_n 0, 1) := by decide +kernel
theorem dX8_compareForm_4 : decode cX8_compareForm 4 = .ok (.getfield 149, 3) := by decide +kernel
theorem dX8_compareForm_7 : decode cX8_compareForm 7 = .ok (.bipush 8, 2) := by decide +kernel
theorem dX8_compareForm_9 : decode cX8_compareForm 9 = .ok (.iaload, 1) := by decide +kernel
theorem dX8_compareForm_10 : decode cX8_compareForm 10 = .ok (.if_icmp .ge 29, 3) := by decide +kernel
theorem dX8_compareForm_13 : decode cX8_compareForm 13 = .ok (.aload_n 0, 1) := by decide +kernel
theorem dX8_compareForm_14 : decode cX8_compareForm 14 = .ok (.getfield 170, 3) := by decide +kernel
theorem dX8_compareForm_17 : decode cX8_compareForm 17 = .ok (.iload_n 1, 1) := by decide +kernel
theorem dX8_compareForm_18 : decode cX8_compareForm 18 = .ok (.aload_n 0, 1) := by decide +kernel
theorem dX8_compareForm_19 : decode cX8_compareForm 19 = .ok (.getfield 176, 3) := by decide +kernel
theorem dX8_compareForm_22 : decode cX8_compareForm 22 = .ok (.iload_n 1, 1) := by decide +kernel
theorem dX8_compareForm_23 : decode cX8_compareForm 23 = .ok (.invokestatic 304, 3) := by decide +kernel
theorem dX8_compareForm_26 : decode cX8_compareForm 26 = .ok (.istore_n 2, 1) := by decide +kernel
theorem dX8_compareForm_27 : decode cX8_compareForm 27 = .ok (.iload_n 2, 1) := by decide +kernel
theorem dX8_compareForm_28 : decode cX8_compareForm 28 = .ok (.ifCond .eq 5, 3) := by decide +kernel
theorem dX8_compareForm_31 : decode cX8_compareForm 31 = .ok (.iload_n 2, 1) := by decide +kernel
theorem dX8_compareForm_32 : decode cX8_compareForm 32 = .ok (.ireturn, 1) := by decide +kernel
theorem dX8_compareForm_33 : decode cX8_compareForm 33 = .ok (.iinc 1 1, 3) := by decide +kernel
theorem dX8_compareForm_36 : decode cX8_compareForm 36 = .ok (.goto (-34), 3) := by decide +kernel
theorem dX8_compareForm_39 : decode cX8_compareForm 39 = .ok (.iconst 0, 1) := by decide +kernel
theorem dX8_compareForm_40 : decode cX8_compareForm 40 = .ok (.ireturn, 1) := by decide +kernel
theorem dX8_namings_0 : decode cX8_namings 0 = .ok (.lconst 1, 1) := by decide +kernel
theorem dX8_namings_1 : decode cX8_namings 1 = .ok (.lstore_n 1, 1) := by decide +kernel
theorem dX8_namings_2 : decode cX8_namings 2 = .ok (.iconst 0, 1) := by decide +kernel
theorem dX8_namings_3 : decode cX8_namings 3 = .ok (.istore_n 3, 1) := by decide +kernel
theorem dX8_namings_4 : decode cX8_namings 4 = .ok (.iload_n 3, 1) := by decide +kernel
theorem dX8_namings_5 : decode cX8_namings 5 = .ok (.aload_n 0, 1) := by decide +kernel
theorem dX8_namings_6 : decode cX8_namings 6 = .ok (.getfield 291, 3) := by decide +kernel
theorem dX8_namings_9 : decode cX8_namings 9 = .ok (.if_icmp .ge 75, 3) := by decide +kernel
theorem dX8_namings_12 : decode cX8_namings 12 = .ok (.iconst 0, 1) := by decide +kernel
theorem dX8_namings_13 : decode cX8_namings 13 = .ok (.istore 4, 2) := by decide +kernel
theorem dX8_namings_15 : decode cX8_namings 15 = .ok (.iconst 1, 1) := by decide +kernel
theorem dX8_namings_16 : decode cX8_namings 16 = .ok (.istore 5, 2) := by decide +kernel
theorem dX8_namings_18 : decode cX8_namings 18 = .ok (.iload 5, 2) := by decide +kernel
theorem dX8_namings_20 : decode cX8_namings 20 = .ok (.aload_n 0, 1) := by decide +kernel
theorem dX8_namings_21 : decode cX8_namings 21 = .ok (.getfield 145, 3) := by decide +kernel
theorem dX8_namings_24 : decode cX8_namings 24 = .ok (.bipush 8, 2) := by decide +kernel
theorem dX8_namings_26 : decode cX8_namings 26 = .ok (.iaload, 1) := by decide +kernel
theorem dX8_namings_27 : decode cX8_namings 27 = .ok (.if_icmp .gt 51, 3) := by decide +kernel
theorem dX8_namings_30 : decode cX8_namings 30 = .ok (.iload 4, 2) := by decide +kernel
theorem dX8_namings_32 : decode cX8_namings 32 = .ok (.aload_n 0, 1) := by decide +kernel
theorem dX8_namings_33 : decode cX8_namings 33 = .ok (.getfield 161, 3) := by decide +kernel
theorem dX8_namings_36 : decode cX8_namings 36 = .ok (.iload 5, 2) := by decide +kernel
theorem dX8_namings_38 : decode cX8_namings 38 = .ok (.iaload, 1) := by decide +kernel
theorem dX8_namings_39 : decode cX8_namings 39 = .ok (.iload_n 3, 1) := by decide +kernel
theorem dX8_namings_40 : decode cX8_namings 40 = .ok (.if_icmp .ne 7, 3) := by decide +kernel
theorem dX8_namings_43 : decode cX8_namings 43 = .ok (.iconst 1, 1) := by decide +kernel
theorem dX8_namings_44 : decode cX8_namings 44 = .ok (.goto 4, 3) := by decide +kernel
theorem dX8_namings_47 : decode cX8_namings 47 = .ok (.iconst 0, 1) := by decide +kernel
theorem dX8_namings_48 : decode cX8_namings 48 = .ok (.iadd, 1) := by decide +kernel
theorem dX8_namings_49 : decode cX8_namings 49 = .ok (.istore 4, 2) := by decide +kernel
theorem dX8_namings_51 : decode cX8_namings 51 = .ok (.aload_n 0, 1) := by decide +kernel
theorem dX8_namings_52 : decode cX8_namings 52 = .ok (.getfield 161, 3) := by decide +kernel
theorem dX8_namings_55 : decode cX8_namings 55 = .ok (.iload 5, 2) := by decide +kernel
theorem dX8_namings_57 : decode cX8_namings 57 = .ok (.iaload, 1) := by decide +kernel
theorem dX8_namings_58 : decode cX8_namings 58 = .ok (.iload_n 3, 1) := by decide +kernel
theorem dX8_namings_59 : decode cX8_namings 59 = .ok (.if_icmp .ne 11, 3) := by decide +kernel
theorem dX8_namings_62 : decode cX8_namings 62 = .ok (.lload_n 1, 1) := by decide +kernel
theorem dX8_namings_63 : decode cX8_namings 63 = .ok (.iload 4, 2) := by decide +kernel
theorem dX8_namings_65 : decode cX8_namings 65 = .ok (.i2l, 1) := by decide +kernel
theorem dX8_namings_66 : decode cX8_namings 66 = .ok (.lmul, 1) := by decide +kernel
theorem dX8_namings_67 : decode cX8_namings 67 = .ok (.goto 4, 3) := by decide +kernel
theorem dX8_namings_70 : decode cX8_namings 70 = .ok (.lload_n 1, 1) := by decide +kernel
theorem dX8_namings_71 : decode cX8_namings 71 = .ok (.lstore_n 1, 1) := by decide +kernel
theorem dX8_namings_72 : decode cX8_namings 72 = .ok (.iinc 5 1, 3) := by decide +kernel
theorem dX8_namings_75 : decode cX8_namings 75 = .ok (.goto (-57), 3) := by decide +kernel
theorem dX8_namings_78 : decode cX8_namings 78 = .ok (.iinc 3 1, 3) := by decide +kernel
theorem dX8_namings_81 : decode cX8_namings 81 = .ok (.goto (-77), 3) := by decide +kernel
theorem dX8_namings_84 : decode cX8_namings 84 = .ok (.lload_n 1, 1) := by decide +kernel
theorem dX8_namings_85 : decode cX8_namings 85 = .ok (.lreturn, 1) := by decide +kernel
theorem dX8_name_0 : decode cX8_name 0 = .ok (.aload_n 0, 1) := by decide +kernel
theorem dX8_name_1 : decode cX8_name 1 = .ok (.iconst 0, 1) := by decide +kernel
theorem dX8_name_2 : decode cX8_name 2 = .ok (.putfield 1, 3) := by decide +kernel
theorem dX8_name_5 : decode cX8_name 5 = .ok (.aload_n 0, 1) := by decide +kernel
theorem dX8_name_6 : decode cX8_name 6 = .ok (.invokevirtual 294, 3) := by decide +kernel
theorem dX8_name_9 : decode cX8_name 9 = .ok (.aload_n 0, 1) := by decide +kernel
theorem dX8_name_10 : decode cX8_name 10 = .ok (.invokevirtual 308, 3) := by decide +kernel
theorem dX8_name_13 : decode cX8_name 13 = .ok (.lload_n 1, 1) := by decide +kernel
theorem dX8_name_14 : decode cX8_name 14 = .ok (.lcmp, 1) := by decide +kernel
theorem dX8_name_15 : decode cX8_name 15 = .ok (.ifCond .le 5, 3) := by decide +kernel
theorem dX8_name_18 : decode cX8_name 18 = .ok (.iconst (-1), 1) := by decide +kernel
theorem dX8_name_19 : decode cX8_name 19 = .ok (.ireturn, 1) := by decide +kernel
theorem dX8_name_20 : decode cX8_name 20 = .ok (.aload_n 0, 1) := by decide +kernel
theorem dX8_name_21 : decode cX8_name 21 = .ok (.getfield 145, 3) := by decide +kernel
theorem dX8_name_24 : decode cX8_name 24 = .ok (.bipush 8, 2) := by decide +kernel
theorem dX8_name_26 : decode cX8_name 26 = .ok (.iaload, 1) := by decide +kernel
theorem dX8_name_27 : decode cX8_name 27 = .ok (.istore_n 3, 1) := by decide +kernel
theorem dX8_name_28 : decode cX8_name 28 = .ok (.iconst 0, 1) := by decide +kernel
theorem dX8_name_29 : decode cX8_name 29 = .ok (.istore 4, 2) := by decide +kernel
theorem dX8_name_31 : decode cX8_name 31 = .ok (.aload_n 0, 1) := by decide +kernel
theorem dX8_name_32 : decode cX8_name 32 = .ok (.iload_n 3, 1) := by decide +kernel
theorem dX8_name_33 : decode cX8_name 33 = .ok (.invokevirtual 312, 3) := by decide +kernel
theorem dX8_name_36 : decode cX8_name 36 = .ok (.iconst 1, 1) := by decide +kernel
theorem dX8_name_37 : decode cX8_name 37 = .ok (.istore 5, 2) := by decide +kernel
theorem dX8_name_39 : decode cX8_name 39 = .ok (.iload 5, 2) := by decide +kernel
theorem dX8_name_41 : decode cX8_name 41 = .ok (.ifCond .eq 75, 3) := by decide +kernel
theorem dX8_name_44 : decode cX8_name 44 = .ok (.aload_n 0, 1) := by decide +kernel
theorem dX8_name_45 : decode cX8_name 45 = .ok (.iload_n 3, 1) := by decide +kernel
theorem dX8_name_46 : decode cX8_name 46 = .ok (.invokevirtual 315, 3) := by decide +kernel
theorem dX8_name_49 : decode cX8_name 49 = .ok (.ifCond .eq 57, 3) := by decide +kernel
theorem dX8_name_52 : decode cX8_name 52 = .ok (.aload_n 0, 1) := by decide +kernel
theorem dX8_name_53 : decode cX8_name 53 = .ok (.invokevirtual 318, 3) := by decide +kernel
theorem dX8_name_56 : decode cX8_name 56 = .ok (.iload 4, 2) := by decide +kernel
theorem dX8_name_58 : decode cX8_name 58 = .ok (.ifCond .ne 7, 3) := by decide +kernel
theorem dX8_name_61 : decode cX8_name 61 = .ok (.iconst (-1), 1) := by decide +kernel
theorem dX8_name_62 : decode cX8_name 62 = .ok (.goto 7, 3) := by decide +kernel
theorem dX8_name_65 : decode cX8_name 65 = .ok (.aload_n 0, 1) := by decide +kernel
theorem dX8_name_66 : decode cX8_name 66 = .ok (.invokevirtual 321, 3) := by decide +kernel
theorem dX8_name_69 : decode cX8_name 69 = .ok (.istore 6, 2) := by decide +kernel
theorem dX8_name_71 : decode cX8_name 71 = .ok (.iload 6, 2) := by decide +kernel
theorem dX8_name_73 : decode cX8_name 73 = .ok (.ifCond .ge 8, 3) := by decide +kernel
theorem dX8_name_76 : decode cX8_name 76 = .ok (.aload_n 0, 1) := by decide +kernel
theorem dX8_name_77 : decode cX8_name 77 = .ok (.iload_n 3, 1) := by decide +kernel
theorem dX8_name_78 : decode cX8_name 78 = .ok (.invokevirtual 325, 3) := by decide +kernel
theorem dX8_name_81 : decode cX8_name 81 = .ok (.iload 6, 2) := by decide +kernel
theorem dX8_name_83 : decode cX8_name 83 = .ok (.ifCond .ge 7, 3) := by decide +kernel
theorem dX8_name_86 : decode cX8_name 86 = .ok (.iconst 1, 1) := by decide +kernel
theorem dX8_name_87 : decode cX8_name 87 = .ok (.goto 17, 3) := by decide +kernel
theorem dX8_name_90 : decode cX8_name 90 = .ok (.iload 6, 2) := by decide +kernel
theorem dX8_name_92 : decode cX8_name 92 = .ok (.ifCond .ne 10, 3) := by decide +kernel
theorem dX8_name_95 : decode cX8_name 95 = .ok (.iload 4, 2) := by decide +kernel
theorem dX8_name_97 : decode cX8_name 97 = .ok (.iconst 1, 1) := by decide +kernel
theorem dX8_name_98 : decode cX8_name 98 = .ok (.iadd, 1) := by decide +kernel
theorem dX8_name_99 : decode cX8_name 99 = .ok (.goto 5, 3) := by decide +kernel
theorem dX8_name_102 : decode cX8_name 102 = .ok (.iload 4, 2) := by decide +kernel
theorem dX8_name_104 : decode cX8_name 104 = .ok (.istore 4, 2) := by decide +kernel
theorem dX8_name_106 : decode cX8_name 106 = .ok (.aload_n 0, 1) := by decide +kernel
theorem dX8_name_107 : decode cX8_name 107 = .ok (.iload_n 3, 1) := by decide +kernel
theorem dX8_name_108 : decode cX8_name 108 = .ok (.invokevirtual 328, 3) := by decide +kernel
theorem dX8_name_111 : decode cX8_name 111 = .ok (.istore 5, 2) := by decide +kernel
theorem dX8_name_113 : decode cX8_name 113 = .ok (.goto (-74), 3) := by decide +kernel
theorem dX8_name_116 : decode cX8_name 116 = .ok (.aload_n 0, 1) := by decide +kernel
theorem dX8_name_117 : decode cX8_name 117 = .ok (.iload_n 3, 1) := by decide +kernel
theorem dX8_name_118 : decode cX8_name 118 = .ok (.putfield 331, 3) := by decide +kernel
theorem dX8_name_121 : decode cX8_name 121 = .ok (.aload_n 0, 1) := by decide +kernel
theorem dX8_name_122 : decode cX8_name 122 = .ok (.aload_n 0, 1) := by decide +kernel
theorem dX8_name_123 : decode cX8_name 123 = .ok (.getfield 149, 3) := by decide +kernel
theorem dX8_name_126 : decode cX8_name 126 = .ok (.bipush 8, 2) := by decide +kernel
theorem dX8_name_128 : decode cX8_name 128 = .ok (.iaload, 1) := by decide +kernel
theorem dX8_name_129 : decode cX8_name 129 = .ok (.putfield 334, 3) := by decide +kernel
theorem dX8_name_132 : decode cX8_name 132 = .ok (.aload_n 0, 1) := by decide +kernel
theorem dX8_name_133 : decode cX8_name 133 = .ok (.iconst 0, 1) := by decide +kernel
theorem dX8_name_134 : decode cX8_name 134 = .ok (.putfield 235, 3) := by decide +kernel
theorem dX8_name_137 : decode cX8_name 137 = .ok (.iconst 0, 1) := by decide +kernel
theorem dX8_name_138 : decode cX8_name 138 = .ok (.istore 6, 2) := by decide +kernel
theorem dX8_name_140 : decode cX8_name 140 = .ok (.iload 6, 2) := by decide +kernel
theorem dX8_name_142 : decode cX8_name 142 = .ok (.iconst 3, 1) := by decide +kernel
theorem dX8_name_143 : decode cX8_name 143 = .ok (.aload_n 0, 1) := by decide +kernel
theorem dX8_name_144 : decode cX8_name 144 = .ok (.getfield 334, 3) := by decide +kernel
theorem dX8_name_147 : decode cX8_name 147 = .ok (.imul, 1) := by decide +kernel
theorem dX8_name_148 : decode cX8_name 148 = .ok (.if_icmp .ge 21, 3) := by decide +kernel
theorem dX8_name_151 : decode cX8_name 151 = .ok (.aload_n 0, 1) := by decide +kernel
theorem dX8_name_152 : decode cX8_name 152 = .ok (.aload_n 0, 1) := by decide +kernel
theorem dX8_name_153 : decode cX8_name 153 = .ok (.getfield 176, 3) := by decide +kernel
theorem dX8_name_156 : decode cX8_name 156 = .ok (.iload 6, 2) := by decide +kernel
theorem dX8_name_158 : decode cX8_name 158 = .ok (.iaload, 1) := by decide +kernel
theorem dX8_name_159 : decode cX8_name 159 = .ok (.i2l, 1) := by decide +kernel
theorem dX8_name_160 : decode cX8_name 160 = .ok (.invokevirtual 266, 3) := by decide +kernel
theorem dX8_name_163 : decode cX8_name 163 = .ok (.iinc 6 1, 3) := by decide +kernel
theorem dX8_name_166 : decode cX8_name 166 = .ok (.goto (-26), 3) := by decide +kernel
theorem dX8_name_169 : decode cX8_name 169 = .ok (.aload_n 0, 1) := by decide +kernel
theorem dX8_name_170 : decode cX8_name 170 = .ok (.aload_n 0, 1) := by decide +kernel
theorem dX8_name_171 : decode cX8_name 171 = .ok (.getfield 235, 3) := by decide +kernel
theorem dX8_name_174 : decode cX8_name 174 = .ok (.invokevirtual 199, 3) := by decide +kernel
theorem dX8_name_177 : decode cX8_name 177 = .ok (.aload_n 0, 1) := by decide +kernel
theorem dX8_name_178 : decode cX8_name 178 = .ok (.invokevirtual 203, 3) := by decide +kernel
theorem dX8_name_181 : decode cX8_name 181 = .ok (.iload 4, 2) := by decide +kernel
theorem dX8_name_183 : decode cX8_name 183 = .ok (.ireturn, 1) := by decide +kernel
theorem dX8_take_0 : decode cX8_take 0 = .ok (.iconst 1, 1) := by decide +kernel
theorem dX8_take_1 : decode cX8_take 1 = .ok (.istore_n 2, 1) := by decide +kernel
theorem dX8_take_2 : decode cX8_take 2 = .ok (.iload_n 2, 1) := by decide +kernel
theorem dX8_take_3 : decode cX8_take 3 = .ok (.iload_n 1, 1) := by decide +kernel
theorem dX8_take_4 : decode cX8_take 4 = .ok (.if_icmp .gt 21, 3) := by decide +kernel
theorem dX8_take_7 : decode cX8_take 7 = .ok (.aload_n 0, 1) := by decide +kernel
theorem dX8_take_8 : decode cX8_take 8 = .ok (.getfield 173, 3) := by decide +kernel
theorem dX8_take_11 : decode cX8_take 11 = .ok (.iload_n 2, 1) := by decide +kernel
theorem dX8_take_12 : decode cX8_take 12 = .ok (.aload_n 0, 1) := by decide +kernel
theorem dX8_take_13 : decode cX8_take 13 = .ok (.getfield 167, 3) := by decide +kernel
theorem dX8_take_16 : decode cX8_take 16 = .ok (.iload_n 2, 1) := by decide +kernel
theorem dX8_take_17 : decode cX8_take 17 = .ok (.iaload, 1) := by decide +kernel
theorem dX8_take_18 : decode cX8_take 18 = .ok (.iastore, 1) := by decide +kernel
theorem dX8_take_19 : decode cX8_take 19 = .ok (.iinc 2 1, 3) := by decide +kernel
theorem dX8_take_22 : decode cX8_take 22 = .ok (.goto (-20), 3) := by decide +kernel
theorem dX8_take_25 : decode cX8_take 25 = .ok (.iconst 0, 1) := by decide +kernel
theorem dX8_take_26 : decode cX8_take 26 = .ok (.istore_n 2, 1) := by decide +kernel
theorem dX8_take_27 : decode cX8_take 27 = .ok (.iload_n 2, 1) := by decide +kernel
theorem dX8_take_28 : decode cX8_take 28 = .ok (.iconst 3, 1) := by decide +kernel
theorem dX8_take_29 : decode cX8_take 29 = .ok (.aload_n 0, 1) := by decide +kernel
theorem dX8_take_30 : decode cX8_take 30 = .ok (.getfield 149, 3) := by decide +kernel
theorem dX8_take_33 : decode cX8_take 33 = .ok (.bipush 8, 2) := by decide +kernel
theorem dX8_take_35 : decode cX8_take 35 = .ok (.iaload, 1) := by decide +kernel
theorem dX8_take_36 : decode cX8_take 36 = .ok (.imul, 1) := by decide +kernel
theorem dX8_take_37 : decode cX8_take 37 = .ok (.if_icmp .ge 21, 3) := by decide +kernel
theorem dX8_take_40 : decode cX8_take 40 = .ok (.aload_n 0, 1) := by decide +kernel
theorem dX8_take_41 : decode cX8_take 41 = .ok (.getfield 176, 3) := by decide +kernel
theorem dX8_take_44 : decode cX8_take 44 = .ok (.iload_n 2, 1) := by decide +kernel
theorem dX8_take_45 : decode cX8_take 45 = .ok (.aload_n 0, 1) := by decide +kernel
theorem dX8_take_46 : decode cX8_take 46 = .ok (.getfield 170, 3) := by decide +kernel
theorem dX8_take_49 : decode cX8_take 49 = .ok (.iload_n 2, 1) := by decide +kernel
theorem dX8_take_50 : decode cX8_take 50 = .ok (.iaload, 1) := by decide +kernel
theorem dX8_take_51 : decode cX8_take 51 = .ok (.iastore, 1) := by decide +kernel
theorem dX8_take_52 : decode cX8_take 52 = .ok (.iinc 2 1, 3) := by decide +kernel
theorem dX8_take_55 : decode cX8_take 55 = .ok (.goto (-28), 3) := by decide +kernel
theorem dX8_take_58 : decode cX8_take 58 = .ok (.return_, 1) := by decide +kernel
theorem dX8_named_0 : decode cX8_named 0 = .ok (.aload_n 0, 1) := by decide +kernel
theorem dX8_named_1 : decode cX8_named 1 = .ok (.iconst 0, 1) := by decide +kernel
theorem dX8_named_2 : decode cX8_named 2 = .ok (.putfield 1, 3) := by decide +kernel
theorem dX8_named_5 : decode cX8_named 5 = .ok (.iload_n 1, 1) := by decide +kernel
theorem dX8_named_6 : decode cX8_named 6 = .ok (.iconst 1, 1) := by decide +kernel
theorem dX8_named_7 : decode cX8_named 7 = .ok (.if_icmp .lt 20, 3) := by decide +kernel
theorem dX8_named_10 : decode cX8_named 10 = .ok (.iload_n 1, 1) := by decide +kernel
theorem dX8_named_11 : decode cX8_named 11 = .ok (.aload_n 0, 1) := by decide +kernel
theorem dX8_named_12 : decode cX8_named 12 = .ok (.getfield 331, 3) := by decide +kernel
theorem dX8_named_15 : decode cX8_named 15 = .ok (.if_icmp .gt 12, 3) := by decide +kernel
theorem dX8_named_18 : decode cX8_named 18 = .ok (.aload_n 0, 1) := by decide +kernel
theorem dX8_named_19 : decode cX8_named 19 = .ok (.getfield 173, 3) := by decide +kernel
theorem dX8_named_22 : decode cX8_named 22 = .ok (.iload_n 1, 1) := by decide +kernel
theorem dX8_named_23 : decode cX8_named 23 = .ok (.iaload, 1) := by decide +kernel
theorem dX8_named_24 : decode cX8_named 24 = .ok (.goto 4, 3) := by decide +kernel
theorem dX8_named_27 : decode cX8_named 27 = .ok (.iconst (-1), 1) := by decide +kernel
theorem dX8_named_28 : decode cX8_named 28 = .ok (.ireturn, 1) := by decide +kernel
theorem dX8_form_0 : decode cX8_form 0 = .ok (.aload_n 0, 1) := by decide +kernel
theorem dX8_form_1 : decode cX8_form 1 = .ok (.iconst 0, 1) := by decide +kernel
theorem dX8_form_2 : decode cX8_form 2 = .ok (.putfield 1, 3) := by decide +kernel
theorem dX8_form_5 : decode cX8_form 5 = .ok (.iload_n 1, 1) := by decide +kernel
theorem dX8_form_6 : decode cX8_form 6 = .ok (.ifCond .lt 20, 3) := by decide +kernel
theorem dX8_form_9 : decode cX8_form 9 = .ok (.iload_n 1, 1) := by decide +kernel
theorem dX8_form_10 : decode cX8_form 10 = .ok (.aload_n 0, 1) := by decide +kernel
theorem dX8_form_11 : decode cX8_form 11 = .ok (.getfield 334, 3) := by decide +kernel
theorem dX8_form_14 : decode cX8_form 14 = .ok (.if_icmp .ge 12, 3) := by decide +kernel
theorem dX8_form_17 : decode cX8_form 17 = .ok (.iload_n 2, 1) := by decide +kernel
theorem dX8_form_18 : decode cX8_form 18 = .ok (.ifCond .lt 8, 3) := by decide +kernel
theorem dX8_form_21 : decode cX8_form 21 = .ok (.iload_n 2, 1) := by decide +kernel
theorem dX8_form_22 : decode cX8_form 22 = .ok (.iconst 2, 1) := by decide +kernel
theorem dX8_form_23 : decode cX8_form 23 = .ok (.if_icmp .le 7, 3) := by decide +kernel
theorem dX8_form_26 : decode cX8_form 26 = .ok (.iconst 0, 1) := by decide +kernel
theorem dX8_form_27 : decode cX8_form 27 = .ok (.goto 13, 3) := by decide +kernel
theorem dX8_form_30 : decode cX8_form 30 = .ok (.aload_n 0, 1) := by decide +kernel
theorem dX8_form_31 : decode cX8_form 31 = .ok (.getfield 176, 3) := by decide +kernel
theorem dX8_form_34 : decode cX8_form 34 = .ok (.iconst 3, 1) := by decide +kernel
theorem dX8_form_35 : decode cX8_form 35 = .ok (.iload_n 1, 1) := by decide +kernel
theorem dX8_form_36 : decode cX8_form 36 = .ok (.imul, 1) := by decide +kernel
theorem dX8_form_37 : decode cX8_form 37 = .ok (.iload_n 2, 1) := by decide +kernel
theorem dX8_form_38 : decode cX8_form 38 = .ok (.iadd, 1) := by decide +kernel
theorem dX8_form_39 : decode cX8_form 39 = .ok (.iaload, 1) := by decide +kernel
theorem dX8_form_40 : decode cX8_form 40 = .ok (.ireturn, 1) := by decide +kernel
theorem dX8_octet_0 : decode cX8_octet 0 = .ok (.aload_n 0, 1) := by decide +kernel
theorem dX8_octet_1 : decode cX8_octet 1 = .ok (.iload_n 1, 1) := by decide +kernel
theorem dX8_octet_2 : decode cX8_octet 2 = .ok (.ifCond .lt 13, 3) := by decide +kernel
theorem dX8_octet_5 : decode cX8_octet 5 = .ok (.iload_n 1, 1) := by decide +kernel
theorem dX8_octet_6 : decode cX8_octet 6 = .ok (.bipush 32, 2) := by decide +kernel
theorem dX8_octet_8 : decode cX8_octet 8 = .ok (.if_icmp .ge 7, 3) := by decide +kernel
theorem dX8_octet_11 : decode cX8_octet 11 = .ok (.iconst 0, 1) := by decide +kernel
theorem dX8_octet_12 : decode cX8_octet 12 = .ok (.goto 4, 3) := by decide +kernel
theorem dX8_octet_15 : decode cX8_octet 15 = .ok (.iconst 1, 1) := by decide +kernel
theorem dX8_octet_16 : decode cX8_octet 16 = .ok (.putfield 1, 3) := by decide +kernel
theorem dX8_octet_19 : decode cX8_octet 19 = .ok (.aload_n 0, 1) := by decide +kernel
theorem dX8_octet_20 : decode cX8_octet 20 = .ok (.getfield 1, 3) := by decide +kernel
theorem dX8_octet_23 : decode cX8_octet 23 = .ok (.ifCond .ne 12, 3) := by decide +kernel
theorem dX8_octet_26 : decode cX8_octet 26 = .ok (.aload_n 0, 1) := by decide +kernel
theorem dX8_octet_27 : decode cX8_octet 27 = .ok (.getfield 179, 3) := by decide +kernel
theorem dX8_octet_30 : decode cX8_octet 30 = .ok (.iload_n 1, 1) := by decide +kernel
theorem dX8_octet_31 : decode cX8_octet 31 = .ok (.baload, 1) := by decide +kernel
theorem dX8_octet_32 : decode cX8_octet 32 = .ok (.goto 4, 3) := by decide +kernel
theorem dX8_octet_35 : decode cX8_octet 35 = .ok (.iconst 0, 1) := by decide +kernel
theorem dX8_octet_36 : decode cX8_octet 36 = .ok (.ireturn, 1) := by decide +kernel
theorem dX8_keep_0 : decode cX8_keep 0 = .ok (.aload_n 0, 1) := by decide +kernel
theorem dX8_keep_1 : decode cX8_keep 1 = .ok (.iconst 0, 1) := by decide +kernel
theorem dX8_keep_2 : decode cX8_keep 2 = .ok (.putfield 1, 3) := by decide +kernel
theorem dX8_keep_5 : decode cX8_keep 5 = .ok (.aload_n 0, 1) := by decide +kernel
theorem dX8_keep_6 : decode cX8_keep 6 = .ok (.getfield 337, 3) := by decide +kernel
theorem dX8_keep_9 : decode cX8_keep 9 = .ok (.bipush 8, 2) := by decide +kernel
theorem dX8_keep_11 : decode cX8_keep 11 = .ok (.if_icmp .ne 6, 3) := by decide +kernel
theorem dX8_keep_14 : decode cX8_keep 14 = .ok (.bipush (-2), 2) := by decide +kernel
theorem dX8_keep_16 : decode cX8_keep 16 = .ok (.ireturn, 1) := by decide +kernel
theorem dX8_keep_17 : decode cX8_keep 17 = .ok (.aload_n 0, 1) := by decide +kernel
theorem dX8_keep_18 : decode cX8_keep 18 = .ok (.getfield 145, 3) := by decide +kernel
theorem dX8_keep_21 : decode cX8_keep 21 = .ok (.aload_n 0, 1) := by decide +kernel
theorem dX8_keep_22 : decode cX8_keep 22 = .ok (.getfield 337, 3) := by decide +kernel
theorem dX8_keep_25 : decode cX8_keep 25 = .ok (.aload_n 0, 1) := by decide +kernel
theorem dX8_keep_26 : decode cX8_keep 26 = .ok (.getfield 145, 3) := by decide +kernel
theorem dX8_keep_29 : decode cX8_keep 29 = .ok (.bipush 8, 2) := by decide +kernel
theorem dX8_keep_31 : decode cX8_keep 31 = .ok (.iaload, 1) := by decide +kernel
theorem dX8_keep_32 : decode cX8_keep 32 = .ok (.iastore, 1) := by decide +kernel
theorem dX8_keep_33 : decode cX8_keep 33 = .ok (.aload_n 0, 1) := by decide +kernel
theorem dX8_keep_34 : decode cX8_keep 34 = .ok (.getfield 149, 3) := by decide +kernel
theorem dX8_keep_37 : decode cX8_keep 37 = .ok (.aload_n 0, 1) := by decide +kernel
theorem dX8_keep_38 : decode cX8_keep 38 = .ok (.getfield 337, 3) := by decide +kernel
theorem dX8_keep_41 : decode cX8_keep 41 = .ok (.aload_n 0, 1) := by decide +kernel
theorem dX8_keep_42 : decode cX8_keep 42 = .ok (.getfield 149, 3) := by decide +kernel
theorem dX8_keep_45 : decode cX8_keep 45 = .ok (.bipush 8, 2) := by decide +kernel
theorem dX8_keep_47 : decode cX8_keep 47 = .ok (.iaload, 1) := by decide +kernel
theorem dX8_keep_48 : decode cX8_keep 48 = .ok (.iastore, 1) := by decide +kernel
theorem dX8_keep_49 : decode cX8_keep 49 = .ok (.iconst 0, 1) := by decide +kernel
theorem dX8_keep_50 : decode cX8_keep 50 = .ok (.istore_n 1, 1) := by decide +kernel
theorem dX8_keep_51 : decode cX8_keep 51 = .ok (.iload_n 1, 1) := by decide +kernel
theorem dX8_keep_52 : decode cX8_keep 52 = .ok (.bipush 120, 2) := by decide +kernel
theorem dX8_keep_54 : decode cX8_keep 54 = .ok (.if_icmp .ge 33, 3) := by decide +kernel
theorem dX8_keep_57 : decode cX8_keep 57 = .ok (.aload_n 0, 1) := by decide +kernel
theorem dX8_keep_58 : decode cX8_keep 58 = .ok (.getfield 152, 3) := by decide +kernel
theorem dX8_keep_61 : decode cX8_keep 61 = .ok (.bipush 120, 2) := by decide +kernel
theorem dX8_keep_63 : decode cX8_keep 63 = .ok (.aload_n 0, 1) := by decide +kernel
theorem dX8_keep_64 : decode cX8_keep 64 = .ok (.getfield 337, 3) := by decide +kernel
theorem dX8_keep_67 : decode cX8_keep 67 = .ok (.imul, 1) := by decide +kernel
theorem dX8_keep_68 : decode cX8_keep 68 = .ok (.iload_n 1, 1) := by decide +kernel
theorem dX8_keep_69 : decode cX8_keep 69 = .ok (.iadd, 1) := by decide +kernel
theorem dX8_keep_70 : decode cX8_keep 70 = .ok (.aload_n 0, 1) := by decide +kernel
theorem dX8_keep_71 : decode cX8_keep 71 = .ok (.getfield 152, 3) := by decide +kernel
theorem dX8_keep_74 : decode cX8_keep 74 = .ok (.sipush 960, 3) := by decide +kernel
theorem dX8_keep_77 : decode cX8_keep 77 = .ok (.iload_n 1, 1) := by decide +kernel
theorem dX8_keep_78 : decode cX8_keep 78 = .ok (.iadd, 1) := by decide +kernel
theorem dX8_keep_79 : decode cX8_keep 79 = .ok (.iaload, 1) := by decide +kernel
theorem dX8_keep_80 : decode cX8_keep 80 = .ok (.iastore, 1) := by decide +kernel
theorem dX8_keep_81 : decode cX8_keep 81 = .ok (.iinc 1 1, 3) := by decide +kernel
theorem dX8_keep_84 : decode cX8_keep 84 = .ok (.goto (-33), 3) := by decide +kernel
theorem dX8_keep_87 : decode cX8_keep 87 = .ok (.aload_n 0, 1) := by decide +kernel
theorem dX8_keep_88 : decode cX8_keep 88 = .ok (.dup, 1) := by decide +kernel
theorem dX8_keep_89 : decode cX8_keep 89 = .ok (.getfield 337, 3) := by decide +kernel
theorem dX8_keep_92 : decode cX8_keep 92 = .ok (.iconst 1, 1) := by decide +kernel
theorem dX8_keep_93 : decode cX8_keep 93 = .ok (.iadd, 1) := by decide +kernel
theorem dX8_keep_94 : decode cX8_keep 94 = .ok (.putfield 337, 3) := by decide +kernel
theorem dX8_keep_97 : decode cX8_keep 97 = .ok (.aload_n 0, 1) := by decide +kernel
theorem dX8_keep_98 : decode cX8_keep 98 = .ok (.getfield 145, 3) := by decide +kernel
theorem dX8_keep_101 : decode cX8_keep 101 = .ok (.bipush 8, 2) := by decide +kernel
theorem dX8_keep_103 : decode cX8_keep 103 = .ok (.iconst 0, 1) := by decide +kernel
theorem dX8_keep_104 : decode cX8_keep 104 = .ok (.iastore, 1) := by decide +kernel
theorem dX8_keep_105 : decode cX8_keep 105 = .ok (.aload_n 0, 1) := by decide +kernel
theorem dX8_keep_106 : decode cX8_keep 106 = .ok (.getfield 149, 3) := by decide +kernel
theorem dX8_keep_109 : decode cX8_keep 109 = .ok (.bipush 8, 2) := by decide +kernel
theorem dX8_keep_111 : decode cX8_keep 111 = .ok (.iconst 0, 1) := by decide +kernel
theorem dX8_keep_112 : decode cX8_keep 112 = .ok (.iastore, 1) := by decide +kernel
theorem dX8_keep_113 : decode cX8_keep 113 = .ok (.aload_n 0, 1) := by decide +kernel
theorem dX8_keep_114 : decode cX8_keep 114 = .ok (.iconst 0, 1) := by decide +kernel
theorem dX8_keep_115 : decode cX8_keep 115 = .ok (.putfield 241, 3) := by decide +kernel
theorem dX8_keep_118 : decode cX8_keep 118 = .ok (.aload_n 0, 1) := by decide +kernel
theorem dX8_keep_119 : decode cX8_keep 119 = .ok (.getfield 337, 3) := by decide +kernel
theorem dX8_keep_122 : decode cX8_keep 122 = .ok (.iconst 1, 1) := by decide +kernel
theorem dX8_keep_123 : decode cX8_keep 123 = .ok (.isub, 1) := by decide +kernel
theorem dX8_keep_124 : decode cX8_keep 124 = .ok (.ireturn, 1) := by decide +kernel
theorem dX8_isKept_0 : decode cX8_isKept 0 = .ok (.iload_n 1, 1) := by decide +kernel
theorem dX8_isKept_1 : decode cX8_isKept 1 = .ok (.ifCond .lt 15, 3) := by decide +kernel
theorem dX8_isKept_4 : decode cX8_isKept 4 = .ok (.iload_n 1, 1) := by decide +kernel
theorem dX8_isKept_5 : decode cX8_isKept 5 = .ok (.aload_n 0, 1) := by decide +kernel
theorem dX8_isKept_6 : decode cX8_isKept 6 = .ok (.getfield 337, 3) := by decide +kernel
theorem dX8_isKept_9 : decode cX8_isKept 9 = .ok (.if_icmp .ge 7, 3) := by decide +kernel
theorem dX8_isKept_12 : decode cX8_isKept 12 = .ok (.iconst 1, 1) := by decide +kernel
theorem dX8_isKept_13 : decode cX8_isKept 13 = .ok (.goto 4, 3) := by decide +kernel
theorem dX8_isKept_16 : decode cX8_isKept 16 = .ok (.iconst 0, 1) := by decide +kernel
theorem dX8_isKept_17 : decode cX8_isKept 17 = .ok (.ireturn, 1) := by decide +kernel
theorem dX8_becomes_0 : decode cX8_becomes 0 = .ok (.iconst 0, 1) := by decide +kernel
theorem dX8_becomes_1 : decode cX8_becomes 1 = .ok (.istore_n 2, 1) := by decide +kernel
theorem dX8_becomes_2 : decode cX8_becomes 2 = .ok (.iload_n 2, 1) := by decide +kernel
theorem dX8_becomes_3 : decode cX8_becomes 3 = .ok (.aload_n 0, 1) := by decide +kernel
theorem dX8_becomes_4 : decode cX8_becomes 4 = .ok (.getfield 149, 3) := by decide +kernel
theorem dX8_becomes_7 : decode cX8_becomes 7 = .ok (.bipush 8, 2) := by decide +kernel
theorem dX8_becomes_9 : decode cX8_becomes 9 = .ok (.iaload, 1) := by decide +kernel
theorem dX8_becomes_10 : decode cX8_becomes 10 = .ok (.if_icmp .ge 60, 3) := by decide +kernel
theorem dX8_becomes_13 : decode cX8_becomes 13 = .ok (.bipush 8, 2) := by decide +kernel
theorem dX8_becomes_15 : decode cX8_becomes 15 = .ok (.iload_n 2, 1) := by decide +kernel
theorem dX8_becomes_16 : decode cX8_becomes 16 = .ok (.invokestatic 245, 3) := by decide +kernel
theorem dX8_becomes_19 : decode cX8_becomes 19 = .ok (.istore_n 3, 1) := by decide +kernel
theorem dX8_becomes_20 : decode cX8_becomes 20 = .ok (.aload_n 0, 1) := by decide +kernel
theorem dX8_becomes_21 : decode cX8_becomes 21 = .ok (.iload_n 1, 1) := by decide +kernel
theorem dX8_becomes_22 : decode cX8_becomes 22 = .ok (.aload_n 0, 1) := by decide +kernel
theorem dX8_becomes_23 : decode cX8_becomes 23 = .ok (.aload_n 0, 1) := by decide +kernel
theorem dX8_becomes_24 : decode cX8_becomes 24 = .ok (.getfield 152, 3) := by decide +kernel
theorem dX8_becomes_27 : decode cX8_becomes 27 = .ok (.iload_n 3, 1) := by decide +kernel
theorem dX8_becomes_28 : decode cX8_becomes 28 = .ok (.iaload, 1) := by decide +kernel
theorem dX8_becomes_29 : decode cX8_becomes 29 = .ok (.invokevirtual 300, 3) := by decide +kernel
theorem dX8_becomes_32 : decode cX8_becomes 32 = .ok (.aload_n 0, 1) := by decide +kernel
theorem dX8_becomes_33 : decode cX8_becomes 33 = .ok (.aload_n 0, 1) := by decide +kernel
theorem dX8_becomes_34 : decode cX8_becomes 34 = .ok (.getfield 152, 3) := by decide +kernel
theorem dX8_becomes_37 : decode cX8_becomes 37 = .ok (.iload_n 3, 1) := by decide +kernel
theorem dX8_becomes_38 : decode cX8_becomes 38 = .ok (.iconst 1, 1) := by decide +kernel
theorem dX8_becomes_39 : decode cX8_becomes 39 = .ok (.iadd, 1) := by decide +kernel
theorem dX8_becomes_40 : decode cX8_becomes 40 = .ok (.iaload, 1) := by decide +kernel
theorem dX8_becomes_41 : decode cX8_becomes 41 = .ok (.invokevirtual 300, 3) := by decide +kernel
theorem dX8_becomes_44 : decode cX8_becomes 44 = .ok (.aload_n 0, 1) := by decide +kernel
theorem dX8_becomes_45 : decode cX8_becomes 45 = .ok (.aload_n 0, 1) := by decide +kernel
theorem dX8_becomes_46 : decode cX8_becomes 46 = .ok (.getfield 152, 3) := by decide +kernel
theorem dX8_becomes_49 : decode cX8_becomes 49 = .ok (.iload_n 3, 1) := by decide +kernel
theorem dX8_becomes_50 : decode cX8_becomes 50 = .ok (.iconst 2, 1) := by decide +kernel
theorem dX8_becomes_51 : decode cX8_becomes 51 = .ok (.iadd, 1) := by decide +kernel
theorem dX8_becomes_52 : decode cX8_becomes 52 = .ok (.iaload, 1) := by decide +kernel
theorem dX8_becomes_53 : decode cX8_becomes 53 = .ok (.invokevirtual 300, 3) := by decide +kernel
theorem dX8_becomes_56 : decode cX8_becomes 56 = .ok (.invokevirtual 253, 3) := by decide +kernel
theorem dX8_becomes_59 : decode cX8_becomes 59 = .ok (.ifCond .ge 5, 3) := by decide +kernel
theorem dX8_becomes_62 : decode cX8_becomes 62 = .ok (.iconst 0, 1) := by decide +kernel
theorem dX8_becomes_63 : decode cX8_becomes 63 = .ok (.ireturn, 1) := by decide +kernel
theorem dX8_becomes_64 : decode cX8_becomes 64 = .ok (.iinc 2 1, 3) := by decide +kernel
theorem dX8_becomes_67 : decode cX8_becomes 67 = .ok (.goto (-65), 3) := by decide +kernel
theorem dX8_becomes_70 : decode cX8_becomes 70 = .ok (.iconst 1, 1) := by decide +kernel
theorem dX8_becomes_71 : decode cX8_becomes 71 = .ok (.ireturn, 1) := by decide +kernel
theorem dX8_ways_0 : decode cX8_ways 0 = .ok (.aload_n 0, 1) := by decide +kernel
theorem dX8_ways_1 : decode cX8_ways 1 = .ok (.iconst 0, 1) := by decide +kernel
theorem dX8_ways_2 : decode cX8_ways 2 = .ok (.putfield 1, 3) := by decide +kernel
theorem dX8_ways_5 : decode cX8_ways 5 = .ok (.aload_n 0, 1) := by decide +kernel
theorem dX8_ways_6 : decode cX8_ways 6 = .ok (.iload_n 1, 1) := by decide +kernel
theorem dX8_ways_7 : decode cX8_ways 7 = .ok (.invokevirtual 340, 3) := by decide +kernel
theorem dX8_ways_10 : decode cX8_ways 10 = .ok (.ifCond .ne 5, 3) := by decide +kernel
theorem dX8_ways_13 : decode cX8_ways 13 = .ok (.iconst (-1), 1) := by decide +kernel
theorem dX8_ways_14 : decode cX8_ways 14 = .ok (.ireturn, 1) := by decide +kernel
theorem dX8_ways_15 : decode cX8_ways 15 = .ok (.aload_n 0, 1) := by decide +kernel
theorem dX8_ways_16 : decode cX8_ways 16 = .ok (.getfield 145, 3) := by decide +kernel
theorem dX8_ways_19 : decode cX8_ways 19 = .ok (.bipush 8, 2) := by decide +kernel
theorem dX8_ways_21 : decode cX8_ways 21 = .ok (.iaload, 1) := by decide +kernel
theorem dX8_ways_22 : decode cX8_ways 22 = .ok (.istore_n 2, 1) := by decide +kernel
theorem dX8_ways_23 : decode cX8_ways 23 = .ok (.aload_n 0, 1) := by decide +kernel
theorem dX8_ways_24 : decode cX8_ways 24 = .ok (.getfield 145, 3) := by decide +kernel
theorem dX8_ways_27 : decode cX8_ways 27 = .ok (.iload_n 1, 1) := by decide +kernel
theorem dX8_ways_28 : decode cX8_ways 28 = .ok (.iaload, 1) := by decide +kernel
theorem dX8_ways_29 : decode cX8_ways 29 = .ok (.iload_n 2, 1) := by decide +kernel
theorem dX8_ways_30 : decode cX8_ways 30 = .ok (.if_icmp .ne 19, 3) := by decide +kernel
theorem dX8_ways_33 : decode cX8_ways 33 = .ok (.aload_n 0, 1) := by decide +kernel
theorem dX8_ways_34 : decode cX8_ways 34 = .ok (.getfield 149, 3) := by decide +kernel
theorem dX8_ways_37 : decode cX8_ways 37 = .ok (.iload_n 1, 1) := by decide +kernel
theorem dX8_ways_38 : decode cX8_ways 38 = .ok (.iaload, 1) := by decide +kernel
theorem dX8_ways_39 : decode cX8_ways 39 = .ok (.aload_n 0, 1) := by decide +kernel
theorem dX8_ways_40 : decode cX8_ways 40 = .ok (.getfield 149, 3) := by decide +kernel
theorem dX8_ways_43 : decode cX8_ways 43 = .ok (.bipush 8, 2) := by decide +kernel
theorem dX8_ways_45 : decode cX8_ways 45 = .ok (.iaload, 1) := by decide +kernel
theorem dX8_ways_46 : decode cX8_ways 46 = .ok (.if_icmp .eq 5, 3) := by decide +kernel
theorem dX8_ways_49 : decode cX8_ways 49 = .ok (.iconst 0, 1) := by decide +kernel
theorem dX8_ways_50 : decode cX8_ways 50 = .ok (.ireturn, 1) := by decide +kernel
theorem dX8_ways_51 : decode cX8_ways 51 = .ok (.iconst 0, 1) := by decide +kernel
theorem dX8_ways_52 : decode cX8_ways 52 = .ok (.istore_n 3, 1) := by decide +kernel
theorem dX8_ways_53 : decode cX8_ways 53 = .ok (.aload_n 0, 1) := by decide +kernel
theorem dX8_ways_54 : decode cX8_ways 54 = .ok (.iload_n 2, 1) := by decide +kernel
theorem dX8_ways_55 : decode cX8_ways 55 = .ok (.invokevirtual 312, 3) := by decide +kernel
theorem dX8_ways_58 : decode cX8_ways 58 = .ok (.iconst 1, 1) := by decide +kernel
theorem dX8_ways_59 : decode cX8_ways 59 = .ok (.istore 4, 2) := by decide +kernel
theorem dX8_ways_61 : decode cX8_ways 61 = .ok (.iload 4, 2) := by decide +kernel
theorem dX8_ways_63 : decode cX8_ways 63 = .ok (.ifCond .eq 29, 3) := by decide +kernel
theorem dX8_ways_66 : decode cX8_ways 66 = .ok (.iload_n 3, 1) := by decide +kernel
theorem dX8_ways_67 : decode cX8_ways 67 = .ok (.aload_n 0, 1) := by decide +kernel
theorem dX8_ways_68 : decode cX8_ways 68 = .ok (.iload_n 1, 1) := by decide +kernel
theorem dX8_ways_69 : decode cX8_ways 69 = .ok (.invokevirtual 343, 3) := by decide +kernel
theorem dX8_ways_72 : decode cX8_ways 72 = .ok (.ifCond .eq 7, 3) := by decide +kernel
theorem dX8_ways_75 : decode cX8_ways 75 = .ok (.iconst 1, 1) := by decide +kernel
theorem dX8_ways_76 : decode cX8_ways 76 = .ok (.goto 4, 3) := by decide +kernel
theorem dX8_ways_79 : decode cX8_ways 79 = .ok (.iconst 0, 1) := by decide +kernel
theorem dX8_ways_80 : decode cX8_ways 80 = .ok (.iadd, 1) := by decide +kernel
theorem dX8_ways_81 : decode cX8_ways 81 = .ok (.istore_n 3, 1) := by decide +kernel
theorem dX8_ways_82 : decode cX8_ways 82 = .ok (.aload_n 0, 1) := by decide +kernel
theorem dX8_ways_83 : decode cX8_ways 83 = .ok (.iload_n 2, 1) := by decide +kernel
theorem dX8_ways_84 : decode cX8_ways 84 = .ok (.invokevirtual 328, 3) := by decide +kernel
theorem dX8_ways_87 : decode cX8_ways 87 = .ok (.istore 4, 2) := by decide +kernel
theorem dX8_ways_89 : decode cX8_ways 89 = .ok (.goto (-28), 3) := by decide +kernel
theorem dX8_ways_92 : decode cX8_ways 92 = .ok (.iload_n 3, 1) := by decide +kernel
theorem dX8_ways_93 : decode cX8_ways 93 = .ok (.ireturn, 1) := by decide +kernel
theorem dX8_isomorphic_0 : decode cX8_isomorphic 0 = .ok (.aload_n 0, 1) := by decide +kernel
theorem dX8_isomorphic_1 : decode cX8_isomorphic 1 = .ok (.iconst 0, 1) := by decide +kernel
theorem dX8_isomorphic_2 : decode cX8_isomorphic 2 = .ok (.putfield 1, 3) := by decide +kernel
theorem dX8_isomorphic_5 : decode cX8_isomorphic 5 = .ok (.aload_n 0, 1) := by decide +kernel
theorem dX8_isomorphic_6 : decode cX8_isomorphic 6 = .ok (.iload_n 1, 1) := by decide +kernel
theorem dX8_isomorphic_7 : decode cX8_isomorphic 7 = .ok (.invokevirtual 346, 3) := by decide +kernel
theorem dX8_isomorphic_10 : decode cX8_isomorphic 10 = .ok (.istore_n 2, 1) := by decide +kernel
theorem dX8_isomorphic_11 : decode cX8_isomorphic 11 = .ok (.iload_n 2, 1) := by decide +kernel
theorem dX8_isomorphic_12 : decode cX8_isomorphic 12 = .ok (.ifCond .le 7, 3) := by decide +kernel
theorem dX8_isomorphic_15 : decode cX8_isomorphic 15 = .ok (.iconst 1, 1) := by decide +kernel
theorem dX8_isomorphic_16 : decode cX8_isomorphic 16 = .ok (.goto 4, 3) := by decide +kernel
theorem dX8_isomorphic_19 : decode cX8_isomorphic 19 = .ok (.iload_n 2, 1) := by decide +kernel
theorem dX8_isomorphic_20 : decode cX8_isomorphic 20 = .ok (.ireturn, 1) := by decide +kernel
theorem dX8_equal_0 : decode cX8_equal 0 = .ok (.aload_n 0, 1) := by decide +kernel
theorem dX8_equal_1 : decode cX8_equal 1 = .ok (.iconst 0, 1) := by decide +kernel
theorem dX8_equal_2 : decode cX8_equal 2 = .ok (.putfield 1, 3) := by decide +kernel
theorem dX8_equal_5 : decode cX8_equal 5 = .ok (.aload_n 0, 1) := by decide +kernel
theorem dX8_equal_6 : decode cX8_equal 6 = .ok (.iload_n 1, 1) := by decide +kernel
theorem dX8_equal_7 : decode cX8_equal 7 = .ok (.invokevirtual 340, 3) := by decide +kernel
theorem dX8_equal_10 : decode cX8_equal 10 = .ok (.ifCond .ne 5, 3) := by decide +kernel
theorem dX8_equal_13 : decode cX8_equal 13 = .ok (.iconst (-1), 1) := by decide +kernel
theorem dX8_equal_14 : decode cX8_equal 14 = .ok (.ireturn, 1) := by decide +kernel
theorem dX8_equal_15 : decode cX8_equal 15 = .ok (.aload_n 0, 1) := by decide +kernel
theorem dX8_equal_16 : decode cX8_equal 16 = .ok (.getfield 145, 3) := by decide +kernel
theorem dX8_equal_19 : decode cX8_equal 19 = .ok (.iload_n 1, 1) := by decide +kernel
theorem dX8_equal_20 : decode cX8_equal 20 = .ok (.iaload, 1) := by decide +kernel
theorem dX8_equal_21 : decode cX8_equal 21 = .ok (.aload_n 0, 1) := by decide +kernel
theorem dX8_equal_22 : decode cX8_equal 22 = .ok (.getfield 145, 3) := by decide +kernel
theorem dX8_equal_25 : decode cX8_equal 25 = .ok (.bipush 8, 2) := by decide +kernel
theorem dX8_equal_27 : decode cX8_equal 27 = .ok (.iaload, 1) := by decide +kernel
theorem dX8_equal_28 : decode cX8_equal 28 = .ok (.if_icmp .ne 19, 3) := by decide +kernel
theorem dX8_equal_31 : decode cX8_equal 31 = .ok (.aload_n 0, 1) := by decide +kernel
theorem dX8_equal_32 : decode cX8_equal 32 = .ok (.getfield 149, 3) := by decide +kernel
theorem dX8_equal_35 : decode cX8_equal 35 = .ok (.iload_n 1, 1) := by decide +kernel
theorem dX8_equal_36 : decode cX8_equal 36 = .ok (.iaload, 1) := by decide +kernel
theorem dX8_equal_37 : decode cX8_equal 37 = .ok (.aload_n 0, 1) := by decide +kernel
theorem dX8_equal_38 : decode cX8_equal 38 = .ok (.getfield 149, 3) := by decide +kernel
theorem dX8_equal_41 : decode cX8_equal 41 = .ok (.bipush 8, 2) := by decide +kernel
theorem dX8_equal_43 : decode cX8_equal 43 = .ok (.iaload, 1) := by decide +kernel
theorem dX8_equal_44 : decode cX8_equal 44 = .ok (.if_icmp .eq 5, 3) := by decide +kernel
theorem dX8_equal_47 : decode cX8_equal 47 = .ok (.iconst 0, 1) := by decide +kernel
theorem dX8_equal_48 : decode cX8_equal 48 = .ok (.ireturn, 1) := by decide +kernel
theorem dX8_equal_49 : decode cX8_equal 49 = .ok (.aload_n 0, 1) := by decide +kernel
theorem dX8_equal_50 : decode cX8_equal 50 = .ok (.aload_n 0, 1) := by decide +kernel
theorem dX8_equal_51 : decode cX8_equal 51 = .ok (.getfield 145, 3) := by decide +kernel
theorem dX8_equal_54 : decode cX8_equal 54 = .ok (.bipush 8, 2) := by decide +kernel
theorem dX8_equal_56 : decode cX8_equal 56 = .ok (.iaload, 1) := by decide +kernel
theorem dX8_equal_57 : decode cX8_equal 57 = .ok (.invokevirtual 312, 3) := by decide +kernel
theorem dX8_equal_60 : decode cX8_equal 60 = .ok (.aload_n 0, 1) := by decide +kernel
theorem dX8_equal_61 : decode cX8_equal 61 = .ok (.iload_n 1, 1) := by decide +kernel
theorem dX8_equal_62 : decode cX8_equal 62 = .ok (.invokevirtual 343, 3) := by decide +kernel
theorem dX8_equal_65 : decode cX8_equal 65 = .ok (.ifCond .eq 7, 3) := by decide +kernel
theorem dX8_equal_68 : decode cX8_equal 68 = .ok (.iconst 1, 1) := by decide +kernel
theorem dX8_equal_69 : decode cX8_equal 69 = .ok (.goto 4, 3) := by decide +kernel
theorem dX8_equal_72 : decode cX8_equal 72 = .ok (.iconst 0, 1) := by decide +kernel
theorem dX8_equal_73 : decode cX8_equal 73 = .ok (.ireturn, 1) := by decide +kernel
theorem dX8_triples_0 : decode cX8_triples 0 = .ok (.aload_n 0, 1) := by decide +kernel
theorem dX8_triples_1 : decode cX8_triples 1 = .ok (.iconst 0, 1) := by decide +kernel
theorem dX8_triples_2 : decode cX8_triples 2 = .ok (.putfield 1, 3) := by decide +kernel
theorem dX8_triples_5 : decode cX8_triples 5 = .ok (.aload_n 0, 1) := by decide +kernel
theorem dX8_triples_6 : decode cX8_triples 6 = .ok (.getfield 149, 3) := by decide +kernel
theorem dX8_triples_9 : decode cX8_triples 9 = .ok (.bipush 8, 2) := by decide +kernel
theorem dX8_triples_11 : decode cX8_triples 11 = .ok (.iaload, 1) := by decide +kernel
theorem dX8_triples_12 : decode cX8_triples 12 = .ok (.ireturn, 1) := by decide +kernel
theorem dX8_blanks_0 : decode cX8_blanks 0 = .ok (.aload_n 0, 1) := by decide +kernel
theorem dX8_blanks_1 : decode cX8_blanks 1 = .ok (.iconst 0, 1) := by decide +kernel
theorem dX8_blanks_2 : decode cX8_blanks 2 = .ok (.putfield 1, 3) := by decide +kernel
theorem dX8_blanks_5 : decode cX8_blanks 5 = .ok (.aload_n 0, 1) := by decide +kernel
theorem dX8_blanks_6 : decode cX8_blanks 6 = .ok (.getfield 145, 3) := by decide +kernel
theorem dX8_blanks_9 : decode cX8_blanks 9 = .ok (.bipush 8, 2) := by decide +kernel
theorem dX8_blanks_11 : decode cX8_blanks 11 = .ok (.iaload, 1) := by decide +kernel
theorem dX8_blanks_12 : decode cX8_blanks 12 = .ok (.ireturn, 1) := by decide +kernel
