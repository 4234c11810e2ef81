theorem dX8_blank_40 : decode cX8_blank 40 = .ok (.bipush 8, 2) := by decide +kernel
theorem dX8_blank_42 : decode cX8_blank 42 = .ok (.iaload, 1) := by decide +kernel
theorem dX8_blank_43 : decode cX8_blank 43 = .ok (.ireturn, 1) := by decide +kernel
theorem dX8_isPoint_0 : decode cX8_isPoint 0 = .ok (.iload_n 1, 1) := by decide +kernel
theorem dX8_isPoint_1 : decode cX8_isPoint 1 = .ok (.ifCond .le 18, 3) := by decide +kernel
theorem dX8_isPoint_4 : decode cX8_isPoint 4 = .ok (.iload_n 1, 1) := by decide +kernel
theorem dX8_isPoint_5 : decode cX8_isPoint 5 = .ok (.sipush 1000, 3) := by decide +kernel
theorem dX8_isPoint_8 : decode cX8_isPoint 8 = .ok (.if_icmp .gt 7, 3) := by decide +kernel
theorem dX8_isPoint_11 : decode cX8_isPoint 11 = .ok (.iconst 1, 1) := by decide +kernel
theorem dX8_isPoint_12 : decode cX8_isPoint 12 = .ok (.goto 28, 3) := by decide +kernel
theorem dX8_isPoint_15 : decode cX8_isPoint 15 = .ok (.iconst 0, 1) := by decide +kernel
theorem dX8_isPoint_16 : decode cX8_isPoint 16 = .ok (.goto 24, 3) := by decide +kernel
theorem dX8_isPoint_19 : decode cX8_isPoint 19 = .ok (.iload_n 1, 1) := by decide +kernel
theorem dX8_isPoint_20 : decode cX8_isPoint 20 = .ok (.ifCond .ge 19, 3) := by decide +kernel
theorem dX8_isPoint_23 : decode cX8_isPoint 23 = .ok (.iload_n 1, 1) := by decide +kernel
theorem dX8_isPoint_24 : decode cX8_isPoint 24 = .ok (.aload_n 0, 1) := by decide +kernel
theorem dX8_isPoint_25 : decode cX8_isPoint 25 = .ok (.getfield 145, 3) := by decide +kernel
theorem dX8_isPoint_28 : decode cX8_isPoint 28 = .ok (.bipush 8, 2) := by decide +kernel
theorem dX8_isPoint_30 : decode cX8_isPoint 30 = .ok (.iaload, 1) := by decide +kernel
theorem dX8_isPoint_31 : decode cX8_isPoint 31 = .ok (.ineg, 1) := by decide +kernel
theorem dX8_isPoint_32 : decode cX8_isPoint 32 = .ok (.if_icmp .lt 7, 3) := by decide +kernel
theorem dX8_isPoint_35 : decode cX8_isPoint 35 = .ok (.iconst 1, 1) := by decide +kernel
theorem dX8_isPoint_36 : decode cX8_isPoint 36 = .ok (.goto 4, 3) := by decide +kernel
theorem dX8_isPoint_39 : decode cX8_isPoint 39 = .ok (.iconst 0, 1) := by decide +kernel
theorem dX8_isPoint_40 : decode cX8_isPoint 40 = .ok (.ireturn, 1) := by decide +kernel
theorem dX8_find_0 : decode cX8_find 0 = .ok (.iconst 0, 1) := by decide +kernel
theorem dX8_find_1 : decode cX8_find 1 = .ok (.istore 5, 2) := by decide +kernel
theorem dX8_find_3 : decode cX8_find 3 = .ok (.iload 5, 2) := by decide +kernel
theorem dX8_find_5 : decode cX8_find 5 = .ok (.aload_n 0, 1) := by decide +kernel
theorem dX8_find_6 : decode cX8_find 6 = .ok (.getfield 149, 3) := by decide +kernel
theorem dX8_find_9 : decode cX8_find 9 = .ok (.iload_n 1, 1) := by decide +kernel
theorem dX8_find_10 : decode cX8_find 10 = .ok (.iaload, 1) := by decide +kernel
theorem dX8_find_11 : decode cX8_find 11 = .ok (.if_icmp .ge 58, 3) := by decide +kernel
theorem dX8_find_14 : decode cX8_find 14 = .ok (.iload_n 1, 1) := by decide +kernel
theorem dX8_find_15 : decode cX8_find 15 = .ok (.iload 5, 2) := by decide +kernel
theorem dX8_find_17 : decode cX8_find 17 = .ok (.invokestatic 245, 3) := by decide +kernel
theorem dX8_find_20 : decode cX8_find 20 = .ok (.istore 6, 2) := by decide +kernel
theorem dX8_find_22 : decode cX8_find 22 = .ok (.aload_n 0, 1) := by decide +kernel
theorem dX8_find_23 : decode cX8_find 23 = .ok (.getfield 152, 3) := by decide +kernel
theorem dX8_find_26 : decode cX8_find 26 = .ok (.iload 6, 2) := by decide +kernel
theorem dX8_find_28 : decode cX8_find 28 = .ok (.iaload, 1) := by decide +kernel
theorem dX8_find_29 : decode cX8_find 29 = .ok (.iload_n 2, 1) := by decide +kernel
theorem dX8_find_30 : decode cX8_find 30 = .ok (.if_icmp .ne 33, 3) := by decide +kernel
theorem dX8_find_33 : decode cX8_find 33 = .ok (.aload_n 0, 1) := by decide +kernel
theorem dX8_find_34 : decode cX8_find 34 = .ok (.getfield 152, 3) := by decide +kernel
theorem dX8_find_37 : decode cX8_find 37 = .ok (.iload 6, 2) := by decide +kernel
theorem dX8_find_39 : decode cX8_find 39 = .ok (.iconst 1, 1) := by decide +kernel
theorem dX8_find_40 : decode cX8_find 40 = .ok (.iadd, 1) := by decide +kernel
theorem dX8_find_41 : decode cX8_find 41 = .ok (.iaload, 1) := by decide +kernel
theorem dX8_find_42 : decode cX8_find 42 = .ok (.iload_n 3, 1) := by decide +kernel
theorem dX8_find_43 : decode cX8_find 43 = .ok (.if_icmp .ne 20, 3) := by decide +kernel
theorem dX8_find_46 : decode cX8_find 46 = .ok (.aload_n 0, 1) := by decide +kernel
theorem dX8_find_47 : decode cX8_find 47 = .ok (.getfield 152, 3) := by decide +kernel
theorem dX8_find_50 : decode cX8_find 50 = .ok (.iload 6, 2) := by decide +kernel
theorem dX8_find_52 : decode cX8_find 52 = .ok (.iconst 2, 1) := by decide +kernel
theorem dX8_find_53 : decode cX8_find 53 = .ok (.iadd, 1) := by decide +kernel
theorem dX8_find_54 : decode cX8_find 54 = .ok (.iaload, 1) := by decide +kernel
theorem dX8_find_55 : decode cX8_find 55 = .ok (.iload 4, 2) := by decide +kernel
theorem dX8_find_57 : decode cX8_find 57 = .ok (.if_icmp .ne 6, 3) := by decide +kernel
theorem dX8_find_60 : decode cX8_find 60 = .ok (.iload 5, 2) := by decide +kernel
theorem dX8_find_62 : decode cX8_find 62 = .ok (.ireturn, 1) := by decide +kernel
theorem dX8_find_63 : decode cX8_find 63 = .ok (.iinc 5 1, 3) := by decide +kernel
theorem dX8_find_66 : decode cX8_find 66 = .ok (.goto (-63), 3) := by decide +kernel
theorem dX8_find_69 : decode cX8_find 69 = .ok (.iconst (-1), 1) := by decide +kernel
theorem dX8_find_70 : decode cX8_find 70 = .ok (.ireturn, 1) := by decide +kernel
theorem dX8_triple_0 : decode cX8_triple 0 = .ok (.aload_n 0, 1) := by decide +kernel
theorem dX8_triple_1 : decode cX8_triple 1 = .ok (.iconst 0, 1) := by decide +kernel
theorem dX8_triple_2 : decode cX8_triple 2 = .ok (.putfield 1, 3) := by decide +kernel
theorem dX8_triple_5 : decode cX8_triple 5 = .ok (.aload_n 0, 1) := by decide +kernel
theorem dX8_triple_6 : decode cX8_triple 6 = .ok (.iload_n 1, 1) := by decide +kernel
theorem dX8_triple_7 : decode cX8_triple 7 = .ok (.invokevirtual 249, 3) := by decide +kernel
theorem dX8_triple_10 : decode cX8_triple 10 = .ok (.ifCond .eq 19, 3) := by decide +kernel
theorem dX8_triple_13 : decode cX8_triple 13 = .ok (.aload_n 0, 1) := by decide +kernel
theorem dX8_triple_14 : decode cX8_triple 14 = .ok (.iload_n 2, 1) := by decide +kernel
theorem dX8_triple_15 : decode cX8_triple 15 = .ok (.invokevirtual 249, 3) := by decide +kernel
theorem dX8_triple_18 : decode cX8_triple 18 = .ok (.ifCond .eq 11, 3) := by decide +kernel
theorem dX8_triple_21 : decode cX8_triple 21 = .ok (.aload_n 0, 1) := by decide +kernel
theorem dX8_triple_22 : decode cX8_triple 22 = .ok (.iload_n 3, 1) := by decide +kernel
theorem dX8_triple_23 : decode cX8_triple 23 = .ok (.invokevirtual 249, 3) := by decide +kernel
theorem dX8_triple_26 : decode cX8_triple 26 = .ok (.ifCond .ne 5, 3) := by decide +kernel
theorem dX8_triple_29 : decode cX8_triple 29 = .ok (.iconst (-1), 1) := by decide +kernel
theorem dX8_triple_30 : decode cX8_triple 30 = .ok (.ireturn, 1) := by decide +kernel
theorem dX8_triple_31 : decode cX8_triple 31 = .ok (.aload_n 0, 1) := by decide +kernel
theorem dX8_triple_32 : decode cX8_triple 32 = .ok (.bipush 8, 2) := by decide +kernel
theorem dX8_triple_34 : decode cX8_triple 34 = .ok (.iload_n 1, 1) := by decide +kernel
theorem dX8_triple_35 : decode cX8_triple 35 = .ok (.iload_n 2, 1) := by decide +kernel
theorem dX8_triple_36 : decode cX8_triple 36 = .ok (.iload_n 3, 1) := by decide +kernel
theorem dX8_triple_37 : decode cX8_triple 37 = .ok (.invokevirtual 253, 3) := by decide +kernel
theorem dX8_triple_40 : decode cX8_triple 40 = .ok (.ifCond .lt 5, 3) := by decide +kernel
theorem dX8_triple_43 : decode cX8_triple 43 = .ok (.iconst 0, 1) := by decide +kernel
theorem dX8_triple_44 : decode cX8_triple 44 = .ok (.ireturn, 1) := by decide +kernel
theorem dX8_triple_45 : decode cX8_triple 45 = .ok (.aload_n 0, 1) := by decide +kernel
theorem dX8_triple_46 : decode cX8_triple 46 = .ok (.getfield 149, 3) := by decide +kernel
theorem dX8_triple_49 : decode cX8_triple 49 = .ok (.bipush 8, 2) := by decide +kernel
theorem dX8_triple_51 : decode cX8_triple 51 = .ok (.iaload, 1) := by decide +kernel
theorem dX8_triple_52 : decode cX8_triple 52 = .ok (.bipush 40, 2) := by decide +kernel
theorem dX8_triple_54 : decode cX8_triple 54 = .ok (.if_icmp .ne 6, 3) := by decide +kernel
theorem dX8_triple_57 : decode cX8_triple 57 = .ok (.bipush (-2), 2) := by decide +kernel
theorem dX8_triple_59 : decode cX8_triple 59 = .ok (.ireturn, 1) := by decide +kernel
theorem dX8_triple_60 : decode cX8_triple 60 = .ok (.bipush 8, 2) := by decide +kernel
theorem dX8_triple_62 : decode cX8_triple 62 = .ok (.aload_n 0, 1) := by decide +kernel
theorem dX8_triple_63 : decode cX8_triple 63 = .ok (.getfield 149, 3) := by decide +kernel
theorem dX8_triple_66 : decode cX8_triple 66 = .ok (.bipush 8, 2) := by decide +kernel
theorem dX8_triple_68 : decode cX8_triple 68 = .ok (.iaload, 1) := by decide +kernel
theorem dX8_triple_69 : decode cX8_triple 69 = .ok (.invokestatic 245, 3) := by decide +kernel
theorem dX8_triple_72 : decode cX8_triple 72 = .ok (.istore 4, 2) := by decide +kernel
theorem dX8_triple_74 : decode cX8_triple 74 = .ok (.aload_n 0, 1) := by decide +kernel
theorem dX8_triple_75 : decode cX8_triple 75 = .ok (.getfield 152, 3) := by decide +kernel
theorem dX8_triple_78 : decode cX8_triple 78 = .ok (.iload 4, 2) := by decide +kernel
theorem dX8_triple_80 : decode cX8_triple 80 = .ok (.iload_n 1, 1) := by decide +kernel
theorem dX8_triple_81 : decode cX8_triple 81 = .ok (.iastore, 1) := by decide +kernel
theorem dX8_triple_82 : decode cX8_triple 82 = .ok (.aload_n 0, 1) := by decide +kernel
theorem dX8_triple_83 : decode cX8_triple 83 = .ok (.getfield 152, 3) := by decide +kernel
theorem dX8_triple_86 : decode cX8_triple 86 = .ok (.iload 4, 2) := by decide +kernel
theorem dX8_triple_88 : decode cX8_triple 88 = .ok (.iconst 1, 1) := by decide +kernel
theorem dX8_triple_89 : decode cX8_triple 89 = .ok (.iadd, 1) := by decide +kernel
theorem dX8_triple_90 : decode cX8_triple 90 = .ok (.iload_n 2, 1) := by decide +kernel
theorem dX8_triple_91 : decode cX8_triple 91 = .ok (.iastore, 1) := by decide +kernel
theorem dX8_triple_92 : decode cX8_triple 92 = .ok (.aload_n 0, 1) := by decide +kernel
theorem dX8_triple_93 : decode cX8_triple 93 = .ok (.getfield 152, 3) := by decide +kernel
theorem dX8_triple_96 : decode cX8_triple 96 = .ok (.iload 4, 2) := by decide +kernel
theorem dX8_triple_98 : decode cX8_triple 98 = .ok (.iconst 2, 1) := by decide +kernel
theorem dX8_triple_99 : decode cX8_triple 99 = .ok (.iadd, 1) := by decide +kernel
theorem dX8_triple_100 : decode cX8_triple 100 = .ok (.iload_n 3, 1) := by decide +kernel
theorem dX8_triple_101 : decode cX8_triple 101 = .ok (.iastore, 1) := by decide +kernel
theorem dX8_triple_102 : decode cX8_triple 102 = .ok (.aload_n 0, 1) := by decide +kernel
theorem dX8_triple_103 : decode cX8_triple 103 = .ok (.getfield 149, 3) := by decide +kernel
theorem dX8_triple_106 : decode cX8_triple 106 = .ok (.bipush 8, 2) := by decide +kernel
theorem dX8_triple_108 : decode cX8_triple 108 = .ok (.dup2, 1) := by decide +kernel
theorem dX8_triple_109 : decode cX8_triple 109 = .ok (.iaload, 1) := by decide +kernel
theorem dX8_triple_110 : decode cX8_triple 110 = .ok (.iconst 1, 1) := by decide +kernel
theorem dX8_triple_111 : decode cX8_triple 111 = .ok (.iadd, 1) := by decide +kernel
theorem dX8_triple_112 : decode cX8_triple 112 = .ok (.iastore, 1) := by decide +kernel
theorem dX8_triple_113 : decode cX8_triple 113 = .ok (.aload_n 0, 1) := by decide +kernel
theorem dX8_triple_114 : decode cX8_triple 114 = .ok (.iconst 0, 1) := by decide +kernel
theorem dX8_triple_115 : decode cX8_triple 115 = .ok (.putfield 241, 3) := by decide +kernel
theorem dX8_triple_118 : decode cX8_triple 118 = .ok (.iconst 1, 1) := by decide +kernel
theorem dX8_triple_119 : decode cX8_triple 119 = .ok (.ireturn, 1) := by decide +kernel
theorem dX8_drop_0 : decode cX8_drop 0 = .ok (.aload_n 0, 1) := by decide +kernel
theorem dX8_drop_1 : decode cX8_drop 1 = .ok (.iconst 0, 1) := by decide +kernel
theorem dX8_drop_2 : decode cX8_drop 2 = .ok (.putfield 1, 3) := by decide +kernel
theorem dX8_drop_5 : decode cX8_drop 5 = .ok (.aload_n 0, 1) := by decide +kernel
theorem dX8_drop_6 : decode cX8_drop 6 = .ok (.bipush 8, 2) := by decide +kernel
theorem dX8_drop_8 : decode cX8_drop 8 = .ok (.iload_n 1, 1) := by decide +kernel
theorem dX8_drop_9 : decode cX8_drop 9 = .ok (.iload_n 2, 1) := by decide +kernel
theorem dX8_drop_10 : decode cX8_drop 10 = .ok (.iload_n 3, 1) := by decide +kernel
theorem dX8_drop_11 : decode cX8_drop 11 = .ok (.invokevirtual 253, 3) := by decide +kernel
theorem dX8_drop_14 : decode cX8_drop 14 = .ok (.istore 4, 2) := by decide +kernel
theorem dX8_drop_16 : decode cX8_drop 16 = .ok (.iload 4, 2) := by decide +kernel
theorem dX8_drop_18 : decode cX8_drop 18 = .ok (.ifCond .ge 5, 3) := by decide +kernel
theorem dX8_drop_21 : decode cX8_drop 21 = .ok (.iconst 0, 1) := by decide +kernel
theorem dX8_drop_22 : decode cX8_drop 22 = .ok (.ireturn, 1) := by decide +kernel
theorem dX8_drop_23 : decode cX8_drop 23 = .ok (.aload_n 0, 1) := by decide +kernel
theorem dX8_drop_24 : decode cX8_drop 24 = .ok (.getfield 149, 3) := by decide +kernel
theorem dX8_drop_27 : decode cX8_drop 27 = .ok (.bipush 8, 2) := by decide +kernel
theorem dX8_drop_29 : decode cX8_drop 29 = .ok (.dup2, 1) := by decide +kernel
theorem dX8_drop_30 : decode cX8_drop 30 = .ok (.iaload, 1) := by decide +kernel
theorem dX8_drop_31 : decode cX8_drop 31 = .ok (.iconst 1, 1) := by decide +kernel
theorem dX8_drop_32 : decode cX8_drop 32 = .ok (.isub, 1) := by decide +kernel
theorem dX8_drop_33 : decode cX8_drop 33 = .ok (.iastore, 1) := by decide +kernel
theorem dX8_drop_34 : decode cX8_drop 34 = .ok (.bipush 8, 2) := by decide +kernel
theorem dX8_drop_36 : decode cX8_drop 36 = .ok (.iload 4, 2) := by decide +kernel
theorem dX8_drop_38 : decode cX8_drop 38 = .ok (.invokestatic 245, 3) := by decide +kernel
theorem dX8_drop_41 : decode cX8_drop 41 = .ok (.istore 5, 2) := by decide +kernel
theorem dX8_drop_43 : decode cX8_drop 43 = .ok (.iload 5, 2) := by decide +kernel
theorem dX8_drop_45 : decode cX8_drop 45 = .ok (.bipush 8, 2) := by decide +kernel
theorem dX8_drop_47 : decode cX8_drop 47 = .ok (.aload_n 0, 1) := by decide +kernel
theorem dX8_drop_48 : decode cX8_drop 48 = .ok (.getfield 149, 3) := by decide +kernel
theorem dX8_drop_51 : decode cX8_drop 51 = .ok (.bipush 8, 2) := by decide +kernel
theorem dX8_drop_53 : decode cX8_drop 53 = .ok (.iaload, 1) := by decide +kernel
theorem dX8_drop_54 : decode cX8_drop 54 = .ok (.invokestatic 245, 3) := by decide +kernel
theorem dX8_drop_57 : decode cX8_drop 57 = .ok (.if_icmp .ge 25, 3) := by decide +kernel
theorem dX8_drop_60 : decode cX8_drop 60 = .ok (.aload_n 0, 1) := by decide +kernel
theorem dX8_drop_61 : decode cX8_drop 61 = .ok (.getfield 152, 3) := by decide +kernel
theorem dX8_drop_64 : decode cX8_drop 64 = .ok (.iload 5, 2) := by decide +kernel
theorem dX8_drop_66 : decode cX8_drop 66 = .ok (.aload_n 0, 1) := by decide +kernel
theorem dX8_drop_67 : decode cX8_drop 67 = .ok (.getfield 152, 3) := by decide +kernel
theorem dX8_drop_70 : decode cX8_drop 70 = .ok (.iload 5, 2) := by decide +kernel
theorem dX8_drop_72 : decode cX8_drop 72 = .ok (.iconst 3, 1) := by decide +kernel
theorem dX8_drop_73 : decode cX8_drop 73 = .ok (.iadd, 1) := by decide +kernel
theorem dX8_drop_74 : decode cX8_drop 74 = .ok (.iaload, 1) := by decide +kernel
theorem dX8_drop_75 : decode cX8_drop 75 = .ok (.iastore, 1) := by decide +kernel
theorem dX8_drop_76 : decode cX8_drop 76 = .ok (.iinc 5 1, 3) := by decide +kernel
theorem dX8_drop_79 : decode cX8_drop 79 = .ok (.goto (-36), 3) := by decide +kernel
theorem dX8_drop_82 : decode cX8_drop 82 = .ok (.aload_n 0, 1) := by decide +kernel
theorem dX8_drop_83 : decode cX8_drop 83 = .ok (.iconst 0, 1) := by decide +kernel
theorem dX8_drop_84 : decode cX8_drop 84 = .ok (.putfield 241, 3) := by decide +kernel
theorem dX8_drop_87 : decode cX8_drop 87 = .ok (.iconst 1, 1) := by decide +kernel
theorem dX8_drop_88 : decode cX8_drop 88 = .ok (.ireturn, 1) := by decide +kernel
theorem dX8_describe_0 : decode cX8_describe 0 = .ok (.sipush 128, 3) := by decide +kernel
theorem dX8_describe_3 : decode cX8_describe 3 = .ok (.aload_n 0, 1) := by decide +kernel
theorem dX8_describe_4 : decode cX8_describe 4 = .ok (.getfield 257, 3) := by decide +kernel
theorem dX8_describe_7 : decode cX8_describe 7 = .ok (.imul, 1) := by decide +kernel
theorem dX8_describe_8 : decode cX8_describe 8 = .ok (.istore_n 3, 1) := by decide +kernel
theorem dX8_describe_9 : decode cX8_describe 9 = .ok (.iconst 1, 1) := by decide +kernel
theorem dX8_describe_10 : decode cX8_describe 10 = .ok (.istore 4, 2) := by decide +kernel
theorem dX8_describe_12 : decode cX8_describe 12 = .ok (.iconst 0, 1) := by decide +kernel
theorem dX8_describe_13 : decode cX8_describe 13 = .ok (.istore 5, 2) := by decide +kernel
theorem dX8_describe_15 : decode cX8_describe 15 = .ok (.iload 5, 2) := by decide +kernel
theorem dX8_describe_17 : decode cX8_describe 17 = .ok (.iconst 3, 1) := by decide +kernel
theorem dX8_describe_18 : decode cX8_describe 18 = .ok (.if_icmp .ge 177, 3) := by decide +kernel
theorem dX8_describe_21 : decode cX8_describe 21 = .ok (.aload_n 0, 1) := by decide +kernel
theorem dX8_describe_22 : decode cX8_describe 22 = .ok (.getfield 152, 3) := by decide +kernel
theorem dX8_describe_25 : decode cX8_describe 25 = .ok (.bipush 8, 2) := by decide +kernel
theorem dX8_describe_27 : decode cX8_describe 27 = .ok (.iload_n 2, 1) := by decide +kernel
theorem dX8_describe_28 : decode cX8_describe 28 = .ok (.invokestatic 245, 3) := by decide +kernel
theorem dX8_describe_31 : decode cX8_describe 31 = .ok (.iload 5, 2) := by decide +kernel
theorem dX8_describe_33 : decode cX8_describe 33 = .ok (.iadd, 1) := by decide +kernel
theorem dX8_describe_34 : decode cX8_describe 34 = .ok (.iaload, 1) := by decide +kernel
theorem dX8_describe_35 : decode cX8_describe 35 = .ok (.istore 6, 2) := by decide +kernel
theorem dX8_describe_37 : decode cX8_describe 37 = .ok (.aload_n 0, 1) := by decide +kernel
theorem dX8_describe_38 : decode cX8_describe 38 = .ok (.getfield 183, 3) := by decide +kernel
theorem dX8_describe_41 : decode cX8_describe 41 = .ok (.iload_n 3, 1) := by decide +kernel
theorem dX8_describe_42 : decode cX8_describe 42 = .ok (.iload 4, 2) := by decide +kernel
theorem dX8_describe_44 : decode cX8_describe 44 = .ok (.iadd, 1) := by decide +kernel
theorem dX8_describe_45 : decode cX8_describe 45 = .ok (.iload 6, 2) := by decide +kernel
theorem dX8_describe_47 : decode cX8_describe 47 = .ok (.ifCond .le 7, 3) := by decide +kernel
theorem dX8_describe_50 : decode cX8_describe 50 = .ok (.iconst 0, 1) := by decide +kernel
theorem dX8_describe_51 : decode cX8_describe 51 = .ok (.goto 15, 3) := by decide +kernel
theorem dX8_describe_54 : decode cX8_describe 54 = .ok (.iload 6, 2) := by decide +kernel
theorem dX8_describe_56 : decode cX8_describe 56 = .ok (.ineg, 1) := by decide +kernel
theorem dX8_describe_57 : decode cX8_describe 57 = .ok (.iload_n 1, 1) := by decide +kernel
theorem dX8_describe_58 : decode cX8_describe 58 = .ok (.if_icmp .ne 7, 3) := by decide +kernel
theorem dX8_describe_61 : decode cX8_describe 61 = .ok (.iconst 1, 1) := by decide +kernel
theorem dX8_describe_62 : decode cX8_describe 62 = .ok (.goto 4, 3) := by decide +kernel
theorem dX8_describe_65 : decode cX8_describe 65 = .ok (.iconst 2, 1) := by decide +kernel
theorem dX8_describe_66 : decode cX8_describe 66 = .ok (.iastore, 1) := by decide +kernel
theorem dX8_describe_67 : decode cX8_describe 67 = .ok (.iinc 4 1, 3) := by decide +kernel
theorem dX8_describe_70 : decode cX8_describe 70 = .ok (.iconst 0, 1) := by decide +kernel
theorem dX8_describe_71 : decode cX8_describe 71 = .ok (.istore 7, 2) := by decide +kernel
theorem dX8_describe_73 : decode cX8_describe 73 = .ok (.iload 7, 2) := by decide +kernel
theorem dX8_describe_75 : decode cX8_describe 75 = .ok (.iconst 4, 1) := by decide +kernel
theorem dX8_describe_76 : decode cX8_describe 76 = .ok (.if_icmp .ge 41, 3) := by decide +kernel
theorem dX8_describe_79 : decode cX8_describe 79 = .ok (.iload 6, 2) := by decide +kernel
theorem dX8_describe_81 : decode cX8_describe 81 = .ok (.ifCond .le 36, 3) := by decide +kernel
theorem dX8_describe_84 : decode cX8_describe 84 = .ok (.aload_n 0, 1) := by decide +kernel
theorem dX8_describe_85 : decode cX8_describe 85 = .ok (.getfield 183, 3) := by decide +kernel
theorem dX8_describe_88 : decode cX8_describe 88 = .ok (.iload_n 3, 1) := by decide +kernel
theorem dX8_describe_89 : decode cX8_describe 89 = .ok (.iload 4, 2) := by decide +kernel
theorem dX8_describe_91 : decode cX8_describe 91 = .ok (.iadd, 1) := by decide +kernel
theorem dX8_describe_92 : decode cX8_describe 92 = .ok (.iload 6, 2) := by decide +kernel
theorem dX8_describe_94 : decode cX8_describe 94 = .ok (.bipush 24, 2) := by decide +kernel
theorem dX8_describe_96 : decode cX8_describe 96 = .ok (.bipush 8, 2) := by decide +kernel
theorem dX8_describe_98 : decode cX8_describe 98 = .ok (.iload 7, 2) := by decide +kernel
theorem dX8_describe_100 : decode cX8_describe 100 = .ok (.imul, 1) := by decide +kernel
theorem dX8_describe_101 : decode cX8_describe 101 = .ok (.isub, 1) := by decide +kernel
theorem dX8_describe_102 : decode cX8_describe 102 = .ok (.ishr, 1) := by decide +kernel
theorem dX8_describe_103 : decode cX8_describe 103 = .ok (.sipush 255, 3) := by decide +kernel
theorem dX8_describe_106 : decode cX8_describe 106 = .ok (.iand, 1) := by decide +kernel
theorem dX8_describe_107 : decode cX8_describe 107 = .ok (.iastore, 1) := by decide +kernel
theorem dX8_describe_108 : decode cX8_describe 108 = .ok (.iinc 4 1, 3) := by decide +kernel
theorem dX8_describe_111 : decode cX8_describe 111 = .ok (.iinc 7 1, 3) := by decide +kernel
theorem dX8_describe_114 : decode cX8_describe 114 = .ok (.goto (-41), 3) := by decide +kernel
theorem dX8_describe_117 : decode cX8_describe 117 = .ok (.iconst 0, 1) := by decide +kernel
theorem dX8_describe_118 : decode cX8_describe 118 = .ok (.istore 7, 2) := by decide +kernel
theorem dX8_describe_120 : decode cX8_describe 120 = .ok (.iload 7, 2) := by decide +kernel
theorem dX8_describe_122 : decode cX8_describe 122 = .ok (.bipush 32, 2) := by decide +kernel
theorem dX8_describe_124 : decode cX8_describe 124 = .ok (.if_icmp .ge 65, 3) := by decide +kernel
theorem dX8_describe_127 : decode cX8_describe 127 = .ok (.iload 6, 2) := by decide +kernel
theorem dX8_describe_129 : decode cX8_describe 129 = .ok (.ifCond .ge 60, 3) := by decide +kernel
theorem dX8_describe_132 : decode cX8_describe 132 = .ok (.iload 6, 2) := by decide +kernel
theorem dX8_describe_134 : decode cX8_describe 134 = .ok (.ineg, 1) := by decide +kernel
theorem dX8_describe_135 : decode cX8_describe 135 = .ok (.iload_n 1, 1) := by decide +kernel
theorem dX8_describe_136 : decode cX8_describe 136 = .ok (.if_icmp .eq 53, 3) := by decide +kernel
theorem dX8_describe_139 : decode cX8_describe 139 = .ok (.aload_n 0, 1) := by decide +kernel
theorem dX8_describe_140 : decode cX8_describe 140 = .ok (.getfield 183, 3) := by decide +kernel
theorem dX8_describe_143 : decode cX8_describe 143 = .ok (.iload_n 3, 1) := by decide +kernel
theorem dX8_describe_144 : decode cX8_describe 144 = .ok (.iload 4, 2) := by decide +kernel
theorem dX8_describe_146 : decode cX8_describe 146 = .ok (.iadd, 1) := by decide +kernel
theorem dX8_describe_147 : decode cX8_describe 147 = .ok (.aload_n 0, 1) := by decide +kernel
theorem dX8_describe_148 : decode cX8_describe 148 = .ok (.getfield 155, 3) := by decide +kernel
theorem dX8_describe_151 : decode cX8_describe 151 = .ok (.bipush 8, 2) := by decide +kernel
theorem dX8_describe_153 : decode cX8_describe 153 = .ok (.iload 6, 2) := by decide +kernel
theorem dX8_describe_155 : decode cX8_describe 155 = .ok (.ineg, 1) := by decide +kernel
theorem dX8_describe_156 : decode cX8_describe 156 = .ok (.imul, 1) := by decide +kernel
theorem dX8_describe_157 : decode cX8_describe 157 = .ok (.iload 7, 2) := by decide +kernel
theorem dX8_describe_159 : decode cX8_describe 159 = .ok (.iconst 4, 1) := by decide +kernel
theorem dX8_describe_160 : decode cX8_describe 160 = .ok (.idiv, 1) := by decide +kernel
theorem dX8_describe_161 : decode cX8_describe 161 = .ok (.iadd, 1) := by decide +kernel
theorem dX8_describe_162 : decode cX8_describe 162 = .ok (.laload, 1) := by decide +kernel
theorem dX8_describe_163 : decode cX8_describe 163 = .ok (.bipush 24, 2) := by decide +kernel
theorem dX8_describe_165 : decode cX8_describe 165 = .ok (.bipush 8, 2) := by decide +kernel
theorem dX8_describe_167 : decode cX8_describe 167 = .ok (.iload 7, 2) := by decide +kernel
theorem dX8_describe_169 : decode cX8_describe 169 = .ok (.iconst 4, 1) := by decide +kernel
theorem dX8_describe_170 : decode cX8_describe 170 = .ok (.irem, 1) := by decide +kernel
theorem dX8_describe_171 : decode cX8_describe 171 = .ok (.imul, 1) := by decide +kernel
theorem dX8_describe_172 : decode cX8_describe 172 = .ok (.isub, 1) := by decide +kernel
theorem dX8_describe_173 : decode cX8_describe 173 = .ok (.lshr, 1) := by decide +kernel
theorem dX8_describe_174 : decode cX8_describe 174 = .ok (.ldc2_w 260, 3) := by decide +kernel
theorem dX8_describe_177 : decode cX8_describe 177 = .ok (.land, 1) := by decide +kernel
theorem dX8_describe_178 : decode cX8_describe 178 = .ok (.l2i, 1) := by decide +kernel
theorem dX8_describe_179 : decode cX8_describe 179 = .ok (.iastore, 1) := by decide +kernel
theorem dX8_describe_180 : decode cX8_describe 180 = .ok (.iinc 4 1, 3) := by decide +kernel
theorem dX8_describe_183 : decode cX8_describe 183 = .ok (.iinc 7 1, 3) := by decide +kernel
theorem dX8_describe_186 : decode cX8_describe 186 = .ok (.goto (-66), 3) := by decide +kernel
theorem dX8_describe_189 : decode cX8_describe 189 = .ok (.iinc 5 1, 3) := by decide +kernel
theorem dX8_describe_192 : decode cX8_describe 192 = .ok (.goto (-177), 3) := by decide +kernel
theorem dX8_describe_195 : decode cX8_describe 195 = .ok (.aload_n 0, 1) := by decide +kernel
theorem dX8_describe_196 : decode cX8_describe 196 = .ok (.getfield 183, 3) := by decide +kernel
theorem dX8_describe_199 : decode cX8_describe 199 = .ok (.iload_n 3, 1) := by decide +kernel
theorem dX8_describe_200 : decode cX8_describe 200 = .ok (.iload 4, 2) := by decide +kernel
theorem dX8_describe_202 : decode cX8_describe 202 = .ok (.iconst 1, 1) := by decide +kernel
theorem dX8_describe_203 : decode cX8_describe 203 = .ok (.isub, 1) := by decide +kernel
theorem dX8_describe_204 : decode cX8_describe 204 = .ok (.iastore, 1) := by decide +kernel
theorem dX8_describe_205 : decode cX8_describe 205 = .ok (.aload_n 0, 1) := by decide +kernel
theorem dX8_describe_206 : decode cX8_describe 206 = .ok (.dup, 1) := by decide +kernel
theorem dX8_describe_207 : decode cX8_describe 207 = .ok (.getfield 257, 3) := by decide +kernel
theorem dX8_describe_210 : decode cX8_describe 210 = .ok (.iconst 1, 1) := by decide +kernel
theorem dX8_describe_211 : decode cX8_describe 211 = .ok (.iadd, 1) := by decide +kernel
theorem dX8_describe_212 : decode cX8_describe 212 = .ok (.putfield 257, 3) := by decide +kernel
theorem dX8_describe_215 : decode cX8_describe 215 = .ok (.return_, 1) := by decide +kernel
theorem dX8_isBefore_0 : decode cX8_isBefore 0 = .ok (.aload_n 0, 1) := by decide +kernel
theorem dX8_isBefore_1 : decode cX8_isBefore 1 = .ok (.getfield 183, 3) := by decide +kernel
theorem dX8_isBefore_4 : decode cX8_isBefore 4 = .ok (.sipush 128, 3) := by decide +kernel
theorem dX8_isBefore_7 : decode cX8_isBefore 7 = .ok (.iload_n 1, 1) := by decide +kernel
theorem dX8_isBefore_8 : decode cX8_isBefore 8 = .ok (.imul, 1) := by decide +kernel
theorem dX8_isBefore_9 : decode cX8_isBefore 9 = .ok (.iaload, 1) := by decide +kernel
theorem dX8_isBefore_10 : decode cX8_isBefore 10 = .ok (.istore_n 3, 1) := by decide +kernel
theorem dX8_isBefore_11 : decode cX8_isBefore 11 = .ok (.aload_n 0, 1) := by decide +kernel
theorem dX8_isBefore_12 : decode cX8_isBefore 12 = .ok (.getfield 183, 3) := by decide +kernel
theorem dX8_isBefore_15 : decode cX8_isBefore 15 = .ok (.sipush 128, 3) := by decide +kernel
theorem dX8_isBefore_18 : decode cX8_isBefore 18 = .ok (.iload_n 2, 1) := by decide +kernel
theorem dX8_isBefore_19 : decode cX8_isBefore 19 = .ok (.imul, 1) := by decide +kernel
theorem dX8_isBefore_20 : decode cX8_isBefore 20 = .ok (.iaload, 1) := by decide +kernel
theorem dX8_isBefore_21 : decode cX8_isBefore 21 = .ok (.istore 4, 2) := by decide +kernel
theorem dX8_isBefore_23 : decode cX8_isBefore 23 = .ok (.iconst 1, 1) := by decide +kernel
theorem dX8_isBefore_24 : decode cX8_isBefore 24 = .ok (.istore 5, 2) := by decide +kernel
theorem dX8_isBefore_26 : decode cX8_isBefore 26 = .ok (.iload 5, 2) := by decide +kernel
theorem dX8_isBefore_28 : decode cX8_isBefore 28 = .ok (.iload_n 3, 1) := by decide +kernel
theorem dX8_isBefore_29 : decode cX8_isBefore 29 = .ok (.if_icmp .gt 66, 3) := by decide +kernel
theorem dX8_isBefore_32 : decode cX8_isBefore 32 = .ok (.iload 5, 2) := by decide +kernel
theorem dX8_isBefore_34 : decode cX8_isBefore 34 = .ok (.iload 4, 2) := by decide +kernel
theorem dX8_isBefore_36 : decode cX8_isBefore 36 = .ok (.if_icmp .gt 59, 3) := by decide +kernel
theorem dX8_isBefore_39 : decode cX8_isBefore 39 = .ok (.aload_n 0, 1) := by decide +kernel
theorem dX8_isBefore_40 : decode cX8_isBefore 40 = .ok (.getfield 183, 3) := by decide +kernel
theorem dX8_isBefore_43 : decode cX8_isBefore 43 = .ok (.sipush 128, 3) := by decide +kernel
theorem dX8_isBefore_46 : decode cX8_isBefore 46 = .ok (.iload_n 1, 1) := by decide +kernel
theorem dX8_isBefore_47 : decode cX8_isBefore 47 = .ok (.imul, 1) := by decide +kernel
theorem dX8_isBefore_48 : decode cX8_isBefore 48 = .ok (.iload 5, 2) := by decide +kernel
theorem dX8_isBefore_50 : decode cX8_isBefore 50 = .ok (.iadd, 1) := by decide +kernel
theorem dX8_isBefore_51 : decode cX8_isBefore 51 = .ok (.iaload, 1) := by decide +kernel
theorem dX8_isBefore_52 : decode cX8_isBefore 52 = .ok (.istore 6, 2) := by decide +kernel
theorem dX8_isBefore_54 : decode cX8_isBefore 54 = .ok (.aload_n 0, 1) := by decide +kernel
theorem dX8_isBefore_55 : decode cX8_isBefore 55 = .ok (.getfield 183, 3) := by decide +kernel
theorem dX8_isBefore_58 : decode cX8_isBefore 58 = .ok (.sipush 128, 3) := by decide +kernel
theorem dX8_isBefore_61 : decode cX8_isBefore 61 = .ok (.iload_n 2, 1) := by decide +kernel
theorem dX8_isBefore_62 : decode cX8_isBefore 62 = .ok (.imul, 1) := by decide +kernel
theorem dX8_isBefore_63 : decode cX8_isBefore 63 = .ok (.iload 5, 2) := by decide +kernel
theorem dX8_isBefore_65 : decode cX8_isBefore 65 = .ok (.iadd, 1) := by decide +kernel
theorem dX8_isBefore_66 : decode cX8_isBefore 66 = .ok (.iaload, 1) := by decide +kernel
theorem dX8_isBefore_67 : decode cX8_isBefore 67 = .ok (.istore 7, 2) := by decide +kernel
theorem dX8_isBefore_69 : decode cX8_isBefore 69 = .ok (.iload 6, 2) := by decide +kernel
theorem dX8_isBefore_71 : decode cX8_isBefore 71 = .ok (.iload 7, 2) := by decide +kernel
theorem dX8_isBefore_73 : decode cX8_isBefore 73 = .ok (.if_icmp .eq 16, 3) := by decide +kernel
theorem dX8_isBefore_76 : decode cX8_isBefore 76 = .ok (.iload 6, 2) := by decide +kernel
theorem dX8_isBefore_78 : decode cX8_isBefore 78 = .ok (.iload 7, 2) := by decide +kernel
theorem dX8_isBefore_80 : decode cX8_isBefore 80 = .ok (.if_icmp .ge 7, 3) := by decide +kernel
theorem dX8_isBefore_83 : decode cX8_isBefore 83 = .ok (.iconst 1, 1) := by decide +kernel
theorem dX8_isBefore_84 : decode cX8_isBefore 84 = .ok (.goto 4, 3) := by decide +kernel
theorem dX8_isBefore_87 : decode cX8_isBefore 87 = .ok (.iconst 0, 1) := by decide +kernel
theorem dX8_isBefore_88 : decode cX8_isBefore 88 = .ok (.ireturn, 1) := by decide +kernel
theorem dX8_isBefore_89 : decode cX8_isBefore 89 = .ok (.iinc 5 1, 3) := by decide +kernel
theorem dX8_isBefore_92 : decode cX8_isBefore 92 = .ok (.goto (-66), 3) := by decide +kernel
theorem dX8_isBefore_95 : decode cX8_isBefore 95 = .ok (.iload_n 3, 1) := by decide +kernel
theorem dX8_isBefore_96 : decode cX8_isBefore 96 = .ok (.iload 4, 2) := by decide +kernel
theorem dX8_isBefore_98 : decode cX8_isBefore 98 = .ok (.if_icmp .ge 7, 3) := by decide +kernel
theorem dX8_isBefore_101 : decode cX8_isBefore 101 = .ok (.iconst 1, 1) := by decide +kernel
theorem dX8_isBefore_102 : decode cX8_isBefore 102 = .ok (.goto 4, 3) := by decide +kernel
theorem dX8_isBefore_105 : decode cX8_isBefore 105 = .ok (.iconst 0, 1) := by decide +kernel
theorem dX8_isBefore_106 : decode cX8_isBefore 106 = .ok (.ireturn, 1) := by decide +kernel
theorem dX8_next_0 : decode cX8_next 0 = .ok (.aload_n 0, 1) := by decide +kernel
theorem dX8_next_1 : decode cX8_next 1 = .ok (.iconst 0, 1) := by decide +kernel
theorem dX8_next_2 : decode cX8_next 2 = .ok (.putfield 257, 3) := by decide +kernel
theorem dX8_next_5 : decode cX8_next 5 = .ok (.iconst 0, 1) := by decide +kernel
theorem dX8_next_6 : decode cX8_next 6 = .ok (.istore_n 2, 1) := by decide +kernel
theorem dX8_next_7 : decode cX8_next 7 = .ok (.iload_n 2, 1) := by decide +kernel
theorem dX8_next_8 : decode cX8_next 8 = .ok (.aload_n 0, 1) := by decide +kernel
theorem dX8_next_9 : decode cX8_next 9 = .ok (.getfield 149, 3) := by decide +kernel
theorem dX8_next_12 : decode cX8_next 12 = .ok (.bipush 8, 2) := by decide +kernel
theorem dX8_next_14 : decode cX8_next 14 = .ok (.iaload, 1) := by decide +kernel
theorem dX8_next_15 : decode cX8_next 15 = .ok (.if_icmp .ge 59, 3) := by decide +kernel
theorem dX8_next_18 : decode cX8_next 18 = .ok (.bipush 8, 2) := by decide +kernel
theorem dX8_next_20 : decode cX8_next 20 = .ok (.iload_n 2, 1) := by decide +kernel
theorem dX8_next_21 : decode cX8_next 21 = .ok (.invokestatic 245, 3) := by decide +kernel
theorem dX8_next_24 : decode cX8_next 24 = .ok (.istore_n 3, 1) := by decide +kernel
theorem dX8_next_25 : decode cX8_next 25 = .ok (.aload_n 0, 1) := by decide +kernel
theorem dX8_next_26 : decode cX8_next 26 = .ok (.getfield 152, 3) := by decide +kernel
theorem dX8_next_29 : decode cX8_next 29 = .ok (.iload_n 3, 1) := by decide +kernel
theorem dX8_next_30 : decode cX8_next 30 = .ok (.iaload, 1) := by decide +kernel
theorem dX8_next_31 : decode cX8_next 31 = .ok (.iload_n 1, 1) := by decide +kernel
theorem dX8_next_32 : decode cX8_next 32 = .ok (.ineg, 1) := by decide +kernel
theorem dX8_next_33 : decode cX8_next 33 = .ok (.if_icmp .eq 29, 3) := by decide +kernel
theorem dX8_next_36 : decode cX8_next 36 = .ok (.aload_n 0, 1) := by decide +kernel
theorem dX8_next_37 : decode cX8_next 37 = .ok (.getfield 152, 3) := by decide +kernel
theorem dX8_next_40 : decode cX8_next 40 = .ok (.iload_n 3, 1) := by decide +kernel
theorem dX8_next_41 : decode cX8_next 41 = .ok (.iconst 1, 1) := by decide +kernel
theorem dX8_next_42 : decode cX8_next 42 = .ok (.iadd, 1) := by decide +kernel
theorem dX8_next_43 : decode cX8_next 43 = .ok (.iaload, 1) := by decide +kernel
theorem dX8_next_44 : decode cX8_next 44 = .ok (.iload_n 1, 1) := by decide +kernel
theorem dX8_next_45 : decode cX8_next 45 = .ok (.ineg, 1) := by decide +kernel
theorem dX8_next_46 : decode cX8_next 46 = .ok (.if_icmp .eq 16, 3) := by decide +kernel
theorem dX8_next_49 : decode cX8_next 49 = .ok (.aload_n 0, 1) := by decide +kernel
theorem dX8_next_50 : decode cX8_next 50 = .ok (.getfield 152, 3) := by decide +kernel
theorem dX8_next_53 : decode cX8_next 53 = .ok (.iload_n 3, 1) := by decide +kernel
theorem dX8_next_54 : decode cX8_next 54 = .ok (.iconst 2, 1) := by decide +kernel
theorem dX8_next_55 : decode cX8_next 55 = .ok (.iadd, 1) := by decide +kernel
theorem dX8_next_56 : decode cX8_next 56 = .ok (.iaload, 1) := by decide +kernel
theorem dX8_next_57 : decode cX8_next 57 = .ok (.iload_n 1, 1) := by decide +kernel
theorem dX8_next_58 : decode cX8_next 58 = .ok (.ineg, 1) := by decide +kernel
theorem dX8_next_59 : decode cX8_next 59 = .ok (.if_icmp .ne 9, 3) := by decide +kernel
theorem dX8_next_62 : decode cX8_next 62 = .ok (.aload_n 0, 1) := by decide +kernel
theorem dX8_next_63 : decode cX8_next 63 = .ok (.iload_n 1, 1) := by decide +kernel
theorem dX8_next_64 : decode cX8_next 64 = .ok (.iload_n 2, 1) := by decide +kernel
theorem dX8_next_65 : decode cX8_next 65 = .ok (.invokevirtual 262, 3) := by decide +kernel
theorem dX8_next_68 : decode cX8_next 68 = .ok (.iinc 2 1, 3) := by decide +kernel
theorem dX8_next_71 : decode cX8_next 71 = .ok (.goto (-64), 3) := by decide +kernel
theorem dX8_next_74 : decode cX8_next 74 = .ok (.aload_n 0, 1) := by decide +kernel
theorem dX8_next_75 : decode cX8_next 75 = .ok (.iconst 0, 1) := by decide +kernel
theorem dX8_next_76 : decode cX8_next 76 = .ok (.putfield 235, 3) := by decide +kernel
theorem dX8_next_79 : decode cX8_next 79 = .ok (.iconst 0, 1) := by decide +kernel
theorem dX8_next_80 : decode cX8_next 80 = .ok (.istore_n 2, 1) := by decide +kernel
theorem dX8_next_81 : decode cX8_next 81 = .ok (.iload_n 2, 1) := by decide +kernel
theorem dX8_next_82 : decode cX8_next 82 = .ok (.bipush 8, 2) := by decide +kernel
theorem dX8_next_84 : decode cX8_next 84 = .ok (.if_icmp .ge 24, 3) := by decide +kernel
theorem dX8_next_87 : decode cX8_next 87 = .ok (.aload_n 0, 1) := by decide +kernel
theorem dX8_next_88 : decode cX8_next 88 = .ok (.aload_n 0, 1) := by decide +kernel
theorem dX8_next_89 : decode cX8_next 89 = .ok (.getfield 155, 3) := by decide +kernel
theorem dX8_next_92 : decode cX8_next 92 = .ok (.bipush 8, 2) := by decide +kernel
theorem dX8_next_94 : decode cX8_next 94 = .ok (.iload_n 1, 1) := by decide +kernel
theorem dX8_next_95 : decode cX8_next 95 = .ok (.imul, 1) := by decide +kernel
theorem dX8_next_96 : decode cX8_next 96 = .ok (.iload_n 2, 1) := by decide +kernel
theorem dX8_next_97 : decode cX8_next 97 = .ok (.iadd, 1) := by decide +kernel
theorem dX8_next_98 : decode cX8_next 98 = .ok (.laload, 1) := by decide +kernel
theorem dX8_next_99 : decode cX8_next 99 = .ok (.invokevirtual 266, 3) := by decide +kernel
theorem dX8_next_102 : decode cX8_next 102 = .ok (.iinc 2 1, 3) := by decide +kernel
theorem dX8_next_105 : decode cX8_next 105 = .ok (.goto (-24), 3) := by decide +kernel
theorem dX8_next_108 : decode cX8_next 108 = .ok (.iconst 0, 1) := by decide +kernel
theorem dX8_next_109 : decode cX8_next 109 = .ok (.istore_n 2, 1) := by decide +kernel
theorem dX8_next_110 : decode cX8_next 110 = .ok (.iload_n 2, 1) := by decide +kernel
theorem dX8_next_111 : decode cX8_next 111 = .ok (.aload_n 0, 1) := by decide +kernel
theorem dX8_next_112 : decode cX8_next 112 = .ok (.getfield 257, 3) := by decide +kernel
theorem dX8_next_115 : decode cX8_next 115 = .ok (.if_icmp .ge 16, 3) := by decide +kernel
theorem dX8_next_118 : decode cX8_next 118 = .ok (.aload_n 0, 1) := by decide +kernel
theorem dX8_next_119 : decode cX8_next 119 = .ok (.getfield 195, 3) := by decide +kernel
theorem dX8_next_122 : decode cX8_next 122 = .ok (.iload_n 2, 1) := by decide +kernel
theorem dX8_next_123 : decode cX8_next 123 = .ok (.iconst 0, 1) := by decide +kernel
theorem dX8_next_124 : decode cX8_next 124 = .ok (.bastore, 1) := by decide +kernel
theorem dX8_next_125 : decode cX8_next 125 = .ok (.iinc 2 1, 3) := by decide +kernel
theorem dX8_next_128 : decode cX8_next 128 = .ok (.goto (-18), 3) := by decide +kernel
theorem dX8_next_131 : decode cX8_next 131 = .ok (.iconst 0, 1) := by decide +kernel
theorem dX8_next_132 : decode cX8_next 132 = .ok (.istore_n 2, 1) := by decide +kernel
theorem dX8_next_133 : decode cX8_next 133 = .ok (.iload_n 2, 1) := by decide +kernel
theorem dX8_next_134 : decode cX8_next 134 = .ok (.aload_n 0, 1) := by decide +kernel
theorem dX8_next_135 : decode cX8_next 135 = .ok (.getfield 257, 3) := by decide +kernel
theorem dX8_next_138 : decode cX8_next 138 = .ok (.if_icmp .ge 104, 3) := by decide +kernel
theorem dX8_next_141 : decode cX8_next 141 = .ok (.iconst (-1), 1) := by decide +kernel
theorem dX8_next_142 : decode cX8_next 142 = .ok (.istore_n 3, 1) := by decide +kernel
theorem dX8_next_143 : decode cX8_next 143 = .ok (.iconst 0, 1) := by decide +kernel
theorem dX8_next_144 : decode cX8_next 144 = .ok (.istore 4, 2) := by decide +kernel
theorem dX8_next_146 : decode cX8_next 146 = .ok (.iload 4, 2) := by decide +kernel
theorem dX8_next_148 : decode cX8_next 148 = .ok (.aload_n 0, 1) := by decide +kernel
theorem dX8_next_149 : decode cX8_next 149 = .ok (.getfield 257, 3) := by decide +kernel
theorem dX8_next_152 : decode cX8_next 152 = .ok (.if_icmp .ge 36, 3) := by decide +kernel
theorem dX8_next_155 : decode cX8_next 155 = .ok (.aload_n 0, 1) := by decide +kernel
theorem dX8_next_156 : decode cX8_next 156 = .ok (.getfield 195, 3) := by decide +kernel
theorem dX8_next_159 : decode cX8_next 159 = .ok (.iload 4, 2) := by decide +kernel
theorem dX8_next_161 : decode cX8_next 161 = .ok (.baload, 1) := by decide +kernel
theorem dX8_next_162 : decode cX8_next 162 = .ok (.ifCond .ne 20, 3) := by decide +kernel
theorem dX8_next_165 : decode cX8_next 165 = .ok (.iload_n 3, 1) := by decide +kernel
theorem dX8_next_166 : decode cX8_next 166 = .ok (.ifCond .lt 13, 3) := by decide +kernel
theorem dX8_next_169 : decode cX8_next 169 = .ok (.aload_n 0, 1) := by decide +kernel
theorem dX8_next_170 : decode cX8_next 170 = .ok (.iload 4, 2) := by decide +kernel
theorem dX8_next_172 : decode cX8_next 172 = .ok (.iload_n 3, 1) := by decide +kernel
theorem dX8_next_173 : decode cX8_next 173 = .ok (.invokevirtual 270, 3) := by decide +kernel
theorem dX8_next_176 : decode cX8_next 176 = .ok (.ifCond .eq 6, 3) := by decide +kernel
theorem dX8_next_179 : decode cX8_next 179 = .ok (.iload 4, 2) := by decide +kernel
theorem dX8_next_181 : decode cX8_next 181 = .ok (.istore_n 3, 1) := by decide +kernel
theorem dX8_next_182 : decode cX8_next 182 = .ok (.iinc 4 1, 3) := by decide +kernel
theorem dX8_next_185 : decode cX8_next 185 = .ok (.goto (-39), 3) := by decide +kernel
theorem dX8_next_188 : decode cX8_next 188 = .ok (.aload_n 0, 1) := by decide +kernel
theorem dX8_next_189 : decode cX8_next 189 = .ok (.getfield 195, 3) := by decide +kernel
theorem dX8_next_192 : decode cX8_next 192 = .ok (.iload_n 3, 1) := by decide +kernel
theorem dX8_next_193 : decode cX8_next 193 = .ok (.iconst 1, 1) := by decide +kernel
theorem dX8_next_194 : decode cX8_next 194 = .ok (.bastore, 1) := by decide +kernel
theorem dX8_next_195 : decode cX8_next 195 = .ok (.iconst 1, 1) := by decide +kernel
theorem dX8_next_196 : decode cX8_next 196 = .ok (.istore 4, 2) := by decide +kernel
theorem dX8_next_198 : decode cX8_next 198 = .ok (.iload 4, 2) := by decide +kernel
theorem dX8_next_200 : decode cX8_next 200 = .ok (.aload_n 0, 1) := by decide +kernel
theorem dX8_next_201 : decode cX8_next 201 = .ok (.getfield 183, 3) := by decide +kernel
theorem dX8_next_204 : decode cX8_next 204 = .ok (.sipush 128, 3) := by decide +kernel
theorem dX8_next_207 : decode cX8_next 207 = .ok (.iload_n 3, 1) := by decide +kernel
theorem dX8_next_208 : decode cX8_next 208 = .ok (.imul, 1) := by decide +kernel
theorem dX8_next_209 : decode cX8_next 209 = .ok (.iaload, 1) := by decide +kernel
theorem dX8_next_210 : decode cX8_next 210 = .ok (.if_icmp .gt 26, 3) := by decide +kernel
theorem dX8_next_213 : decode cX8_next 213 = .ok (.aload_n 0, 1) := by decide +kernel
theorem dX8_next_214 : decode cX8_next 214 = .ok (.aload_n 0, 1) := by decide +kernel
theorem dX8_next_215 : decode cX8_next 215 = .ok (.getfield 183, 3) := by decide +kernel
theorem dX8_next_218 : decode cX8_next 218 = .ok (.sipush 128, 3) := by decide +kernel
theorem dX8_next_221 : decode cX8_next 221 = .ok (.iload_n 3, 1) := by decide +kernel
theorem dX8_next_222 : decode cX8_next 222 = .ok (.imul, 1) := by decide +kernel
theorem dX8_next_223 : decode cX8_next 223 = .ok (.iload 4, 2) := by decide +kernel
theorem dX8_next_225 : decode cX8_next 225 = .ok (.iadd, 1) := by decide +kernel
theorem dX8_next_226 : decode cX8_next 226 = .ok (.iaload, 1) := by decide +kernel
theorem dX8_next_227 : decode cX8_next 227 = .ok (.invokevirtual 238, 3) := by decide +kernel
theorem dX8_next_230 : decode cX8_next 230 = .ok (.iinc 4 1, 3) := by decide +kernel
theorem dX8_next_233 : decode cX8_next 233 = .ok (.goto (-35), 3) := by decide +kernel
theorem dX8_next_236 : decode cX8_next 236 = .ok (.iinc 2 1, 3) := by decide +kernel
theorem dX8_next_239 : decode cX8_next 239 = .ok (.goto (-106), 3) := by decide +kernel
theorem dX8_next_242 : decode cX8_next 242 = .ok (.aload_n 0, 1) := by decide +kernel
theorem dX8_next_243 : decode cX8_next 243 = .ok (.aload_n 0, 1) := by decide +kernel
theorem dX8_next_244 : decode cX8_next 244 = .ok (.getfield 235, 3) := by decide +kernel
theorem dX8_next_247 : decode cX8_next 247 = .ok (.invokevirtual 199, 3) := by decide +kernel
theorem dX8_next_250 : decode cX8_next 250 = .ok (.iconst 0, 1) := by decide +kernel
theorem dX8_next_251 : decode cX8_next 251 = .ok (.istore_n 2, 1) := by decide +kernel
theorem dX8_next_252 : decode cX8_next 252 = .ok (.iload_n 2, 1) := by decide +kernel
theorem dX8_next_253 : decode cX8_next 253 = .ok (.bipush 8, 2) := by decide +kernel
theorem dX8_next_255 : decode cX8_next 255 = .ok (.if_icmp .ge 26, 3) := by decide +kernel
theorem dX8_next_258 : decode cX8_next 258 = .ok (.aload_n 0, 1) := by decide +kernel
theorem dX8_next_259 : decode cX8_next 259 = .ok (.getfield 158, 3) := by decide +kernel
theorem dX8_next_262 : decode cX8_next 262 = .ok (.bipush 8, 2) := by decide +kernel
theorem dX8_next_264 : decode cX8_next 264 = .ok (.iload_n 1, 1) := by decide +kernel
theorem dX8_next_265 : decode cX8_next 265 = .ok (.imul, 1) := by decide +kernel
theorem dX8_next_266 : decode cX8_next 266 = .ok (.iload_n 2, 1) := by decide +kernel
theorem dX8_next_267 : decode cX8_next 267 = .ok (.iadd, 1) := by decide +kernel
theorem dX8_next_268 : decode cX8_next 268 = .ok (.aload_n 0, 1) := by decide +kernel
theorem dX8_next_269 : decode cX8_next 269 = .ok (.getfield 189, 3) := by decide +kernel
theorem dX8_next_272 : decode cX8_next 272 = .ok (.iload_n 2, 1) := by decide +kernel
theorem dX8_next_273 : decode cX8_next 273 = .ok (.laload, 1) := by decide +kernel
theorem dX8_next_274 : decode cX8_next 274 = .ok (.lastore, 1) := by decide +kernel
theorem dX8_next_275 : decode cX8_next 275 = .ok (.iinc 2 1, 3) := by decide +kernel
theorem dX8_next_278 : decode cX8_next 278 = .ok (.goto (-26), 3) := by decide +kernel
theorem dX8_next_281 : decode cX8_next 281 = .ok (.return_, 1) := by decide +kernel
theorem dX8_compare_0 : decode cX8_compare 0 = .ok (.iconst 0, 1) := by decide +kernel
theorem dX8_compare_1 : decode cX8_compare 1 = .ok (.istore_n 3, 1) := by decide +kernel
theorem dX8_compare_2 : decode cX8_compare 2 = .ok (.iload_n 3, 1) := by decide +kernel
theorem dX8_compare_3 : decode cX8_compare 3 = .ok (.bipush 8, 2) := by decide +kernel
theorem dX8_compare_5 : decode cX8_compare 5 = .ok (.if_icmp .ge 55, 3) := by decide +kernel
theorem dX8_compare_8 : decode cX8_compare 8 = .ok (.aload_n 0, 1) := by decide +kernel
theorem dX8_compare_9 : decode cX8_compare 9 = .ok (.bipush 8, 2) := by decide +kernel
theorem dX8_compare_11 : decode cX8_compare 11 = .ok (.iload_n 1, 1) := by decide +kernel
theorem dX8_compare_12 : decode cX8_compare 12 = .ok (.imul, 1) := by decide +kernel
theorem dX8_compare_13 : decode cX8_compare 13 = .ok (.iload_n 3, 1) := by decide +kernel
theorem dX8_compare_14 : decode cX8_compare 14 = .ok (.iadd, 1) := by decide +kernel
theorem dX8_compare_15 : decode cX8_compare 15 = .ok (.laload, 1) := by decide +kernel
theorem dX8_compare_16 : decode cX8_compare 16 = .ok (.aload_n 0, 1) := by decide +kernel
theorem dX8_compare_17 : decode cX8_compare 17 = .ok (.bipush 8, 2) := by decide +kernel
theorem dX8_compare_19 : decode cX8_compare 19 = .ok (.iload_n 2, 1) := by decide +kernel
theorem dX8_compare_20 : decode cX8_compare 20 = .ok (.imul, 1) := by decide +kernel
theorem dX8_compare_21 : decode cX8_compare 21 = .ok (.iload_n 3, 1) := by decide +kernel
theorem dX8_compare_22 : decode cX8_compare 22 = .ok (.iadd, 1) := by decide +kernel
theorem dX8_compare_23 : decode cX8_compare 23 = .ok (.laload, 1) := by decide +kernel
theorem dX8_compare_24 : decode cX8_compare 24 = .ok (.lcmp, 1) := by decide +kernel
theorem dX8_compare_25 : decode cX8_compare 25 = .ok (.ifCond .eq 29, 3) := by decide +kernel
theorem dX8_compare_28 : decode cX8_compare 28 = .ok (.aload_n 0, 1) := by decide +kernel
theorem dX8_compare_29 : decode cX8_compare 29 = .ok (.bipush 8, 2) := by decide +kernel
theorem dX8_compare_31 : decode cX8_compare 31 = .ok (.iload_n 1, 1) := by decide +kernel
theorem dX8_compare_32 : decode cX8_compare 32 = .ok (.imul, 1) := by decide +kernel
theorem dX8_compare_33 : decode cX8_compare 33 = .ok (.iload_n 3, 1) := by decide +kernel
theorem dX8_compare_34 : decode cX8_compare 34 = .ok (.iadd, 1) := by decide +kernel
theorem dX8_compare_35 : decode cX8_compare 35 = .ok (.laload, 1) := by decide +kernel
theorem dX8_compare_36 : decode cX8_compare 36 = .ok (.aload_n 0, 1) := by decide +kernel
theorem dX8_compare_37 : decode cX8_compare 37 = .ok (.bipush 8, 2) := by decide +kernel
theorem dX8_compare_39 : decode cX8_compare 39 = .ok (.iload_n 2, 1) := by decide +kernel
theorem dX8_compare_40 : decode cX8_compare 40 = .ok (.imul, 1) := by decide +kernel
theorem dX8_compare_41 : decode cX8_compare 41 = .ok (.iload_n 3, 1) := by decide +kernel
theorem dX8_compare_42 : decode cX8_compare 42 = .ok (.iadd, 1) := by decide +kernel
theorem dX8_compare_43 : decode cX8_compare 43 = .ok (.laload, 1) := by decide +kernel
theorem dX8_compare_44 : decode cX8_compare 44 = .ok (.lcmp, 1) := by decide +kernel
theorem dX8_compare_45 : decode cX8_compare 45 = .ok (.ifCond .ge 7, 3) := by decide +kernel
theorem dX8_compare_48 : decode cX8_compare 48 = .ok (.iconst (-1), 1) := by decide +kernel
theorem dX8_compare_49 : decode cX8_compare 49 = .ok (.goto 4, 3) := by decide +kernel
theorem dX8_compare_52 : decode cX8_compare 52 = .ok (.iconst 1, 1) := by decide +kernel
theorem dX8_compare_53 : decode cX8_compare 53 = .ok (.ireturn, 1) := by decide +kernel
theorem dX8_compare_54 : decode cX8_compare 54 = .ok (.iinc 3 1, 3) := by decide +kernel
theorem dX8_compare_57 : decode cX8_compare 57 = .ok (.goto (-55), 3) := by decide +kernel
theorem dX8_compare_60 : decode cX8_compare 60 = .ok (.iconst 0, 1) := by decide +kernel
theorem dX8_compare_61 : decode cX8_compare 61 = .ok (.ireturn, 1) := by decide +kernel
theorem dX8_different_0 : decode cX8_different 0 = .ok (.iconst 0, 1) := by decide +kernel
theorem dX8_different_1 : decode cX8_different 1 = .ok (.istore_n 2, 1) := by decide +kernel
theorem dX8_different_2 : decode cX8_different 2 = .ok (.iconst 1, 1) := by decide +kernel
theorem dX8_different_3 : decode cX8_different 3 = .ok (.istore_n 3, 1) := by decide +kernel
theorem dX8_different_4 : decode cX8_different 4 = .ok (.iload_n 3, 1) := by decide +kernel
theorem dX8_different_5 : decode cX8_different 5 = .ok (.aload_n 0, 1) := by decide +kernel
theorem dX8_different_6 : decode cX8_different 6 = .ok (.getfield 145, 3) := by decide +kernel
theorem dX8_different_9 : decode cX8_different 9 = .ok (.bipush 8, 2) := by decide +kernel
theorem dX8_different_11 : decode cX8_different 11 = .ok (.iaload, 1) := by decide +kernel
theorem dX8_different_12 : decode cX8_different 12 = .ok (.if_icmp .gt 62, 3) := by decide +kernel
theorem dX8_different_15 : decode cX8_different 15 = .ok (.iconst 1, 1) := by decide +kernel
theorem dX8_different_16 : decode cX8_different 16 = .ok (.istore 4, 2) := by decide +kernel
theorem dX8_different_18 : decode cX8_different 18 = .ok (.iconst 1, 1) := by decide +kernel
theorem dX8_different_19 : decode cX8_different 19 = .ok (.istore 5, 2) := by decide +kernel
theorem dX8_different_21 : decode cX8_different 21 = .ok (.iload 5, 2) := by decide +kernel
theorem dX8_different_23 : decode cX8_different 23 = .ok (.iload_n 3, 1) := by decide +kernel
theorem dX8_different_24 : decode cX8_different 24 = .ok (.if_icmp .ge 31, 3) := by decide +kernel
theorem dX8_different_27 : decode cX8_different 27 = .ok (.iload 4, 2) := by decide +kernel
theorem dX8_different_29 : decode cX8_different 29 = .ok (.ifCond .eq 17, 3) := by decide +kernel
theorem dX8_different_32 : decode cX8_different 32 = .ok (.aload_n 1, 1) := by decide +kernel
theorem dX8_different_33 : decode cX8_different 33 = .ok (.iload_n 3, 1) := by decide +kernel
theorem dX8_different_34 : decode cX8_different 34 = .ok (.iload 5, 2) := by decide +kernel
theorem dX8_different_36 : decode cX8_different 36 = .ok (.invokestatic 274, 3) := by decide +kernel
theorem dX8_different_39 : decode cX8_different 39 = .ok (.ifCond .eq 7, 3) := by decide +kernel
theorem dX8_different_42 : decode cX8_different 42 = .ok (.iconst 1, 1) := by decide +kernel
theorem dX8_different_43 : decode cX8_different 43 = .ok (.goto 4, 3) := by decide +kernel
theorem dX8_different_46 : decode cX8_different 46 = .ok (.iconst 0, 1) := by decide +kernel
theorem dX8_different_47 : decode cX8_different 47 = .ok (.istore 4, 2) := by decide +kernel
theorem dX8_different_49 : decode cX8_different 49 = .ok (.iinc 5 1, 3) := by decide +kernel
theorem dX8_different_52 : decode cX8_different 52 = .ok (.goto (-31), 3) := by decide +kernel
theorem dX8_different_55 : decode cX8_different 55 = .ok (.iload_n 2, 1) := by decide +kernel
theorem dX8_different_56 : decode cX8_different 56 = .ok (.iload 4, 2) := by decide +kernel
theorem dX8_different_58 : decode cX8_different 58 = .ok (.ifCond .eq 7, 3) := by decide +kernel
theorem dX8_different_61 : decode cX8_different 61 = .ok (.iconst 1, 1) := by decide +kernel
theorem dX8_different_62 : decode cX8_different 62 = .ok (.goto 4, 3) := by decide +kernel
theorem dX8_different_65 : decode cX8_different 65 = .ok (.iconst 0, 1) := by decide +kernel
theorem dX8_different_66 : decode cX8_different 66 = .ok (.iadd, 1) := by decide +kernel
theorem dX8_different_67 : decode cX8_different 67 = .ok (.istore_n 2, 1) := by decide +kernel
theorem dX8_different_68 : decode cX8_different 68 = .ok (.iinc 3 1, 3) := by decide +kernel
theorem dX8_different_71 : decode cX8_different 71 = .ok (.goto (-67), 3) := by decide +kernel
theorem dX8_different_74 : decode cX8_different 74 = .ok (.iload_n 2, 1) := by decide +kernel
theorem dX8_different_75 : decode cX8_different 75 = .ok (.ireturn, 1) := by decide +kernel
theorem dX8_makeHashes_0 : decode cX8_makeHashes 0 = .ok (.aload_n 0, 1) := by decide +kernel
theorem dX8_makeHashes_1 : decode cX8_makeHashes 1 = .ok (.getfield 241, 3) := by decide +kernel
theorem dX8_makeHashes_4 : decode cX8_makeHashes 4 = .ok (.ifCond .eq 4, 3) := by decide +kernel
theorem dX8_makeHashes_7 : decode cX8_makeHashes 7 = .ok (.return_, 1) := by decide +kernel
theorem dX8_makeHashes_8 : decode cX8_makeHashes 8 = .ok (.aload_n 0, 1) := by decide +kernel
theorem dX8_makeHashes_9 : decode cX8_makeHashes 9 = .ok (.getfield 145, 3) := by decide +kernel
theorem dX8_makeHashes_12 : decode cX8_makeHashes 12 = .ok (.bipush 8, 2) := by decide +kernel
theorem dX8_makeHashes_14 : decode cX8_makeHashes 14 = .ok (.iaload, 1) := by decide +kernel
theorem dX8_makeHashes_15 : decode cX8_makeHashes 15 = .ok (.istore_n 1, 1) := by decide +kernel
theorem dX8_makeHashes_16 : decode cX8_makeHashes 16 = .ok (.aload_n 0, 1) := by decide +kernel
theorem dX8_makeHashes_17 : decode cX8_makeHashes 17 = .ok (.iconst 0, 1) := by decide +kernel
theorem dX8_makeHashes_18 : decode cX8_makeHashes 18 = .ok (.invokevirtual 199, 3) := by decide +kernel
theorem dX8_makeHashes_21 : decode cX8_makeHashes 21 = .ok (.iconst 1, 1) := by decide +kernel
theorem dX8_makeHashes_22 : decode cX8_makeHashes 22 = .ok (.istore_n 2, 1) := by decide +kernel
theorem dX8_makeHashes_23 : decode cX8_makeHashes 23 = .ok (.iload_n 2, 1) := by decide +kernel
theorem dX8_makeHashes_24 : decode cX8_makeHashes 24 = .ok (.iload_n 1, 1) := by decide +kernel
theorem dX8_makeHashes_25 : decode cX8_makeHashes 25 = .ok (.if_icmp .gt 40, 3) := by decide +kernel
theorem dX8_makeHashes_28 : decode cX8_makeHashes 28 = .ok (.iconst 0, 1) := by decide +kernel
theorem dX8_makeHashes_29 : decode cX8_makeHashes 29 = .ok (.istore_n 3, 1) := by decide +kernel
theorem dX8_makeHashes_30 : decode cX8_makeHashes 30 = .ok (.iload_n 3, 1) := by decide +kernel
theorem dX8_makeHashes_31 : decode cX8_makeHashes 31 = .ok (.bipush 8, 2) := by decide +kernel
theorem dX8_makeHashes_33 : decode cX8_makeHashes 33 = .ok (.if_icmp .ge 26, 3) := by decide +kernel
theorem dX8_makeHashes_36 : decode cX8_makeHashes 36 = .ok (.aload_n 0, 1) := by decide +kernel
theorem dX8_makeHashes_37 : decode cX8_makeHashes 37 = .ok (.getfield 155, 3) := by decide +kernel
theorem dX8_makeHashes_40 : decode cX8_makeHashes 40 = .ok (.bipush 8, 2) := by decide +kernel
theorem dX8_makeHashes_42 : decode cX8_makeHashes 42 = .ok (.iload_n 2, 1) := by decide +kernel
theorem dX8_makeHashes_43 : decode cX8_makeHashes 43 = .ok (.imul, 1) := by decide +kernel
theorem dX8_makeHashes_44 : decode cX8_makeHashes 44 = .ok (.iload_n 3, 1) := by decide +kernel
theorem dX8_makeHashes_45 : decode cX8_makeHashes 45 = .ok (.iadd, 1) := by decide +kernel
theorem dX8_makeHashes_46 : decode cX8_makeHashes 46 = .ok (.aload_n 0, 1) := by decide +kernel
theorem dX8_makeHashes_47 : decode cX8_makeHashes 47 = .ok (.getfield 189, 3) := by decide +kernel
theorem dX8_makeHashes_50 : decode cX8_makeHashes 50 = .ok (.iload_n 3, 1) := by decide +kernel
theorem dX8_makeHashes_51 : decode cX8_makeHashes 51 = .ok (.laload, 1) := by decide +kernel
theorem dX8_makeHashes_52 : decode cX8_makeHashes 52 = .ok (.lastore, 1) := by decide +kernel
theorem dX8_makeHashes_53 : decode cX8_makeHashes 53 = .ok (.iinc 3 1, 3) := by decide +kernel
theorem dX8_makeHashes_56 : decode cX8_makeHashes 56 = .ok (.goto (-26), 3) := by decide +kernel
theorem dX8_makeHashes_59 : decode cX8_makeHashes 59 = .ok (.iinc 2 1, 3) := by decide +kernel
theorem dX8_makeHashes_62 : decode cX8_makeHashes 62 = .ok (.goto (-39), 3) := by decide +kernel
theorem dX8_makeHashes_65 : decode cX8_makeHashes 65 = .ok (.aload_n 0, 1) := by decide +kernel
theorem dX8_makeHashes_66 : decode cX8_makeHashes 66 = .ok (.iconst 0, 1) := by decide +kernel
theorem dX8_makeHashes_67 : decode cX8_makeHashes 67 = .ok (.putfield 278, 3) := by decide +kernel
theorem dX8_makeHashes_70 : decode cX8_makeHashes 70 = .ok (.iconst 1, 1) := by decide +kernel
theorem dX8_makeHashes_71 : decode cX8_makeHashes 71 = .ok (.istore_n 2, 1) := by decide +kernel
theorem dX8_makeHashes_72 : decode cX8_makeHashes 72 = .ok (.iload_n 2, 1) := by decide +kernel
theorem dX8_makeHashes_73 : decode cX8_makeHashes 73 = .ok (.ifCond .eq 113, 3) := by decide +kernel
theorem dX8_makeHashes_76 : decode cX8_makeHashes 76 = .ok (.iconst 1, 1) := by decide +kernel
theorem dX8_makeHashes_77 : decode cX8_makeHashes 77 = .ok (.istore_n 3, 1) := by decide +kernel
theorem dX8_makeHashes_78 : decode cX8_makeHashes 78 = .ok (.iload_n 3, 1) := by decide +kernel
theorem dX8_makeHashes_79 : decode cX8_makeHashes 79 = .ok (.iload_n 1, 1) := by decide +kernel
theorem dX8_makeHashes_80 : decode cX8_makeHashes 80 = .ok (.if_icmp .gt 14, 3) := by decide +kernel
theorem dX8_makeHashes_83 : decode cX8_makeHashes 83 = .ok (.aload_n 0, 1) := by decide +kernel
theorem dX8_makeHashes_84 : decode cX8_makeHashes 84 = .ok (.iload_n 3, 1) := by decide +kernel
theorem dX8_makeHashes_85 : decode cX8_makeHashes 85 = .ok (.invokevirtual 281, 3) := by decide +kernel
theorem dX8_makeHashes_88 : decode cX8_makeHashes 88 = .ok (.iinc 3 1, 3) := by decide +kernel
theorem dX8_makeHashes_91 : decode cX8_makeHashes 91 = .ok (.goto (-13), 3) := by decide +kernel
theorem dX8_makeHashes_94 : decode cX8_makeHashes 94 = .ok (.aload_n 0, 1) := by decide +kernel
theorem dX8_makeHashes_95 : decode cX8_makeHashes 95 = .ok (.dup, 1) := by decide +kernel
theorem dX8_makeHashes_96 : decode cX8_makeHashes 96 = .ok (.getfield 278, 3) := by decide +kernel
theorem dX8_makeHashes_99 : decode cX8_makeHashes 99 = .ok (.iconst 1, 1) := by decide +kernel
theorem dX8_makeHashes_100 : decode cX8_makeHashes 100 = .ok (.iadd, 1) := by decide +kernel
theorem dX8_makeHashes_101 : decode cX8_makeHashes 101 = .ok (.putfield 278, 3) := by decide +kernel
theorem dX8_makeHashes_104 : decode cX8_makeHashes 104 = .ok (.iload_n 1, 1) := by decide +kernel
theorem dX8_makeHashes_105 : decode cX8_makeHashes 105 = .ok (.iconst 2, 1) := by decide +kernel
theorem dX8_makeHashes_106 : decode cX8_makeHashes 106 = .ok (.if_icmp .lt 22, 3) := by decide +kernel
theorem dX8_makeHashes_109 : decode cX8_makeHashes 109 = .ok (.aload_n 0, 1) := by decide +kernel
theorem dX8_makeHashes_110 : decode cX8_makeHashes 110 = .ok (.aload_n 0, 1) := by decide +kernel
theorem dX8_makeHashes_111 : decode cX8_makeHashes 111 = .ok (.getfield 158, 3) := by decide +kernel
theorem dX8_makeHashes_114 : decode cX8_makeHashes 114 = .ok (.invokevirtual 284, 3) := by decide +kernel
theorem dX8_makeHashes_117 : decode cX8_makeHashes 117 = .ok (.aload_n 0, 1) := by decide +kernel
theorem dX8_makeHashes_118 : decode cX8_makeHashes 118 = .ok (.aload_n 0, 1) := by decide +kernel
theorem dX8_makeHashes_119 : decode cX8_makeHashes 119 = .ok (.getfield 155, 3) := by decide +kernel
theorem dX8_makeHashes_122 : decode cX8_makeHashes 122 = .ok (.invokevirtual 284, 3) := by decide +kernel
theorem dX8_makeHashes_125 : decode cX8_makeHashes 125 = .ok (.if_icmp .le 7, 3) := by decide +kernel
theorem dX8_makeHashes_128 : decode cX8_makeHashes 128 = .ok (.iconst 1, 1) := by decide +kernel
theorem dX8_makeHashes_129 : decode cX8_makeHashes 129 = .ok (.goto 4, 3) := by decide +kernel
theorem dX8_makeHashes_132 : decode cX8_makeHashes 132 = .ok (.iconst 0, 1) := by decide +kernel
theorem dX8_makeHashes_133 : decode cX8_makeHashes 133 = .ok (.istore_n 3, 1) := by decide +kernel
theorem dX8_makeHashes_134 : decode cX8_makeHashes 134 = .ok (.iconst 0, 1) := by decide +kernel
theorem dX8_makeHashes_135 : decode cX8_makeHashes 135 = .ok (.istore 4, 2) := by decide +kernel
theorem dX8_makeHashes_137 : decode cX8_makeHashes 137 = .ok (.iload 4, 2) := by decide +kernel
theorem dX8_makeHashes_139 : decode cX8_makeHashes 139 = .ok (.bipush 72, 2) := by decide +kernel
theorem dX8_makeHashes_141 : decode cX8_makeHashes 141 = .ok (.if_icmp .ge 27, 3) := by decide +kernel
theorem dX8_makeHashes_144 : decode cX8_makeHashes 144 = .ok (.iload_n 3, 1) := by decide +kernel
theorem dX8_makeHashes_145 : decode cX8_makeHashes 145 = .ok (.ifCond .eq 23, 3) := by decide +kernel
theorem dX8_makeHashes_148 : decode cX8_makeHashes 148 = .ok (.aload_n 0, 1) := by decide +kernel
theorem dX8_makeHashes_149 : decode cX8_makeHashes 149 = .ok (.getfield 155, 3) := by decide +kernel
theorem dX8_makeHashes_152 : decode cX8_makeHashes 152 = .ok (.iload 4, 2) := by decide +kernel
theorem dX8_makeHashes_154 : decode cX8_makeHashes 154 = .ok (.aload_n 0, 1) := by decide +kernel
theorem dX8_makeHashes_155 : decode cX8_makeHashes 155 = .ok (.getfield 158, 3) := by decide +kernel
theorem dX8_makeHashes_158 : decode cX8_makeHashes 158 = .ok (.iload 4, 2) := by decide +kernel
theorem dX8_makeHashes_160 : decode cX8_makeHashes 160 = .ok (.laload, 1) := by decide +kernel
theorem dX8_makeHashes_161 : decode cX8_makeHashes 161 = .ok (.lastore, 1) := by decide +kernel
theorem dX8_makeHashes_162 : decode cX8_makeHashes 162 = .ok (.iinc 4 1, 3) := by decide +kernel
theorem dX8_makeHashes_165 : decode cX8_makeHashes 165 = .ok (.goto (-28), 3) := by decide +kernel
theorem dX8_makeHashes_168 : decode cX8_makeHashes 168 = .ok (.iload_n 3, 1) := by decide +kernel
theorem dX8_makeHashes_169 : decode cX8_makeHashes 169 = .ok (.ifCond .eq 12, 3) := by decide +kernel
theorem dX8_makeHashes_172 : decode cX8_makeHashes 172 = .ok (.iload_n 1, 1) := by decide +kernel
theorem dX8_makeHashes_173 : decode cX8_makeHashes 173 = .ok (.iconst 1, 1) := by decide +kernel
theorem dX8_makeHashes_174 : decode cX8_makeHashes 174 = .ok (.if_icmp .le 7, 3) := by decide +kernel
theorem dX8_makeHashes_177 : decode cX8_makeHashes 177 = .ok (.iconst 1, 1) := by decide +kernel
theorem dX8_makeHashes_178 : decode cX8_makeHashes 178 = .ok (.goto 4, 3) := by decide +kernel
theorem dX8_makeHashes_181 : decode cX8_makeHashes 181 = .ok (.iconst 0, 1) := by decide +kernel
theorem dX8_makeHashes_182 : decode cX8_makeHashes 182 = .ok (.istore_n 2, 1) := by decide +kernel
theorem dX8_makeHashes_183 : decode cX8_makeHashes 183 = .ok (.goto (-111), 3) := by decide +kernel
theorem dX8_makeHashes_186 : decode cX8_makeHashes 186 = .ok (.aload_n 0, 1) := by decide +kernel
theorem dX8_makeHashes_187 : decode cX8_makeHashes 187 = .ok (.iload_n 1, 1) := by decide +kernel
theorem dX8_makeHashes_188 : decode cX8_makeHashes 188 = .ok (.invokevirtual 288, 3) := by decide +kernel
theorem dX8_makeHashes_191 : decode cX8_makeHashes 191 = .ok (.aload_n 0, 1) := by decide +kernel
theorem dX8_makeHashes_192 : decode cX8_makeHashes 192 = .ok (.iconst 1, 1) := by decide +kernel
theorem dX8_makeHashes_193 : decode cX8_makeHashes 193 = .ok (.putfield 241, 3) := by decide +kernel
theorem dX8_makeHashes_196 : decode cX8_makeHashes 196 = .ok (.return_, 1) := by decide +kernel
theorem dX8_makeGroups_0 : decode cX8_makeGroups 0 = .ok (.aload_n 0, 1) := by decide +kernel
theorem dX8_makeGroups_1 : decode cX8_makeGroups 1 = .ok (.iconst 0, 1) := by decide +kernel
theorem dX8_makeGroups_2 : decode cX8_makeGroups 2 = .ok (.putfield 291, 3) := by decide +kernel
theorem dX8_makeGroups_5 : decode cX8_makeGroups 5 = .ok (.iconst 1, 1) := by decide +kernel
theorem dX8_makeGroups_6 : decode cX8_makeGroups 6 = .ok (.istore_n 2, 1) := by decide +kernel
theorem dX8_makeGroups_7 : decode cX8_makeGroups 7 = .ok (.iload_n 2, 1) := by decide +kernel
theorem dX8_makeGroups_8 : decode cX8_makeGroups 8 = .ok (.iload_n 1, 1) := by decide +kernel
theorem dX8_makeGroups_9 : decode cX8_makeGroups 9 = .ok (.if_icmp .gt 16, 3) := by decide +kernel
theorem dX8_makeGroups_12 : decode cX8_makeGroups 12 = .ok (.aload_n 0, 1) := by decide +kernel
theorem dX8_makeGroups_13 : decode cX8_makeGroups 13 = .ok (.getfield 161, 3) := by decide +kernel
theorem dX8_makeGroups_16 : decode cX8_makeGroups 16 = .ok (.iload_n 2, 1) := by decide +kernel
theorem dX8_makeGroups_17 : decode cX8_makeGroups 17 = .ok (.iconst (-1), 1) := by decide +kernel
theorem dX8_makeGroups_18 : decode cX8_makeGroups 18 = .ok (.iastore, 1) := by decide +kernel
theorem dX8_makeGroups_19 : decode cX8_makeGroups 19 = .ok (.iinc 2 1, 3) := by decide +kernel
theorem dX8_makeGroups_22 : decode cX8_makeGroups 22 = .ok (.goto (-15), 3) := by decide +kernel
theorem dX8_makeGroups_25 : decode cX8_makeGroups 25 = .ok (.iconst 1, 1) := by decide +kernel
theorem dX8_makeGroups_26 : decode cX8_makeGroups 26 = .ok (.istore_n 2, 1) := by decide +kernel
theorem dX8_makeGroups_27 : decode cX8_makeGroups 27 = .ok (.iconst 0, 1) := by decide +kernel
theorem dX8_makeGroups_28 : decode cX8_makeGroups 28 = .ok (.istore_n 3, 1) := by decide +kernel
theorem dX8_makeGroups_29 : decode cX8_makeGroups 29 = .ok (.iload_n 3, 1) := by decide +kernel
theorem dX8_makeGroups_30 : decode cX8_makeGroups 30 = .ok (.iload_n 1, 1) := by decide +kernel
theorem dX8_makeGroups_31 : decode cX8_makeGroups 31 = .ok (.if_icmp .ge 136, 3) := by decide +kernel
theorem dX8_makeGroups_34 : decode cX8_makeGroups 34 = .ok (.iconst 0, 1) := by decide +kernel
theorem dX8_makeGroups_35 : decode cX8_makeGroups 35 = .ok (.istore 4, 2) := by decide +kernel
theorem dX8_makeGroups_37 : decode cX8_makeGroups 37 = .ok (.iconst 1, 1) := by decide +kernel
theorem dX8_makeGroups_38 : decode cX8_makeGroups 38 = .ok (.istore 5, 2) := by decide +kernel
theorem dX8_makeGroups_40 : decode cX8_makeGroups 40 = .ok (.iload 5, 2) := by decide +kernel
theorem dX8_makeGroups_42 : decode cX8_makeGroups 42 = .ok (.iload_n 1, 1) := by decide +kernel
theorem dX8_makeGroups_43 : decode cX8_makeGroups 43 = .ok (.if_icmp .gt 42, 3) := by decide +kernel
theorem dX8_makeGroups_46 : decode cX8_makeGroups 46 = .ok (.aload_n 0, 1) := by decide +kernel
theorem dX8_makeGroups_47 : decode cX8_makeGroups 47 = .ok (.getfield 161, 3) := by decide +kernel
theorem dX8_makeGroups_50 : decode cX8_makeGroups 50 = .ok (.iload 5, 2) := by decide +kernel
theorem dX8_makeGroups_52 : decode cX8_makeGroups 52 = .ok (.iaload, 1) := by decide +kernel
theorem dX8_makeGroups_53 : decode cX8_makeGroups 53 = .ok (.ifCond .ge 26, 3) := by decide +kernel
theorem dX8_makeGroups_56 : decode cX8_makeGroups 56 = .ok (.iload 4, 2) := by decide +kernel
theorem dX8_makeGroups_58 : decode cX8_makeGroups 58 = .ok (.ifCond .eq 17, 3) := by decide +kernel
theorem dX8_makeGroups_61 : decode cX8_makeGroups 61 = .ok (.aload_n 0, 1) := by decide +kernel
theorem dX8_makeGroups_62 : decode cX8_makeGroups 62 = .ok (.getfield 155, 3) := by decide +kernel
theorem dX8_makeGroups_65 : decode cX8_makeGroups 65 = .ok (.iload 5, 2) := by decide +kernel
theorem dX8_makeGroups_67 : decode cX8_makeGroups 67 = .ok (.iload 4, 2) := by decide +kernel
theorem dX8_makeGroups_69 : decode cX8_makeGroups 69 = .ok (.invokestatic 274, 3) := by decide +kernel
theorem dX8_makeGroups_72 : decode cX8_makeGroups 72 = .ok (.ifCond .ge 7, 3) := by decide +kernel
theorem dX8_makeGroups_75 : decode cX8_makeGroups 75 = .ok (.iload 5, 2) := by decide +kernel
theorem dX8_makeGroups_77 : decode cX8_makeGroups 77 = .ok (.istore 4, 2) := by decide +kernel
theorem dX8_makeGroups_79 : decode cX8_makeGroups 79 = .ok (.iinc 5 1, 3) := by decide +kernel
theorem dX8_makeGroups_82 : decode cX8_makeGroups 82 = .ok (.goto (-42), 3) := by decide +kernel
theorem dX8_makeGroups_85 : decode cX8_makeGroups 85 = .ok (.iconst 1, 1) := by decide +kernel
theorem dX8_makeGroups_86 : decode cX8_makeGroups 86 = .ok (.istore 5, 2) := by decide +kernel
theorem dX8_makeGroups_88 : decode cX8_makeGroups 88 = .ok (.iload 5, 2) := by decide +kernel
theorem dX8_makeGroups_90 : decode cX8_makeGroups 90 = .ok (.iload_n 1, 1) := by decide +kernel
theorem dX8_makeGroups_91 : decode cX8_makeGroups 91 = .ok (.if_icmp .gt 63, 3) := by decide +kernel
theorem dX8_makeGroups_94 : decode cX8_makeGroups 94 = .ok (.aload_n 0, 1) := by decide +kernel
theorem dX8_makeGroups_95 : decode cX8_makeGroups 95 = .ok (.getfield 161, 3) := by decide +kernel
theorem dX8_makeGroups_98 : decode cX8_makeGroups 98 = .ok (.iload 5, 2) := by decide +kernel
theorem dX8_makeGroups_100 : decode cX8_makeGroups 100 = .ok (.iaload, 1) := by decide +kernel
theorem dX8_makeGroups_101 : decode cX8_makeGroups 101 = .ok (.ifCond .ge 47, 3) := by decide +kernel
theorem dX8_makeGroups_104 : decode cX8_makeGroups 104 = .ok (.aload_n 0, 1) := by decide +kernel
theorem dX8_makeGroups_105 : decode cX8_makeGroups 105 = .ok (.getfield 155, 3) := by decide +kernel
theorem dX8_makeGroups_108 : decode cX8_makeGroups 108 = .ok (.iload 5, 2) := by decide +kernel
theorem dX8_makeGroups_110 : decode cX8_makeGroups 110 = .ok (.iload 4, 2) := by decide +kernel
theorem dX8_makeGroups_112 : decode cX8_makeGroups 112 = .ok (.invokestatic 274, 3) := by decide +kernel
theorem dX8_makeGroups_115 : decode cX8_makeGroups 115 = .ok (.ifCond .eq 6, 3) := by decide +kernel
theorem dX8_makeGroups_118 : decode cX8_makeGroups 118 = .ok (.goto 30, 3) := by decide +kernel
theorem dX8_makeGroups_121 : decode cX8_makeGroups 121 = .ok (.aload_n 0, 1) := by decide +kernel
theorem dX8_makeGroups_122 : decode cX8_makeGroups 122 = .ok (.getfield 161, 3) := by decide +kernel
theorem dX8_makeGroups_125 : decode cX8_makeGroups 125 = .ok (.iload 5, 2) := by decide +kernel
theorem dX8_makeGroups_127 : decode cX8_makeGroups 127 = .ok (.aload_n 0, 1) := by decide +kernel
theorem dX8_makeGroups_128 : decode cX8_makeGroups 128 = .ok (.getfield 291, 3) := by decide +kernel
theorem dX8_makeGroups_131 : decode cX8_makeGroups 131 = .ok (.iastore, 1) := by decide +kernel
theorem dX8_makeGroups_132 : decode cX8_makeGroups 132 = .ok (.aload_n 0, 1) := by decide +kernel
theorem dX8_makeGroups_133 : decode cX8_makeGroups 133 = .ok (.getfield 164, 3) := by decide +kernel
theorem dX8_makeGroups_136 : decode cX8_makeGroups 136 = .ok (.iload_n 2, 1) := by decide +kernel
theorem dX8_makeGroups_137 : decode cX8_makeGroups 137 = .ok (.aload_n 0, 1) := by decide +kernel
theorem dX8_makeGroups_138 : decode cX8_makeGroups 138 = .ok (.getfield 291, 3) := by decide +kernel
theorem dX8_makeGroups_141 : decode cX8_makeGroups 141 = .ok (.iastore, 1) := by decide +kernel
theorem dX8_makeGroups_142 : decode cX8_makeGroups 142 = .ok (.iinc 2 1, 3) := by decide +kernel
theorem dX8_makeGroups_145 : decode cX8_makeGroups 145 = .ok (.iinc 3 1, 3) := by decide +kernel
theorem dX8_makeGroups_148 : decode cX8_makeGroups 148 = .ok (.iinc 5 1, 3) := by decide +kernel
theorem dX8_makeGroups_151 : decode cX8_makeGroups 151 = .ok (.goto (-63), 3) := by decide +kernel
theorem dX8_makeGroups_154 : decode cX8_makeGroups 154 = .ok (.aload_n 0, 1) := by decide +kernel
theorem dX8_makeGroups_155 : decode cX8_makeGroups 155 = .ok (.dup, 1) := by decide +kernel
theorem dX8_makeGroups_156 : decode cX8_makeGroups 156 = .ok (.getfield 291, 3) := by decide +kernel
theorem dX8_makeGroups_159 : decode cX8_makeGroups 159 = .ok (.iconst 1, 1) := by decide +kernel
theorem dX8_makeGroups_160 : decode cX8_makeGroups 160 = .ok (.iadd, 1) := by decide +kernel
theorem dX8_makeGroups_161 : decode cX8_makeGroups 161 = .ok (.putfield 291, 3) := by decide +kernel
theorem dX8_makeGroups_164 : decode cX8_makeGroups 164 = .ok (.goto (-135), 3) := by decide +kernel
theorem dX8_makeGroups_167 : decode cX8_makeGroups 167 = .ok (.return_, 1) := by decide +kernel
theorem dX8_hash_0 : decode cX8_hash 0 = .ok (.aload_n 0, 1) := by decide +kernel
theorem dX8_hash_1 : decode cX8_hash 1 = .ok (.iconst 0, 1) := by decide +kernel
theorem dX8_hash_2 : decode cX8_hash 2 = .ok (.putfield 1, 3) := by decide +kernel
theorem dX8_hash_5 : decode cX8_hash 5 = .ok (.aload_n 0, 1) := by decide +kernel
theorem dX8_hash_6 : decode cX8_hash 6 = .ok (.invokevirtual 294, 3) := by decide +kernel
theorem dX8_hash_9 : decode cX8_hash 9 = .ok (.iload_n 1, 1) := by decide +kernel
theorem dX8_hash_10 : decode cX8_hash 10 = .ok (.iconst 1, 1) := by decide +kernel
theorem dX8_hash_11 : decode cX8_hash 11 = .ok (.if_icmp .lt 24, 3) := by decide +kernel
theorem dX8_hash_14 : decode cX8_hash 14 = .ok (.iload_n 1, 1) := by decide +kernel
theorem dX8_hash_15 : decode cX8_hash 15 = .ok (.aload_n 0, 1) := by decide +kernel
theorem dX8_hash_16 : decode cX8_hash 16 = .ok (.getfield 145, 3) := by decide +kernel
theorem dX8_hash_19 : decode cX8_hash 19 = .ok (.bipush 8, 2) := by decide +kernel
theorem dX8_hash_21 : decode cX8_hash 21 = .ok (.iaload, 1) := by decide +kernel
theorem dX8_hash_22 : decode cX8_hash 22 = .ok (.if_icmp .gt 13, 3) := by decide +kernel
theorem dX8_hash_25 : decode cX8_hash 25 = .ok (.iload_n 2, 1) := by decide +kernel
theorem dX8_hash_26 : decode cX8_hash 26 = .ok (.ifCond .lt 9, 3) := by decide +kernel
theorem dX8_hash_29 : decode cX8_hash 29 = .ok (.iload_n 2, 1) := by decide +kernel
theorem dX8_hash_30 : decode cX8_hash 30 = .ok (.bipush 7, 2) := by decide +kernel
theorem dX8_hash_32 : decode cX8_hash 32 = .ok (.if_icmp .le 7, 3) := by decide +kernel
theorem dX8_hash_35 : decode cX8_hash 35 = .ok (.iconst 0, 1) := by decide +kernel
theorem dX8_hash_36 : decode cX8_hash 36 = .ok (.goto 15, 3) := by decide +kernel
theorem dX8_hash_39 : decode cX8_hash 39 = .ok (.aload_n 0, 1) := by decide +kernel
theorem dX8_hash_40 : decode cX8_hash 40 = .ok (.getfield 155, 3) := by decide +kernel
theorem dX8_hash_43 : decode cX8_hash 43 = .ok (.bipush 8, 2) := by decide +kernel
theorem dX8_hash_45 : decode cX8_hash 45 = .ok (.iload_n 1, 1) := by decide +kernel
theorem dX8_hash_46 : decode cX8_hash 46 = .ok (.imul, 1) := by decide +kernel
theorem dX8_hash_47 : decode cX8_hash 47 = .ok (.iload_n 2, 1) := by decide +kernel
theorem dX8_hash_48 : decode cX8_hash 48 = .ok (.iadd, 1) := by decide +kernel
theorem dX8_hash_49 : decode cX8_hash 49 = .ok (.laload, 1) := by decide +kernel
theorem dX8_hash_50 : decode cX8_hash 50 = .ok (.l2i, 1) := by decide +kernel
theorem dX8_hash_51 : decode cX8_hash 51 = .ok (.ireturn, 1) := by decide +kernel
theorem dX8_rounds_0 : decode cX8_rounds 0 = .ok (.aload_n 0, 1) := by decide +kernel
theorem dX8_rounds_1 : decode cX8_rounds 1 = .ok (.iconst 0, 1) := by decide +kernel
theorem dX8_rounds_2 : decode cX8_rounds 2 = .ok (.putfield 1, 3) := by decide +kernel
theorem dX8_rounds_5 : decode cX8_rounds 5 = .ok (.aload_n 0, 1) := by decide +kernel
theorem dX8_rounds_6 : decode cX8_rounds 6 = .ok (.invokevirtual 294, 3) := by decide +kernel
theorem dX8_rounds_9 : decode cX8_rounds 9 = .ok (.aload_n 0, 1) := by decide +kernel
theorem dX8_rounds_10 : decode cX8_rounds 10 = .ok (.getfield 278, 3) := by decide +kernel
theorem dX8_rounds_13 : decode cX8_rounds 13 = .ok (.ireturn, 1) := by decide +kernel
theorem dX8_first_0 : decode cX8_first 0 = .ok (.aload_n 0, 1) := by decide +kernel
theorem dX8_first_1 : decode cX8_first 1 = .ok (.iconst 0, 1) := by decide +kernel
theorem dX8_first_2 : decode cX8_first 2 = .ok (.putfield 1, 3) := by decide +kernel
theorem dX8_first_5 : decode cX8_first 5 = .ok (.aload_n 0, 1) := by decide +kernel
theorem dX8_first_6 : decode cX8_first 6 = .ok (.invokevirtual 294, 3) := by decide +kernel
theorem dX8_first_9 : decode cX8_first 9 = .ok (.iload_n 1, 1) := by decide +kernel
theorem dX8_first_10 : decode cX8_first 10 = .ok (.ifCond .lt 15, 3) := by decide +kernel
theorem dX8_first_13 : decode cX8_first 13 = .ok (.iload_n 1, 1) := by decide +kernel
theorem dX8_first_14 : decode cX8_first 14 = .ok (.aload_n 0, 1) := by decide +kernel
