theorem dX4_init_0 : decode cX4_init 0 = .ok (.aload_n 0, 1) := by decide +kernel
theorem dX4_init_1 : decode cX4_init 1 = .ok (.invokespecial 3, 3) := by decide +kernel
theorem dX4_init_4 : decode cX4_init 4 = .ok (.aload_n 0, 1) := by decide +kernel
theorem dX4_init_5 : decode cX4_init 5 = .ok (.bipush 8, 2) := by decide +kernel
theorem dX4_init_7 : decode cX4_init 7 = .ok (.newarray .int, 2) := by decide +kernel
theorem dX4_init_9 : decode cX4_init 9 = .ok (.putfield 9, 3) := by decide +kernel
theorem dX4_init_12 : decode cX4_init 12 = .ok (.aload_n 0, 1) := by decide +kernel
theorem dX4_init_13 : decode cX4_init 13 = .ok (.bipush 40, 2) := by decide +kernel
theorem dX4_init_15 : decode cX4_init 15 = .ok (.newarray .int, 2) := by decide +kernel
theorem dX4_init_17 : decode cX4_init 17 = .ok (.putfield 15, 3) := by decide +kernel
theorem dX4_init_20 : decode cX4_init 20 = .ok (.return_, 1) := by decide +kernel
theorem dX4_matches_0 : decode cX4_matches 0 = .ok (.aload_n 0, 1) := by decide +kernel
theorem dX4_matches_1 : decode cX4_matches 1 = .ok (.aload_n 1, 1) := by decide +kernel
theorem dX4_matches_2 : decode cX4_matches 2 = .ok (.invokevirtual 18, 3) := by decide +kernel
theorem dX4_matches_5 : decode cX4_matches 5 = .ok (.aload_n 0, 1) := by decide +kernel
theorem dX4_matches_6 : decode cX4_matches 6 = .ok (.aload_n 1, 1) := by decide +kernel
theorem dX4_matches_7 : decode cX4_matches 7 = .ok (.aload_n 2, 1) := by decide +kernel
theorem dX4_matches_8 : decode cX4_matches 8 = .ok (.iconst (-1), 1) := by decide +kernel
theorem dX4_matches_9 : decode cX4_matches 9 = .ok (.invokevirtual 22, 3) := by decide +kernel
theorem dX4_matches_12 : decode cX4_matches 12 = .ok (.ifCond .eq 18, 3) := by decide +kernel
theorem dX4_matches_15 : decode cX4_matches 15 = .ok (.aload_n 0, 1) := by decide +kernel
theorem dX4_matches_16 : decode cX4_matches 16 = .ok (.aload_n 1, 1) := by decide +kernel
theorem dX4_matches_17 : decode cX4_matches 17 = .ok (.aload_n 2, 1) := by decide +kernel
theorem dX4_matches_18 : decode cX4_matches 18 = .ok (.iconst 0, 1) := by decide +kernel
theorem dX4_matches_19 : decode cX4_matches 19 = .ok (.iconst 0, 1) := by decide +kernel
theorem dX4_matches_20 : decode cX4_matches 20 = .ok (.invokevirtual 26, 3) := by decide +kernel
theorem dX4_matches_23 : decode cX4_matches 23 = .ok (.ifCond .eq 7, 3) := by decide +kernel
theorem dX4_matches_26 : decode cX4_matches 26 = .ok (.iconst 1, 1) := by decide +kernel
theorem dX4_matches_27 : decode cX4_matches 27 = .ok (.goto 4, 3) := by decide +kernel
theorem dX4_matches_30 : decode cX4_matches 30 = .ok (.iconst 0, 1) := by decide +kernel
theorem dX4_matches_31 : decode cX4_matches 31 = .ok (.ireturn, 1) := by decide +kernel
theorem dX4_automorphisms_0 : decode cX4_automorphisms 0 = .ok (.aload_n 0, 1) := by decide +kernel
theorem dX4_automorphisms_1 : decode cX4_automorphisms 1 = .ok (.aload_n 1, 1) := by decide +kernel
theorem dX4_automorphisms_2 : decode cX4_automorphisms 2 = .ok (.invokevirtual 18, 3) := by decide +kernel
theorem dX4_automorphisms_5 : decode cX4_automorphisms 5 = .ok (.iconst 1, 1) := by decide +kernel
theorem dX4_automorphisms_6 : decode cX4_automorphisms 6 = .ok (.istore_n 2, 1) := by decide +kernel
theorem dX4_automorphisms_7 : decode cX4_automorphisms 7 = .ok (.iconst 0, 1) := by decide +kernel
theorem dX4_automorphisms_8 : decode cX4_automorphisms 8 = .ok (.istore_n 3, 1) := by decide +kernel
theorem dX4_automorphisms_9 : decode cX4_automorphisms 9 = .ok (.iconst 0, 1) := by decide +kernel
theorem dX4_automorphisms_10 : decode cX4_automorphisms 10 = .ok (.istore 4, 2) := by decide +kernel
theorem dX4_automorphisms_12 : decode cX4_automorphisms 12 = .ok (.iload 4, 2) := by decide +kernel
theorem dX4_automorphisms_14 : decode cX4_automorphisms 14 = .ok (.aload_n 1, 1) := by decide +kernel
theorem dX4_automorphisms_15 : decode cX4_automorphisms 15 = .ok (.getfield 30, 3) := by decide +kernel
theorem dX4_automorphisms_18 : decode cX4_automorphisms 18 = .ok (.if_icmp .ge 89, 3) := by decide +kernel
theorem dX4_automorphisms_21 : decode cX4_automorphisms 21 = .ok (.iconst 0, 1) := by decide +kernel
theorem dX4_automorphisms_22 : decode cX4_automorphisms 22 = .ok (.istore 5, 2) := by decide +kernel
theorem dX4_automorphisms_24 : decode cX4_automorphisms 24 = .ok (.iload 4, 2) := by decide +kernel
theorem dX4_automorphisms_26 : decode cX4_automorphisms 26 = .ok (.istore 6, 2) := by decide +kernel
theorem dX4_automorphisms_28 : decode cX4_automorphisms 28 = .ok (.iload 6, 2) := by decide +kernel
theorem dX4_automorphisms_30 : decode cX4_automorphisms 30 = .ok (.aload_n 1, 1) := by decide +kernel
theorem dX4_automorphisms_31 : decode cX4_automorphisms 31 = .ok (.getfield 30, 3) := by decide +kernel
theorem dX4_automorphisms_34 : decode cX4_automorphisms 34 = .ok (.if_icmp .ge 44, 3) := by decide +kernel
theorem dX4_automorphisms_37 : decode cX4_automorphisms 37 = .ok (.aload_n 0, 1) := by decide +kernel
theorem dX4_automorphisms_38 : decode cX4_automorphisms 38 = .ok (.aload_n 1, 1) := by decide +kernel
theorem dX4_automorphisms_39 : decode cX4_automorphisms 39 = .ok (.aload_n 1, 1) := by decide +kernel
theorem dX4_automorphisms_40 : decode cX4_automorphisms 40 = .ok (.iload 4, 2) := by decide +kernel
theorem dX4_automorphisms_42 : decode cX4_automorphisms 42 = .ok (.iload 6, 2) := by decide +kernel
theorem dX4_automorphisms_44 : decode cX4_automorphisms 44 = .ok (.invokevirtual 36, 3) := by decide +kernel
theorem dX4_automorphisms_47 : decode cX4_automorphisms 47 = .ok (.ifCond .eq 25, 3) := by decide +kernel
theorem dX4_automorphisms_50 : decode cX4_automorphisms 50 = .ok (.aload_n 0, 1) := by decide +kernel
theorem dX4_automorphisms_51 : decode cX4_automorphisms 51 = .ok (.aload_n 1, 1) := by decide +kernel
theorem dX4_automorphisms_52 : decode cX4_automorphisms 52 = .ok (.aload_n 1, 1) := by decide +kernel
theorem dX4_automorphisms_53 : decode cX4_automorphisms 53 = .ok (.iload 4, 2) := by decide +kernel
theorem dX4_automorphisms_55 : decode cX4_automorphisms 55 = .ok (.iconst 1, 1) := by decide +kernel
theorem dX4_automorphisms_56 : decode cX4_automorphisms 56 = .ok (.iadd, 1) := by decide +kernel
theorem dX4_automorphisms_57 : decode cX4_automorphisms 57 = .ok (.iload_n 3, 1) := by decide +kernel
theorem dX4_automorphisms_58 : decode cX4_automorphisms 58 = .ok (.iconst 1, 1) := by decide +kernel
theorem dX4_automorphisms_59 : decode cX4_automorphisms 59 = .ok (.iload 6, 2) := by decide +kernel
theorem dX4_automorphisms_61 : decode cX4_automorphisms 61 = .ok (.ishl, 1) := by decide +kernel
theorem dX4_automorphisms_62 : decode cX4_automorphisms 62 = .ok (.ior, 1) := by decide +kernel
theorem dX4_automorphisms_63 : decode cX4_automorphisms 63 = .ok (.invokevirtual 26, 3) := by decide +kernel
theorem dX4_automorphisms_66 : decode cX4_automorphisms 66 = .ok (.ifCond .eq 6, 3) := by decide +kernel
theorem dX4_automorphisms_69 : decode cX4_automorphisms 69 = .ok (.iinc 5 1, 3) := by decide +kernel
theorem dX4_automorphisms_72 : decode cX4_automorphisms 72 = .ok (.iinc 6 1, 3) := by decide +kernel
theorem dX4_automorphisms_75 : decode cX4_automorphisms 75 = .ok (.goto (-47), 3) := by decide +kernel
theorem dX4_automorphisms_78 : decode cX4_automorphisms 78 = .ok (.iload_n 2, 1) := by decide +kernel
theorem dX4_automorphisms_79 : decode cX4_automorphisms 79 = .ok (.iload 5, 2) := by decide +kernel
theorem dX4_automorphisms_81 : decode cX4_automorphisms 81 = .ok (.imul, 1) := by decide +kernel
theorem dX4_automorphisms_82 : decode cX4_automorphisms 82 = .ok (.istore_n 2, 1) := by decide +kernel
theorem dX4_automorphisms_83 : decode cX4_automorphisms 83 = .ok (.aload_n 0, 1) := by decide +kernel
theorem dX4_automorphisms_84 : decode cX4_automorphisms 84 = .ok (.getfield 9, 3) := by decide +kernel
theorem dX4_automorphisms_87 : decode cX4_automorphisms 87 = .ok (.iload 4, 2) := by decide +kernel
theorem dX4_automorphisms_89 : decode cX4_automorphisms 89 = .ok (.iload 4, 2) := by decide +kernel
theorem dX4_automorphisms_91 : decode cX4_automorphisms 91 = .ok (.iconst 1, 1) := by decide +kernel
theorem dX4_automorphisms_92 : decode cX4_automorphisms 92 = .ok (.iadd, 1) := by decide +kernel
theorem dX4_automorphisms_93 : decode cX4_automorphisms 93 = .ok (.iastore, 1) := by decide +kernel
theorem dX4_automorphisms_94 : decode cX4_automorphisms 94 = .ok (.iload_n 3, 1) := by decide +kernel
theorem dX4_automorphisms_95 : decode cX4_automorphisms 95 = .ok (.iconst 1, 1) := by decide +kernel
theorem dX4_automorphisms_96 : decode cX4_automorphisms 96 = .ok (.iload 4, 2) := by decide +kernel
theorem dX4_automorphisms_98 : decode cX4_automorphisms 98 = .ok (.ishl, 1) := by decide +kernel
theorem dX4_automorphisms_99 : decode cX4_automorphisms 99 = .ok (.ior, 1) := by decide +kernel
theorem dX4_automorphisms_100 : decode cX4_automorphisms 100 = .ok (.istore_n 3, 1) := by decide +kernel
theorem dX4_automorphisms_101 : decode cX4_automorphisms 101 = .ok (.iinc 4 1, 3) := by decide +kernel
theorem dX4_automorphisms_104 : decode cX4_automorphisms 104 = .ok (.goto (-92), 3) := by decide +kernel
theorem dX4_automorphisms_107 : decode cX4_automorphisms 107 = .ok (.iload_n 2, 1) := by decide +kernel
theorem dX4_automorphisms_108 : decode cX4_automorphisms 108 = .ok (.ireturn, 1) := by decide +kernel
theorem dX4_readLasts_0 : decode cX4_readLasts 0 = .ok (.iconst 0, 1) := by decide +kernel
theorem dX4_readLasts_1 : decode cX4_readLasts 1 = .ok (.istore_n 2, 1) := by decide +kernel
theorem dX4_readLasts_2 : decode cX4_readLasts 2 = .ok (.iload_n 2, 1) := by decide +kernel
theorem dX4_readLasts_3 : decode cX4_readLasts 3 = .ok (.aload_n 1, 1) := by decide +kernel
theorem dX4_readLasts_4 : decode cX4_readLasts 4 = .ok (.getfield 39, 3) := by decide +kernel
theorem dX4_readLasts_7 : decode cX4_readLasts 7 = .ok (.if_icmp .ge 56, 3) := by decide +kernel
theorem dX4_readLasts_10 : decode cX4_readLasts 10 = .ok (.aload_n 0, 1) := by decide +kernel
theorem dX4_readLasts_11 : decode cX4_readLasts 11 = .ok (.getfield 15, 3) := by decide +kernel
theorem dX4_readLasts_14 : decode cX4_readLasts 14 = .ok (.iload_n 2, 1) := by decide +kernel
theorem dX4_readLasts_15 : decode cX4_readLasts 15 = .ok (.iconst (-1), 1) := by decide +kernel
theorem dX4_readLasts_16 : decode cX4_readLasts 16 = .ok (.iastore, 1) := by decide +kernel
theorem dX4_readLasts_17 : decode cX4_readLasts 17 = .ok (.iconst 0, 1) := by decide +kernel
theorem dX4_readLasts_18 : decode cX4_readLasts 18 = .ok (.istore_n 3, 1) := by decide +kernel
theorem dX4_readLasts_19 : decode cX4_readLasts 19 = .ok (.iload_n 3, 1) := by decide +kernel
theorem dX4_readLasts_20 : decode cX4_readLasts 20 = .ok (.iconst 3, 1) := by decide +kernel
theorem dX4_readLasts_21 : decode cX4_readLasts 21 = .ok (.if_icmp .ge 36, 3) := by decide +kernel
theorem dX4_readLasts_24 : decode cX4_readLasts 24 = .ok (.aload_n 0, 1) := by decide +kernel
theorem dX4_readLasts_25 : decode cX4_readLasts 25 = .ok (.getfield 15, 3) := by decide +kernel
theorem dX4_readLasts_28 : decode cX4_readLasts 28 = .ok (.iload_n 2, 1) := by decide +kernel
theorem dX4_readLasts_29 : decode cX4_readLasts 29 = .ok (.aload_n 0, 1) := by decide +kernel
theorem dX4_readLasts_30 : decode cX4_readLasts 30 = .ok (.getfield 15, 3) := by decide +kernel
theorem dX4_readLasts_33 : decode cX4_readLasts 33 = .ok (.iload_n 2, 1) := by decide +kernel
theorem dX4_readLasts_34 : decode cX4_readLasts 34 = .ok (.iaload, 1) := by decide +kernel
theorem dX4_readLasts_35 : decode cX4_readLasts 35 = .ok (.iconst (-1), 1) := by decide +kernel
theorem dX4_readLasts_36 : decode cX4_readLasts 36 = .ok (.aload_n 1, 1) := by decide +kernel
theorem dX4_readLasts_37 : decode cX4_readLasts 37 = .ok (.getfield 42, 3) := by decide +kernel
theorem dX4_readLasts_40 : decode cX4_readLasts 40 = .ok (.iload_n 2, 1) := by decide +kernel
theorem dX4_readLasts_41 : decode cX4_readLasts 41 = .ok (.iaload, 1) := by decide +kernel
theorem dX4_readLasts_42 : decode cX4_readLasts 42 = .ok (.iload_n 3, 1) := by decide +kernel
theorem dX4_readLasts_43 : decode cX4_readLasts 43 = .ok (.invokestatic 45, 3) := by decide +kernel
theorem dX4_readLasts_46 : decode cX4_readLasts 46 = .ok (.isub, 1) := by decide +kernel
theorem dX4_readLasts_47 : decode cX4_readLasts 47 = .ok (.invokestatic 49, 3) := by decide +kernel
theorem dX4_readLasts_50 : decode cX4_readLasts 50 = .ok (.iastore, 1) := by decide +kernel
theorem dX4_readLasts_51 : decode cX4_readLasts 51 = .ok (.iinc 3 1, 3) := by decide +kernel
theorem dX4_readLasts_54 : decode cX4_readLasts 54 = .ok (.goto (-35), 3) := by decide +kernel
theorem dX4_readLasts_57 : decode cX4_readLasts 57 = .ok (.iinc 2 1, 3) := by decide +kernel
theorem dX4_readLasts_60 : decode cX4_readLasts 60 = .ok (.goto (-58), 3) := by decide +kernel
theorem dX4_readLasts_63 : decode cX4_readLasts 63 = .ok (.return_, 1) := by decide +kernel
theorem dX4_completes_0 : decode cX4_completes 0 = .ok (.iload_n 3, 1) := by decide +kernel
theorem dX4_completes_1 : decode cX4_completes 1 = .ok (.aload_n 1, 1) := by decide +kernel
theorem dX4_completes_2 : decode cX4_completes 2 = .ok (.getfield 30, 3) := by decide +kernel
theorem dX4_completes_5 : decode cX4_completes 5 = .ok (.if_icmp .ge 9, 3) := by decide +kernel
theorem dX4_completes_8 : decode cX4_completes 8 = .ok (.iload_n 3, 1) := by decide +kernel
theorem dX4_completes_9 : decode cX4_completes 9 = .ok (.bipush 8, 2) := by decide +kernel
theorem dX4_completes_11 : decode cX4_completes 11 = .ok (.if_icmp .lt 5, 3) := by decide +kernel
theorem dX4_completes_14 : decode cX4_completes 14 = .ok (.iconst 1, 1) := by decide +kernel
theorem dX4_completes_15 : decode cX4_completes 15 = .ok (.ireturn, 1) := by decide +kernel
theorem dX4_completes_16 : decode cX4_completes 16 = .ok (.iconst 0, 1) := by decide +kernel
theorem dX4_completes_17 : decode cX4_completes 17 = .ok (.istore 5, 2) := by decide +kernel
theorem dX4_completes_19 : decode cX4_completes 19 = .ok (.iload 5, 2) := by decide +kernel
theorem dX4_completes_21 : decode cX4_completes 21 = .ok (.aload_n 2, 1) := by decide +kernel
theorem dX4_completes_22 : decode cX4_completes 22 = .ok (.getfield 30, 3) := by decide +kernel
theorem dX4_completes_25 : decode cX4_completes 25 = .ok (.if_icmp .ge 52, 3) := by decide +kernel
theorem dX4_completes_28 : decode cX4_completes 28 = .ok (.iload 4, 2) := by decide +kernel
theorem dX4_completes_30 : decode cX4_completes 30 = .ok (.iload 5, 2) := by decide +kernel
theorem dX4_completes_32 : decode cX4_completes 32 = .ok (.ishr, 1) := by decide +kernel
theorem dX4_completes_33 : decode cX4_completes 33 = .ok (.iconst 1, 1) := by decide +kernel
theorem dX4_completes_34 : decode cX4_completes 34 = .ok (.iand, 1) := by decide +kernel
theorem dX4_completes_35 : decode cX4_completes 35 = .ok (.ifCond .ne 36, 3) := by decide +kernel
theorem dX4_completes_38 : decode cX4_completes 38 = .ok (.aload_n 0, 1) := by decide +kernel
theorem dX4_completes_39 : decode cX4_completes 39 = .ok (.aload_n 1, 1) := by decide +kernel
theorem dX4_completes_40 : decode cX4_completes 40 = .ok (.aload_n 2, 1) := by decide +kernel
theorem dX4_completes_41 : decode cX4_completes 41 = .ok (.iload_n 3, 1) := by decide +kernel
theorem dX4_completes_42 : decode cX4_completes 42 = .ok (.iload 5, 2) := by decide +kernel
theorem dX4_completes_44 : decode cX4_completes 44 = .ok (.invokevirtual 36, 3) := by decide +kernel
theorem dX4_completes_47 : decode cX4_completes 47 = .ok (.ifCond .eq 24, 3) := by decide +kernel
theorem dX4_completes_50 : decode cX4_completes 50 = .ok (.aload_n 0, 1) := by decide +kernel
theorem dX4_completes_51 : decode cX4_completes 51 = .ok (.aload_n 1, 1) := by decide +kernel
theorem dX4_completes_52 : decode cX4_completes 52 = .ok (.aload_n 2, 1) := by decide +kernel
theorem dX4_completes_53 : decode cX4_completes 53 = .ok (.iload_n 3, 1) := by decide +kernel
theorem dX4_completes_54 : decode cX4_completes 54 = .ok (.iconst 1, 1) := by decide +kernel
theorem dX4_completes_55 : decode cX4_completes 55 = .ok (.iadd, 1) := by decide +kernel
theorem dX4_completes_56 : decode cX4_completes 56 = .ok (.iload 4, 2) := by decide +kernel
theorem dX4_completes_58 : decode cX4_completes 58 = .ok (.iconst 1, 1) := by decide +kernel
theorem dX4_completes_59 : decode cX4_completes 59 = .ok (.iload 5, 2) := by decide +kernel
theorem dX4_completes_61 : decode cX4_completes 61 = .ok (.ishl, 1) := by decide +kernel
theorem dX4_completes_62 : decode cX4_completes 62 = .ok (.ior, 1) := by decide +kernel
theorem dX4_completes_63 : decode cX4_completes 63 = .ok (.invokevirtual 26, 3) := by decide +kernel
theorem dX4_completes_66 : decode cX4_completes 66 = .ok (.ifCond .eq 5, 3) := by decide +kernel
theorem dX4_completes_69 : decode cX4_completes 69 = .ok (.iconst 1, 1) := by decide +kernel
theorem dX4_completes_70 : decode cX4_completes 70 = .ok (.ireturn, 1) := by decide +kernel
theorem dX4_completes_71 : decode cX4_completes 71 = .ok (.iinc 5 1, 3) := by decide +kernel
theorem dX4_completes_74 : decode cX4_completes 74 = .ok (.goto (-55), 3) := by decide +kernel
theorem dX4_completes_77 : decode cX4_completes 77 = .ok (.iconst 0, 1) := by decide +kernel
theorem dX4_completes_78 : decode cX4_completes 78 = .ok (.ireturn, 1) := by decide +kernel
theorem dX4_fits_0 : decode cX4_fits 0 = .ok (.aload_n 1, 1) := by decide +kernel
theorem dX4_fits_1 : decode cX4_fits 1 = .ok (.getfield 54, 3) := by decide +kernel
theorem dX4_fits_4 : decode cX4_fits 4 = .ok (.getfield 58, 3) := by decide +kernel
theorem dX4_fits_7 : decode cX4_fits 7 = .ok (.iload_n 3, 1) := by decide +kernel
theorem dX4_fits_8 : decode cX4_fits 8 = .ok (.iaload, 1) := by decide +kernel
theorem dX4_fits_9 : decode cX4_fits 9 = .ok (.aload_n 2, 1) := by decide +kernel
theorem dX4_fits_10 : decode cX4_fits 10 = .ok (.getfield 54, 3) := by decide +kernel
theorem dX4_fits_13 : decode cX4_fits 13 = .ok (.getfield 58, 3) := by decide +kernel
theorem dX4_fits_16 : decode cX4_fits 16 = .ok (.iload 4, 2) := by decide +kernel
theorem dX4_fits_18 : decode cX4_fits 18 = .ok (.iaload, 1) := by decide +kernel
theorem dX4_fits_19 : decode cX4_fits 19 = .ok (.if_icmp .eq 5, 3) := by decide +kernel
theorem dX4_fits_22 : decode cX4_fits 22 = .ok (.iconst 0, 1) := by decide +kernel
theorem dX4_fits_23 : decode cX4_fits 23 = .ok (.ireturn, 1) := by decide +kernel
theorem dX4_fits_24 : decode cX4_fits 24 = .ok (.aload_n 0, 1) := by decide +kernel
theorem dX4_fits_25 : decode cX4_fits 25 = .ok (.getfield 9, 3) := by decide +kernel
theorem dX4_fits_28 : decode cX4_fits 28 = .ok (.iload_n 3, 1) := by decide +kernel
theorem dX4_fits_29 : decode cX4_fits 29 = .ok (.iload 4, 2) := by decide +kernel
theorem dX4_fits_31 : decode cX4_fits 31 = .ok (.iconst 1, 1) := by decide +kernel
theorem dX4_fits_32 : decode cX4_fits 32 = .ok (.iadd, 1) := by decide +kernel
theorem dX4_fits_33 : decode cX4_fits 33 = .ok (.iastore, 1) := by decide +kernel
theorem dX4_fits_34 : decode cX4_fits 34 = .ok (.aload_n 0, 1) := by decide +kernel
theorem dX4_fits_35 : decode cX4_fits 35 = .ok (.aload_n 1, 1) := by decide +kernel
theorem dX4_fits_36 : decode cX4_fits 36 = .ok (.aload_n 2, 1) := by decide +kernel
theorem dX4_fits_37 : decode cX4_fits 37 = .ok (.iload_n 3, 1) := by decide +kernel
theorem dX4_fits_38 : decode cX4_fits 38 = .ok (.invokevirtual 22, 3) := by decide +kernel
theorem dX4_fits_41 : decode cX4_fits 41 = .ok (.ireturn, 1) := by decide +kernel
theorem dX4_keepsTriples_0 : decode cX4_keepsTriples 0 = .ok (.iconst 0, 1) := by decide +kernel
theorem dX4_keepsTriples_1 : decode cX4_keepsTriples 1 = .ok (.istore 4, 2) := by decide +kernel
theorem dX4_keepsTriples_3 : decode cX4_keepsTriples 3 = .ok (.iload 4, 2) := by decide +kernel
theorem dX4_keepsTriples_5 : decode cX4_keepsTriples 5 = .ok (.aload_n 1, 1) := by decide +kernel
theorem dX4_keepsTriples_6 : decode cX4_keepsTriples 6 = .ok (.getfield 39, 3) := by decide +kernel
theorem dX4_keepsTriples_9 : decode cX4_keepsTriples 9 = .ok (.if_icmp .ge 50, 3) := by decide +kernel
theorem dX4_keepsTriples_12 : decode cX4_keepsTriples 12 = .ok (.aload_n 0, 1) := by decide +kernel
theorem dX4_keepsTriples_13 : decode cX4_keepsTriples 13 = .ok (.getfield 15, 3) := by decide +kernel
theorem dX4_keepsTriples_16 : decode cX4_keepsTriples 16 = .ok (.iload 4, 2) := by decide +kernel
theorem dX4_keepsTriples_18 : decode cX4_keepsTriples 18 = .ok (.iaload, 1) := by decide +kernel
theorem dX4_keepsTriples_19 : decode cX4_keepsTriples 19 = .ok (.iload_n 3, 1) := by decide +kernel
theorem dX4_keepsTriples_20 : decode cX4_keepsTriples 20 = .ok (.if_icmp .ne 33, 3) := by decide +kernel
theorem dX4_keepsTriples_23 : decode cX4_keepsTriples 23 = .ok (.aload_n 1, 1) := by decide +kernel
theorem dX4_keepsTriples_24 : decode cX4_keepsTriples 24 = .ok (.getfield 42, 3) := by decide +kernel
theorem dX4_keepsTriples_27 : decode cX4_keepsTriples 27 = .ok (.iload 4, 2) := by decide +kernel
theorem dX4_keepsTriples_29 : decode cX4_keepsTriples 29 = .ok (.iaload, 1) := by decide +kernel
theorem dX4_keepsTriples_30 : decode cX4_keepsTriples 30 = .ok (.aload_n 0, 1) := by decide +kernel
theorem dX4_keepsTriples_31 : decode cX4_keepsTriples 31 = .ok (.getfield 9, 3) := by decide +kernel
theorem dX4_keepsTriples_34 : decode cX4_keepsTriples 34 = .ok (.invokestatic 63, 3) := by decide +kernel
theorem dX4_keepsTriples_37 : decode cX4_keepsTriples 37 = .ok (.aload_n 2, 1) := by decide +kernel
theorem dX4_keepsTriples_38 : decode cX4_keepsTriples 38 = .ok (.getfield 42, 3) := by decide +kernel
theorem dX4_keepsTriples_41 : decode cX4_keepsTriples 41 = .ok (.aload_n 2, 1) := by decide +kernel
theorem dX4_keepsTriples_42 : decode cX4_keepsTriples 42 = .ok (.getfield 39, 3) := by decide +kernel
theorem dX4_keepsTriples_45 : decode cX4_keepsTriples 45 = .ok (.invokestatic 67, 3) := by decide +kernel
theorem dX4_keepsTriples_48 : decode cX4_keepsTriples 48 = .ok (.ifCond .ne 5, 3) := by decide +kernel
theorem dX4_keepsTriples_51 : decode cX4_keepsTriples 51 = .ok (.iconst 0, 1) := by decide +kernel
theorem dX4_keepsTriples_52 : decode cX4_keepsTriples 52 = .ok (.ireturn, 1) := by decide +kernel
theorem dX4_keepsTriples_53 : decode cX4_keepsTriples 53 = .ok (.iinc 4 1, 3) := by decide +kernel
theorem dX4_keepsTriples_56 : decode cX4_keepsTriples 56 = .ok (.goto (-53), 3) := by decide +kernel
theorem dX4_keepsTriples_59 : decode cX4_keepsTriples 59 = .ok (.iconst 1, 1) := by decide +kernel
theorem dX4_keepsTriples_60 : decode cX4_keepsTriples 60 = .ok (.ireturn, 1) := by decide +kernel
theorem dX5_init_0 : decode cX5_init 0 = .ok (.aload_n 0, 1) := by decide +kernel
theorem dX5_init_1 : decode cX5_init 1 = .ok (.invokespecial 3, 3) := by decide +kernel
theorem dX5_init_4 : decode cX5_init 4 = .ok (.aload_n 0, 1) := by decide +kernel
theorem dX5_init_5 : decode cX5_init 5 = .ok (.new 9, 3) := by decide +kernel
theorem dX5_init_8 : decode cX5_init 8 = .ok (.dup, 1) := by decide +kernel
theorem dX5_init_9 : decode cX5_init 9 = .ok (.invokespecial 11, 3) := by decide +kernel
theorem dX5_init_12 : decode cX5_init 12 = .ok (.putfield 12, 3) := by decide +kernel
theorem dX5_init_15 : decode cX5_init 15 = .ok (.aload_n 0, 1) := by decide +kernel
theorem dX5_init_16 : decode cX5_init 16 = .ok (.bipush 8, 2) := by decide +kernel
theorem dX5_init_18 : decode cX5_init 18 = .ok (.newarray .int, 2) := by decide +kernel
theorem dX5_init_20 : decode cX5_init 20 = .ok (.putfield 18, 3) := by decide +kernel
theorem dX5_init_23 : decode cX5_init 23 = .ok (.aload_n 0, 1) := by decide +kernel
theorem dX5_init_24 : decode cX5_init 24 = .ok (.bipush 8, 2) := by decide +kernel
theorem dX5_init_26 : decode cX5_init 26 = .ok (.newarray .int, 2) := by decide +kernel
theorem dX5_init_28 : decode cX5_init 28 = .ok (.putfield 22, 3) := by decide +kernel
theorem dX5_init_31 : decode cX5_init 31 = .ok (.aload_n 0, 1) := by decide +kernel
theorem dX5_init_32 : decode cX5_init 32 = .ok (.iconst 0, 1) := by decide +kernel
theorem dX5_init_33 : decode cX5_init 33 = .ok (.putfield 25, 3) := by decide +kernel
theorem dX5_init_36 : decode cX5_init 36 = .ok (.return_, 1) := by decide +kernel
theorem dX5_adopt_0 : decode cX5_adopt 0 = .ok (.aload_n 1, 1) := by decide +kernel
theorem dX5_adopt_1 : decode cX5_adopt 1 = .ok (.iconst 0, 1) := by decide +kernel
theorem dX5_adopt_2 : decode cX5_adopt 2 = .ok (.aload_n 0, 1) := by decide +kernel
theorem dX5_adopt_3 : decode cX5_adopt 3 = .ok (.getfield 18, 3) := by decide +kernel
theorem dX5_adopt_6 : decode cX5_adopt 6 = .ok (.iconst 0, 1) := by decide +kernel
theorem dX5_adopt_7 : decode cX5_adopt 7 = .ok (.iload_n 2, 1) := by decide +kernel
theorem dX5_adopt_8 : decode cX5_adopt 8 = .ok (.invokestatic 29, 3) := by decide +kernel
theorem dX5_adopt_11 : decode cX5_adopt 11 = .ok (.aload_n 0, 1) := by decide +kernel
theorem dX5_adopt_12 : decode cX5_adopt 12 = .ok (.iconst 0, 1) := by decide +kernel
theorem dX5_adopt_13 : decode cX5_adopt 13 = .ok (.putfield 25, 3) := by decide +kernel
theorem dX5_adopt_16 : decode cX5_adopt 16 = .ok (.return_, 1) := by decide +kernel
theorem dX5_refreshDigest_0 : decode cX5_refreshDigest 0 = .ok (.aload_n 0, 1) := by decide +kernel
theorem dX5_refreshDigest_1 : decode cX5_refreshDigest 1 = .ok (.getfield 25, 3) := by decide +kernel
theorem dX5_refreshDigest_4 : decode cX5_refreshDigest 4 = .ok (.ifCond .eq 4, 3) := by decide +kernel
theorem dX5_refreshDigest_7 : decode cX5_refreshDigest 7 = .ok (.return_, 1) := by decide +kernel
theorem dX5_refreshDigest_8 : decode cX5_refreshDigest 8 = .ok (.aload_n 1, 1) := by decide +kernel
theorem dX5_refreshDigest_9 : decode cX5_refreshDigest 9 = .ok (.invokevirtual 35, 3) := by decide +kernel
theorem dX5_refreshDigest_12 : decode cX5_refreshDigest 12 = .ok (.iconst 0, 1) := by decide +kernel
theorem dX5_refreshDigest_13 : decode cX5_refreshDigest 13 = .ok (.istore_n 2, 1) := by decide +kernel
theorem dX5_refreshDigest_14 : decode cX5_refreshDigest 14 = .ok (.iload_n 2, 1) := by decide +kernel
theorem dX5_refreshDigest_15 : decode cX5_refreshDigest 15 = .ok (.aload_n 0, 1) := by decide +kernel
theorem dX5_refreshDigest_16 : decode cX5_refreshDigest 16 = .ok (.getfield 12, 3) := by decide +kernel
theorem dX5_refreshDigest_19 : decode cX5_refreshDigest 19 = .ok (.getfield 40, 3) := by decide +kernel
theorem dX5_refreshDigest_22 : decode cX5_refreshDigest 22 = .ok (.if_icmp .ge 40, 3) := by decide +kernel
theorem dX5_refreshDigest_25 : decode cX5_refreshDigest 25 = .ok (.iconst 0, 1) := by decide +kernel
theorem dX5_refreshDigest_26 : decode cX5_refreshDigest 26 = .ok (.istore_n 3, 1) := by decide +kernel
theorem dX5_refreshDigest_27 : decode cX5_refreshDigest 27 = .ok (.iload_n 3, 1) := by decide +kernel
theorem dX5_refreshDigest_28 : decode cX5_refreshDigest 28 = .ok (.iconst 3, 1) := by decide +kernel
theorem dX5_refreshDigest_29 : decode cX5_refreshDigest 29 = .ok (.if_icmp .ge 27, 3) := by decide +kernel
theorem dX5_refreshDigest_32 : decode cX5_refreshDigest 32 = .ok (.aload_n 1, 1) := by decide +kernel
theorem dX5_refreshDigest_33 : decode cX5_refreshDigest 33 = .ok (.aload_n 0, 1) := by decide +kernel
theorem dX5_refreshDigest_34 : decode cX5_refreshDigest 34 = .ok (.getfield 12, 3) := by decide +kernel
theorem dX5_refreshDigest_37 : decode cX5_refreshDigest 37 = .ok (.getfield 44, 3) := by decide +kernel
theorem dX5_refreshDigest_40 : decode cX5_refreshDigest 40 = .ok (.iload_n 2, 1) := by decide +kernel
theorem dX5_refreshDigest_41 : decode cX5_refreshDigest 41 = .ok (.iaload, 1) := by decide +kernel
theorem dX5_refreshDigest_42 : decode cX5_refreshDigest 42 = .ok (.iload_n 3, 1) := by decide +kernel
theorem dX5_refreshDigest_43 : decode cX5_refreshDigest 43 = .ok (.invokestatic 47, 3) := by decide +kernel
theorem dX5_refreshDigest_46 : decode cX5_refreshDigest 46 = .ok (.iconst 4, 1) := by decide +kernel
theorem dX5_refreshDigest_47 : decode cX5_refreshDigest 47 = .ok (.invokevirtual 51, 3) := by decide +kernel
theorem dX5_refreshDigest_50 : decode cX5_refreshDigest 50 = .ok (.iinc 3 1, 3) := by decide +kernel
theorem dX5_refreshDigest_53 : decode cX5_refreshDigest 53 = .ok (.goto (-26), 3) := by decide +kernel
theorem dX5_refreshDigest_56 : decode cX5_refreshDigest 56 = .ok (.iinc 2 1, 3) := by decide +kernel
theorem dX5_refreshDigest_59 : decode cX5_refreshDigest 59 = .ok (.goto (-45), 3) := by decide +kernel
theorem dX5_refreshDigest_62 : decode cX5_refreshDigest 62 = .ok (.aload_n 1, 1) := by decide +kernel
theorem dX5_refreshDigest_63 : decode cX5_refreshDigest 63 = .ok (.aload_n 0, 1) := by decide +kernel
theorem dX5_refreshDigest_64 : decode cX5_refreshDigest 64 = .ok (.getfield 22, 3) := by decide +kernel
theorem dX5_refreshDigest_67 : decode cX5_refreshDigest 67 = .ok (.iconst 0, 1) := by decide +kernel
theorem dX5_refreshDigest_68 : decode cX5_refreshDigest 68 = .ok (.invokevirtual 55, 3) := by decide +kernel
theorem dX5_refreshDigest_71 : decode cX5_refreshDigest 71 = .ok (.aload_n 0, 1) := by decide +kernel
theorem dX5_refreshDigest_72 : decode cX5_refreshDigest 72 = .ok (.iconst 1, 1) := by decide +kernel
theorem dX5_refreshDigest_73 : decode cX5_refreshDigest 73 = .ok (.putfield 25, 3) := by decide +kernel
theorem dX5_refreshDigest_76 : decode cX5_refreshDigest 76 = .ok (.return_, 1) := by decide +kernel
theorem dX6_init_0 : decode cX6_init 0 = .ok (.aload_n 0, 1) := by decide +kernel
theorem dX6_init_1 : decode cX6_init 1 = .ok (.invokespecial 3, 3) := by decide +kernel
theorem dX6_init_4 : decode cX6_init 4 = .ok (.aload_n 0, 1) := by decide +kernel
theorem dX6_init_5 : decode cX6_init 5 = .ok (.bipush 8, 2) := by decide +kernel
theorem dX6_init_7 : decode cX6_init 7 = .ok (.newarray .int, 2) := by decide +kernel
theorem dX6_init_9 : decode cX6_init 9 = .ok (.putfield 9, 3) := by decide +kernel
theorem dX6_init_12 : decode cX6_init 12 = .ok (.aload_n 0, 1) := by decide +kernel
theorem dX6_init_13 : decode cX6_init 13 = .ok (.bipush 64, 2) := by decide +kernel
theorem dX6_init_15 : decode cX6_init 15 = .ok (.newarray .int, 2) := by decide +kernel
theorem dX6_init_17 : decode cX6_init 17 = .ok (.putfield 15, 3) := by decide +kernel
theorem dX6_init_20 : decode cX6_init 20 = .ok (.aload_n 0, 1) := by decide +kernel
theorem dX6_init_21 : decode cX6_init 21 = .ok (.iconst 0, 1) := by decide +kernel
theorem dX6_init_22 : decode cX6_init 22 = .ok (.putfield 18, 3) := by decide +kernel
theorem dX6_init_25 : decode cX6_init 25 = .ok (.aload_n 0, 1) := by decide +kernel
theorem dX6_init_26 : decode cX6_init 26 = .ok (.iconst 0, 1) := by decide +kernel
theorem dX6_init_27 : decode cX6_init 27 = .ok (.putfield 22, 3) := by decide +kernel
theorem dX6_init_30 : decode cX6_init 30 = .ok (.return_, 1) := by decide +kernel
theorem dX6_begin_0 : decode cX6_begin 0 = .ok (.getstatic 25, 3) := by decide +kernel
theorem dX6_begin_3 : decode cX6_begin 3 = .ok (.iconst 0, 1) := by decide +kernel
theorem dX6_begin_4 : decode cX6_begin 4 = .ok (.aload_n 0, 1) := by decide +kernel
theorem dX6_begin_5 : decode cX6_begin 5 = .ok (.getfield 9, 3) := by decide +kernel
theorem dX6_begin_8 : decode cX6_begin 8 = .ok (.iconst 0, 1) := by decide +kernel
theorem dX6_begin_9 : decode cX6_begin 9 = .ok (.bipush 8, 2) := by decide +kernel
theorem dX6_begin_11 : decode cX6_begin 11 = .ok (.invokestatic 28, 3) := by decide +kernel
theorem dX6_begin_14 : decode cX6_begin 14 = .ok (.aload_n 0, 1) := by decide +kernel
theorem dX6_begin_15 : decode cX6_begin 15 = .ok (.iconst 0, 1) := by decide +kernel
theorem dX6_begin_16 : decode cX6_begin 16 = .ok (.putfield 18, 3) := by decide +kernel
theorem dX6_begin_19 : decode cX6_begin 19 = .ok (.aload_n 0, 1) := by decide +kernel
theorem dX6_begin_20 : decode cX6_begin 20 = .ok (.iconst 0, 1) := by decide +kernel
theorem dX6_begin_21 : decode cX6_begin 21 = .ok (.putfield 22, 3) := by decide +kernel
theorem dX6_begin_24 : decode cX6_begin 24 = .ok (.return_, 1) := by decide +kernel
theorem dX6_put_0 : decode cX6_put 0 = .ok (.iload_n 2, 1) := by decide +kernel
theorem dX6_put_1 : decode cX6_put 1 = .ok (.iconst 1, 1) := by decide +kernel
theorem dX6_put_2 : decode cX6_put 2 = .ok (.isub, 1) := by decide +kernel
theorem dX6_put_3 : decode cX6_put 3 = .ok (.istore_n 3, 1) := by decide +kernel
theorem dX6_put_4 : decode cX6_put 4 = .ok (.iload_n 3, 1) := by decide +kernel
theorem dX6_put_5 : decode cX6_put 5 = .ok (.ifCond .lt 73, 3) := by decide +kernel
theorem dX6_put_8 : decode cX6_put 8 = .ok (.aload_n 0, 1) := by decide +kernel
theorem dX6_put_9 : decode cX6_put 9 = .ok (.getfield 18, 3) := by decide +kernel
theorem dX6_put_12 : decode cX6_put 12 = .ok (.iconst 2, 1) := by decide +kernel
theorem dX6_put_13 : decode cX6_put 13 = .ok (.ishr, 1) := by decide +kernel
theorem dX6_put_14 : decode cX6_put 14 = .ok (.istore 4, 2) := by decide +kernel
theorem dX6_put_16 : decode cX6_put 16 = .ok (.aload_n 0, 1) := by decide +kernel
theorem dX6_put_17 : decode cX6_put 17 = .ok (.getfield 15, 3) := by decide +kernel
theorem dX6_put_20 : decode cX6_put 20 = .ok (.iload 4, 2) := by decide +kernel
theorem dX6_put_22 : decode cX6_put 22 = .ok (.aload_n 0, 1) := by decide +kernel
theorem dX6_put_23 : decode cX6_put 23 = .ok (.getfield 15, 3) := by decide +kernel
theorem dX6_put_26 : decode cX6_put 26 = .ok (.iload 4, 2) := by decide +kernel
theorem dX6_put_28 : decode cX6_put 28 = .ok (.iaload, 1) := by decide +kernel
theorem dX6_put_29 : decode cX6_put 29 = .ok (.bipush 8, 2) := by decide +kernel
theorem dX6_put_31 : decode cX6_put 31 = .ok (.ishl, 1) := by decide +kernel
theorem dX6_put_32 : decode cX6_put 32 = .ok (.iload_n 1, 1) := by decide +kernel
theorem dX6_put_33 : decode cX6_put 33 = .ok (.bipush 8, 2) := by decide +kernel
theorem dX6_put_35 : decode cX6_put 35 = .ok (.iload_n 3, 1) := by decide +kernel
theorem dX6_put_36 : decode cX6_put 36 = .ok (.imul, 1) := by decide +kernel
theorem dX6_put_37 : decode cX6_put 37 = .ok (.iushr, 1) := by decide +kernel
theorem dX6_put_38 : decode cX6_put 38 = .ok (.sipush 255, 3) := by decide +kernel
theorem dX6_put_41 : decode cX6_put 41 = .ok (.iand, 1) := by decide +kernel
theorem dX6_put_42 : decode cX6_put 42 = .ok (.ior, 1) := by decide +kernel
theorem dX6_put_43 : decode cX6_put 43 = .ok (.iastore, 1) := by decide +kernel
theorem dX6_put_44 : decode cX6_put 44 = .ok (.aload_n 0, 1) := by decide +kernel
theorem dX6_put_45 : decode cX6_put 45 = .ok (.dup, 1) := by decide +kernel
theorem dX6_put_46 : decode cX6_put 46 = .ok (.getfield 18, 3) := by decide +kernel
theorem dX6_put_49 : decode cX6_put 49 = .ok (.iconst 1, 1) := by decide +kernel
theorem dX6_put_50 : decode cX6_put 50 = .ok (.iadd, 1) := by decide +kernel
theorem dX6_put_51 : decode cX6_put 51 = .ok (.putfield 18, 3) := by decide +kernel
theorem dX6_put_54 : decode cX6_put 54 = .ok (.aload_n 0, 1) := by decide +kernel
theorem dX6_put_55 : decode cX6_put 55 = .ok (.getfield 18, 3) := by decide +kernel
theorem dX6_put_58 : decode cX6_put 58 = .ok (.bipush 64, 2) := by decide +kernel
theorem dX6_put_60 : decode cX6_put 60 = .ok (.if_icmp .ne 12, 3) := by decide +kernel
theorem dX6_put_63 : decode cX6_put 63 = .ok (.aload_n 0, 1) := by decide +kernel
theorem dX6_put_64 : decode cX6_put 64 = .ok (.invokevirtual 34, 3) := by decide +kernel
theorem dX6_put_67 : decode cX6_put 67 = .ok (.aload_n 0, 1) := by decide +kernel
theorem dX6_put_68 : decode cX6_put 68 = .ok (.iconst 0, 1) := by decide +kernel
theorem dX6_put_69 : decode cX6_put 69 = .ok (.putfield 18, 3) := by decide +kernel
theorem dX6_put_72 : decode cX6_put 72 = .ok (.iinc 3 (-1), 3) := by decide +kernel
theorem dX6_put_75 : decode cX6_put 75 = .ok (.goto (-71), 3) := by decide +kernel
theorem dX6_put_78 : decode cX6_put 78 = .ok (.aload_n 0, 1) := by decide +kernel
theorem dX6_put_79 : decode cX6_put 79 = .ok (.dup, 1) := by decide +kernel
theorem dX6_put_80 : decode cX6_put 80 = .ok (.getfield 22, 3) := by decide +kernel
theorem dX6_put_83 : decode cX6_put 83 = .ok (.iload_n 2, 1) := by decide +kernel
theorem dX6_put_84 : decode cX6_put 84 = .ok (.iadd, 1) := by decide +kernel
theorem dX6_put_85 : decode cX6_put 85 = .ok (.putfield 22, 3) := by decide +kernel
theorem dX6_put_88 : decode cX6_put 88 = .ok (.return_, 1) := by decide +kernel
theorem dX6_end_0 : decode cX6_end 0 = .ok (.bipush 8, 2) := by decide +kernel
theorem dX6_end_2 : decode cX6_end 2 = .ok (.aload_n 0, 1) := by decide +kernel
theorem dX6_end_3 : decode cX6_end 3 = .ok (.getfield 22, 3) := by decide +kernel
theorem dX6_end_6 : decode cX6_end 6 = .ok (.imul, 1) := by decide +kernel
theorem dX6_end_7 : decode cX6_end 7 = .ok (.istore_n 3, 1) := by decide +kernel
theorem dX6_end_8 : decode cX6_end 8 = .ok (.aload_n 0, 1) := by decide +kernel
theorem dX6_end_9 : decode cX6_end 9 = .ok (.sipush 128, 3) := by decide +kernel
theorem dX6_end_12 : decode cX6_end 12 = .ok (.iconst 1, 1) := by decide +kernel
theorem dX6_end_13 : decode cX6_end 13 = .ok (.invokevirtual 37, 3) := by decide +kernel
theorem dX6_end_16 : decode cX6_end 16 = .ok (.iconst 0, 1) := by decide +kernel
theorem dX6_end_17 : decode cX6_end 17 = .ok (.istore 4, 2) := by decide +kernel
theorem dX6_end_19 : decode cX6_end 19 = .ok (.iload 4, 2) := by decide +kernel
theorem dX6_end_21 : decode cX6_end 21 = .ok (.bipush 64, 2) := by decide +kernel
theorem dX6_end_23 : decode cX6_end 23 = .ok (.if_icmp .ge 24, 3) := by decide +kernel
theorem dX6_end_26 : decode cX6_end 26 = .ok (.aload_n 0, 1) := by decide +kernel
theorem dX6_end_27 : decode cX6_end 27 = .ok (.getfield 18, 3) := by decide +kernel
theorem dX6_end_30 : decode cX6_end 30 = .ok (.bipush 56, 2) := by decide +kernel
theorem dX6_end_32 : decode cX6_end 32 = .ok (.if_icmp .eq 15, 3) := by decide +kernel
theorem dX6_end_35 : decode cX6_end 35 = .ok (.aload_n 0, 1) := by decide +kernel
theorem dX6_end_36 : decode cX6_end 36 = .ok (.iconst 0, 1) := by decide +kernel
theorem dX6_end_37 : decode cX6_end 37 = .ok (.iconst 1, 1) := by decide +kernel
theorem dX6_end_38 : decode cX6_end 38 = .ok (.invokevirtual 37, 3) := by decide +kernel
theorem dX6_end_41 : decode cX6_end 41 = .ok (.iinc 4 1, 3) := by decide +kernel
theorem dX6_end_44 : decode cX6_end 44 = .ok (.goto (-25), 3) := by decide +kernel
theorem dX6_end_47 : decode cX6_end 47 = .ok (.aload_n 0, 1) := by decide +kernel
theorem dX6_end_48 : decode cX6_end 48 = .ok (.iconst 0, 1) := by decide +kernel
theorem dX6_end_49 : decode cX6_end 49 = .ok (.iconst 4, 1) := by decide +kernel
theorem dX6_end_50 : decode cX6_end 50 = .ok (.invokevirtual 37, 3) := by decide +kernel
theorem dX6_end_53 : decode cX6_end 53 = .ok (.aload_n 0, 1) := by decide +kernel
theorem dX6_end_54 : decode cX6_end 54 = .ok (.iload_n 3, 1) := by decide +kernel
theorem dX6_end_55 : decode cX6_end 55 = .ok (.iconst 4, 1) := by decide +kernel
theorem dX6_end_56 : decode cX6_end 56 = .ok (.invokevirtual 37, 3) := by decide +kernel
theorem dX6_end_59 : decode cX6_end 59 = .ok (.aload_n 0, 1) := by decide +kernel
theorem dX6_end_60 : decode cX6_end 60 = .ok (.getfield 9, 3) := by decide +kernel
theorem dX6_end_63 : decode cX6_end 63 = .ok (.iconst 0, 1) := by decide +kernel
theorem dX6_end_64 : decode cX6_end 64 = .ok (.aload_n 1, 1) := by decide +kernel
theorem dX6_end_65 : decode cX6_end 65 = .ok (.iload_n 2, 1) := by decide +kernel
theorem dX6_end_66 : decode cX6_end 66 = .ok (.bipush 8, 2) := by decide +kernel
theorem dX6_end_68 : decode cX6_end 68 = .ok (.invokestatic 28, 3) := by decide +kernel
theorem dX6_end_71 : decode cX6_end 71 = .ok (.return_, 1) := by decide +kernel
theorem dX6_mix_0 : decode cX6_mix 0 = .ok (.bipush 16, 2) := by decide +kernel
theorem dX6_mix_2 : decode cX6_mix 2 = .ok (.istore_n 1, 1) := by decide +kernel
theorem dX6_mix_3 : decode cX6_mix 3 = .ok (.iload_n 1, 1) := by decide +kernel
theorem dX6_mix_4 : decode cX6_mix 4 = .ok (.bipush 64, 2) := by decide +kernel
theorem dX6_mix_6 : decode cX6_mix 6 = .ok (.if_icmp .ge 110, 3) := by decide +kernel
theorem dX6_mix_9 : decode cX6_mix 9 = .ok (.aload_n 0, 1) := by decide +kernel
theorem dX6_mix_10 : decode cX6_mix 10 = .ok (.getfield 15, 3) := by decide +kernel
theorem dX6_mix_13 : decode cX6_mix 13 = .ok (.iload_n 1, 1) := by decide +kernel
theorem dX6_mix_14 : decode cX6_mix 14 = .ok (.bipush 15, 2) := by decide +kernel
theorem dX6_mix_16 : decode cX6_mix 16 = .ok (.isub, 1) := by decide +kernel
theorem dX6_mix_17 : decode cX6_mix 17 = .ok (.iaload, 1) := by decide +kernel
theorem dX6_mix_18 : decode cX6_mix 18 = .ok (.istore_n 2, 1) := by decide +kernel
theorem dX6_mix_19 : decode cX6_mix 19 = .ok (.aload_n 0, 1) := by decide +kernel
theorem dX6_mix_20 : decode cX6_mix 20 = .ok (.getfield 15, 3) := by decide +kernel
theorem dX6_mix_23 : decode cX6_mix 23 = .ok (.iload_n 1, 1) := by decide +kernel
theorem dX6_mix_24 : decode cX6_mix 24 = .ok (.iconst 2, 1) := by decide +kernel
theorem dX6_mix_25 : decode cX6_mix 25 = .ok (.isub, 1) := by decide +kernel
theorem dX6_mix_26 : decode cX6_mix 26 = .ok (.iaload, 1) := by decide +kernel
theorem dX6_mix_27 : decode cX6_mix 27 = .ok (.istore_n 3, 1) := by decide +kernel
theorem dX6_mix_28 : decode cX6_mix 28 = .ok (.iload_n 2, 1) := by decide +kernel
theorem dX6_mix_29 : decode cX6_mix 29 = .ok (.bipush 7, 2) := by decide +kernel
theorem dX6_mix_31 : decode cX6_mix 31 = .ok (.iushr, 1) := by decide +kernel
theorem dX6_mix_32 : decode cX6_mix 32 = .ok (.iload_n 2, 1) := by decide +kernel
theorem dX6_mix_33 : decode cX6_mix 33 = .ok (.bipush 25, 2) := by decide +kernel
theorem dX6_mix_35 : decode cX6_mix 35 = .ok (.ishl, 1) := by decide +kernel
theorem dX6_mix_36 : decode cX6_mix 36 = .ok (.ior, 1) := by decide +kernel
theorem dX6_mix_37 : decode cX6_mix 37 = .ok (.iload_n 2, 1) := by decide +kernel
theorem dX6_mix_38 : decode cX6_mix 38 = .ok (.bipush 18, 2) := by decide +kernel
theorem dX6_mix_40 : decode cX6_mix 40 = .ok (.iushr, 1) := by decide +kernel
theorem dX6_mix_41 : decode cX6_mix 41 = .ok (.iload_n 2, 1) := by decide +kernel
theorem dX6_mix_42 : decode cX6_mix 42 = .ok (.bipush 14, 2) := by decide +kernel
theorem dX6_mix_44 : decode cX6_mix 44 = .ok (.ishl, 1) := by decide +kernel
theorem dX6_mix_45 : decode cX6_mix 45 = .ok (.ior, 1) := by decide +kernel
theorem dX6_mix_46 : decode cX6_mix 46 = .ok (.ixor, 1) := by decide +kernel
theorem dX6_mix_47 : decode cX6_mix 47 = .ok (.iload_n 2, 1) := by decide +kernel
theorem dX6_mix_48 : decode cX6_mix 48 = .ok (.iconst 3, 1) := by decide +kernel
theorem dX6_mix_49 : decode cX6_mix 49 = .ok (.iushr, 1) := by decide +kernel
theorem dX6_mix_50 : decode cX6_mix 50 = .ok (.ixor, 1) := by decide +kernel
theorem dX6_mix_51 : decode cX6_mix 51 = .ok (.istore 4, 2) := by decide +kernel
theorem dX6_mix_53 : decode cX6_mix 53 = .ok (.iload_n 3, 1) := by decide +kernel
theorem dX6_mix_54 : decode cX6_mix 54 = .ok (.bipush 17, 2) := by decide +kernel
theorem dX6_mix_56 : decode cX6_mix 56 = .ok (.iushr, 1) := by decide +kernel
theorem dX6_mix_57 : decode cX6_mix 57 = .ok (.iload_n 3, 1) := by decide +kernel
theorem dX6_mix_58 : decode cX6_mix 58 = .ok (.bipush 15, 2) := by decide +kernel
theorem dX6_mix_60 : decode cX6_mix 60 = .ok (.ishl, 1) := by decide +kernel
theorem dX6_mix_61 : decode cX6_mix 61 = .ok (.ior, 1) := by decide +kernel
theorem dX6_mix_62 : decode cX6_mix 62 = .ok (.iload_n 3, 1) := by decide +kernel
theorem dX6_mix_63 : decode cX6_mix 63 = .ok (.bipush 19, 2) := by decide +kernel
theorem dX6_mix_65 : decode cX6_mix 65 = .ok (.iushr, 1) := by decide +kernel
theorem dX6_mix_66 : decode cX6_mix 66 = .ok (.iload_n 3, 1) := by decide +kernel
theorem dX6_mix_67 : decode cX6_mix 67 = .ok (.bipush 13, 2) := by decide +kernel
theorem dX6_mix_69 : decode cX6_mix 69 = .ok (.ishl, 1) := by decide +kernel
theorem dX6_mix_70 : decode cX6_mix 70 = .ok (.ior, 1) := by decide +kernel
theorem dX6_mix_71 : decode cX6_mix 71 = .ok (.ixor, 1) := by decide +kernel
theorem dX6_mix_72 : decode cX6_mix 72 = .ok (.iload_n 3, 1) := by decide +kernel
theorem dX6_mix_73 : decode cX6_mix 73 = .ok (.bipush 10, 2) := by decide +kernel
theorem dX6_mix_75 : decode cX6_mix 75 = .ok (.iushr, 1) := by decide +kernel
theorem dX6_mix_76 : decode cX6_mix 76 = .ok (.ixor, 1) := by decide +kernel
theorem dX6_mix_77 : decode cX6_mix 77 = .ok (.istore 5, 2) := by decide +kernel
theorem dX6_mix_79 : decode cX6_mix 79 = .ok (.aload_n 0, 1) := by decide +kernel
theorem dX6_mix_80 : decode cX6_mix 80 = .ok (.getfield 15, 3) := by decide +kernel
theorem dX6_mix_83 : decode cX6_mix 83 = .ok (.iload_n 1, 1) := by decide +kernel
theorem dX6_mix_84 : decode cX6_mix 84 = .ok (.aload_n 0, 1) := by decide +kernel
theorem dX6_mix_85 : decode cX6_mix 85 = .ok (.getfield 15, 3) := by decide +kernel
theorem dX6_mix_88 : decode cX6_mix 88 = .ok (.iload_n 1, 1) := by decide +kernel
theorem dX6_mix_89 : decode cX6_mix 89 = .ok (.bipush 16, 2) := by decide +kernel
theorem dX6_mix_91 : decode cX6_mix 91 = .ok (.isub, 1) := by decide +kernel
theorem dX6_mix_92 : decode cX6_mix 92 = .ok (.iaload, 1) := by decide +kernel
theorem dX6_mix_93 : decode cX6_mix 93 = .ok (.iload 4, 2) := by decide +kernel
theorem dX6_mix_95 : decode cX6_mix 95 = .ok (.iadd, 1) := by decide +kernel
theorem dX6_mix_96 : decode cX6_mix 96 = .ok (.aload_n 0, 1) := by decide +kernel
theorem dX6_mix_97 : decode cX6_mix 97 = .ok (.getfield 15, 3) := by decide +kernel
theorem dX6_mix_100 : decode cX6_mix 100 = .ok (.iload_n 1, 1) := by decide +kernel
theorem dX6_mix_101 : decode cX6_mix 101 = .ok (.bipush 7, 2) := by decide +kernel
theorem dX6_mix_103 : decode cX6_mix 103 = .ok (.isub, 1) := by decide +kernel
theorem dX6_mix_104 : decode cX6_mix 104 = .ok (.iaload, 1) := by decide +kernel
theorem dX6_mix_105 : decode cX6_mix 105 = .ok (.iadd, 1) := by decide +kernel
theorem dX6_mix_106 : decode cX6_mix 106 = .ok (.iload 5, 2) := by decide +kernel
theorem dX6_mix_108 : decode cX6_mix 108 = .ok (.iadd, 1) := by decide +kernel
theorem dX6_mix_109 : decode cX6_mix 109 = .ok (.iastore, 1) := by decide +kernel
theorem dX6_mix_110 : decode cX6_mix 110 = .ok (.iinc 1 1, 3) := by decide +kernel
theorem dX6_mix_113 : decode cX6_mix 113 = .ok (.goto (-110), 3) := by decide +kernel
theorem dX6_mix_116 : decode cX6_mix 116 = .ok (.aload_n 0, 1) := by decide +kernel
theorem dX6_mix_117 : decode cX6_mix 117 = .ok (.getfield 9, 3) := by decide +kernel
theorem dX6_mix_120 : decode cX6_mix 120 = .ok (.iconst 0, 1) := by decide +kernel
theorem dX6_mix_121 : decode cX6_mix 121 = .ok (.iaload, 1) := by decide +kernel
theorem dX6_mix_122 : decode cX6_mix 122 = .ok (.istore_n 1, 1) := by decide +kernel
theorem dX6_mix_123 : decode cX6_mix 123 = .ok (.aload_n 0, 1) := by decide +kernel
theorem dX6_mix_124 : decode cX6_mix 124 = .ok (.getfield 9, 3) := by decide +kernel
theorem dX6_mix_127 : decode cX6_mix 127 = .ok (.iconst 1, 1) := by decide +kernel
theorem dX6_mix_128 : decode cX6_mix 128 = .ok (.iaload, 1) := by decide +kernel
theorem dX6_mix_129 : decode cX6_mix 129 = .ok (.istore_n 2, 1) := by decide +kernel
theorem dX6_mix_130 : decode cX6_mix 130 = .ok (.aload_n 0, 1) := by decide +kernel
theorem dX6_mix_131 : decode cX6_mix 131 = .ok (.getfield 9, 3) := by decide +kernel
theorem dX6_mix_134 : decode cX6_mix 134 = .ok (.iconst 2, 1) := by decide +kernel
theorem dX6_mix_135 : decode cX6_mix 135 = .ok (.iaload, 1) := by decide +kernel
theorem dX6_mix_136 : decode cX6_mix 136 = .ok (.istore_n 3, 1) := by decide +kernel
theorem dX6_mix_137 : decode cX6_mix 137 = .ok (.aload_n 0, 1) := by decide +kernel
theorem dX6_mix_138 : decode cX6_mix 138 = .ok (.getfield 9, 3) := by decide +kernel
theorem dX6_mix_141 : decode cX6_mix 141 = .ok (.iconst 3, 1) := by decide +kernel
theorem dX6_mix_142 : decode cX6_mix 142 = .ok (.iaload, 1) := by decide +kernel
theorem dX6_mix_143 : decode cX6_mix 143 = .ok (.istore 4, 2) := by decide +kernel
theorem dX6_mix_145 : decode cX6_mix 145 = .ok (.aload_n 0, 1) := by decide +kernel
theorem dX6_mix_146 : decode cX6_mix 146 = .ok (.getfield 9, 3) := by decide +kernel
theorem dX6_mix_149 : decode cX6_mix 149 = .ok (.iconst 4, 1) := by decide +kernel
theorem dX6_mix_150 : decode cX6_mix 150 = .ok (.iaload, 1) := by decide +kernel
theorem dX6_mix_151 : decode cX6_mix 151 = .ok (.istore 5, 2) := by decide +kernel
theorem dX6_mix_153 : decode cX6_mix 153 = .ok (.aload_n 0, 1) := by decide +kernel
theorem dX6_mix_154 : decode cX6_mix 154 = .ok (.getfield 9, 3) := by decide +kernel
theorem dX6_mix_157 : decode cX6_mix 157 = .ok (.iconst 5, 1) := by decide +kernel
theorem dX6_mix_158 : decode cX6_mix 158 = .ok (.iaload, 1) := by decide +kernel
theorem dX6_mix_159 : decode cX6_mix 159 = .ok (.istore 6, 2) := by decide +kernel
theorem dX6_mix_161 : decode cX6_mix 161 = .ok (.aload_n 0, 1) := by decide +kernel
theorem dX6_mix_162 : decode cX6_mix 162 = .ok (.getfield 9, 3) := by decide +kernel
theorem dX6_mix_165 : decode cX6_mix 165 = .ok (.bipush 6, 2) := by decide +kernel
theorem dX6_mix_167 : decode cX6_mix 167 = .ok (.iaload, 1) := by decide +kernel
theorem dX6_mix_168 : decode cX6_mix 168 = .ok (.istore 7, 2) := by decide +kernel
theorem dX6_mix_170 : decode cX6_mix 170 = .ok (.aload_n 0, 1) := by decide +kernel
theorem dX6_mix_171 : decode cX6_mix 171 = .ok (.getfield 9, 3) := by decide +kernel
theorem dX6_mix_174 : decode cX6_mix 174 = .ok (.bipush 7, 2) := by decide +kernel
theorem dX6_mix_176 : decode cX6_mix 176 = .ok (.iaload, 1) := by decide +kernel
theorem dX6_mix_177 : decode cX6_mix 177 = .ok (.istore 8, 2) := by decide +kernel
theorem dX6_mix_179 : decode cX6_mix 179 = .ok (.iconst 0, 1) := by decide +kernel
theorem dX6_mix_180 : decode cX6_mix 180 = .ok (.istore 9, 2) := by decide +kernel
theorem dX6_mix_182 : decode cX6_mix 182 = .ok (.iload 9, 2) := by decide +kernel
theorem dX6_mix_184 : decode cX6_mix 184 = .ok (.bipush 64, 2) := by decide +kernel
theorem dX6_mix_186 : decode cX6_mix 186 = .ok (.if_icmp .ge 160, 3) := by decide +kernel
theorem dX6_mix_189 : decode cX6_mix 189 = .ok (.iload 5, 2) := by decide +kernel
theorem dX6_mix_191 : decode cX6_mix 191 = .ok (.bipush 6, 2) := by decide +kernel
theorem dX6_mix_193 : decode cX6_mix 193 = .ok (.iushr, 1) := by decide +kernel
theorem dX6_mix_194 : decode cX6_mix 194 = .ok (.iload 5, 2) := by decide +kernel
theorem dX6_mix_196 : decode cX6_mix 196 = .ok (.bipush 26, 2) := by decide +kernel
theorem dX6_mix_198 : decode cX6_mix 198 = .ok (.ishl, 1) := by decide +kernel
theorem dX6_mix_199 : decode cX6_mix 199 = .ok (.ior, 1) := by decide +kernel
theorem dX6_mix_200 : decode cX6_mix 200 = .ok (.iload 5, 2) := by decide +kernel
theorem dX6_mix_202 : decode cX6_mix 202 = .ok (.bipush 11, 2) := by decide +kernel
theorem dX6_mix_204 : decode cX6_mix 204 = .ok (.iushr, 1) := by decide +kernel
theorem dX6_mix_205 : decode cX6_mix 205 = .ok (.iload 5, 2) := by decide +kernel
theorem dX6_mix_207 : decode cX6_mix 207 = .ok (.bipush 21, 2) := by decide +kernel
theorem dX6_mix_209 : decode cX6_mix 209 = .ok (.ishl, 1) := by decide +kernel
theorem dX6_mix_210 : decode cX6_mix 210 = .ok (.ior, 1) := by decide +kernel
theorem dX6_mix_211 : decode cX6_mix 211 = .ok (.ixor, 1) := by decide +kernel
theorem dX6_mix_212 : decode cX6_mix 212 = .ok (.iload 5, 2) := by decide +kernel
theorem dX6_mix_214 : decode cX6_mix 214 = .ok (.bipush 25, 2) := by decide +kernel
theorem dX6_mix_216 : decode cX6_mix 216 = .ok (.iushr, 1) := by decide +kernel
theorem dX6_mix_217 : decode cX6_mix 217 = .ok (.iload 5, 2) := by decide +kernel
theorem dX6_mix_219 : decode cX6_mix 219 = .ok (.bipush 7, 2) := by decide +kernel
theorem dX6_mix_221 : decode cX6_mix 221 = .ok (.ishl, 1) := by decide +kernel
theorem dX6_mix_222 : decode cX6_mix 222 = .ok (.ior, 1) := by decide +kernel
theorem dX6_mix_223 : decode cX6_mix 223 = .ok (.ixor, 1) := by decide +kernel
theorem dX6_mix_224 : decode cX6_mix 224 = .ok (.istore 10, 2) := by decide +kernel
theorem dX6_mix_226 : decode cX6_mix 226 = .ok (.iload 8, 2) := by decide +kernel
theorem dX6_mix_228 : decode cX6_mix 228 = .ok (.iload 10, 2) := by decide +kernel
theorem dX6_mix_230 : decode cX6_mix 230 = .ok (.iadd, 1) := by decide +kernel
theorem dX6_mix_231 : decode cX6_mix 231 = .ok (.iload 5, 2) := by decide +kernel
theorem dX6_mix_233 : decode cX6_mix 233 = .ok (.iload 6, 2) := by decide +kernel
theorem dX6_mix_235 : decode cX6_mix 235 = .ok (.iand, 1) := by decide +kernel
theorem dX6_mix_236 : decode cX6_mix 236 = .ok (.iload 5, 2) := by decide +kernel
theorem dX6_mix_238 : decode cX6_mix 238 = .ok (.iconst (-1), 1) := by decide +kernel
theorem dX6_mix_239 : decode cX6_mix 239 = .ok (.ixor, 1) := by decide +kernel
theorem dX6_mix_240 : decode cX6_mix 240 = .ok (.iload 7, 2) := by decide +kernel
theorem dX6_mix_242 : decode cX6_mix 242 = .ok (.iand, 1) := by decide +kernel
theorem dX6_mix_243 : decode cX6_mix 243 = .ok (.ixor, 1) := by decide +kernel
theorem dX6_mix_244 : decode cX6_mix 244 = .ok (.iadd, 1) := by decide +kernel
theorem dX6_mix_245 : decode cX6_mix 245 = .ok (.getstatic 41, 3) := by decide +kernel
theorem dX6_mix_248 : decode cX6_mix 248 = .ok (.iload 9, 2) := by decide +kernel
theorem dX6_mix_250 : decode cX6_mix 250 = .ok (.iaload, 1) := by decide +kernel
theorem dX6_mix_251 : decode cX6_mix 251 = .ok (.iadd, 1) := by decide +kernel
theorem dX6_mix_252 : decode cX6_mix 252 = .ok (.aload_n 0, 1) := by decide +kernel
theorem dX6_mix_253 : decode cX6_mix 253 = .ok (.getfield 15, 3) := by decide +kernel
theorem dX6_mix_256 : decode cX6_mix 256 = .ok (.iload 9, 2) := by decide +kernel
theorem dX6_mix_258 : decode cX6_mix 258 = .ok (.iaload, 1) := by decide +kernel
theorem dX6_mix_259 : decode cX6_mix 259 = .ok (.iadd, 1) := by decide +kernel
theorem dX6_mix_260 : decode cX6_mix 260 = .ok (.istore 11, 2) := by decide +kernel
theorem dX6_mix_262 : decode cX6_mix 262 = .ok (.iload_n 1, 1) := by decide +kernel
theorem dX6_mix_263 : decode cX6_mix 263 = .ok (.iconst 2, 1) := by decide +kernel
theorem dX6_mix_264 : decode cX6_mix 264 = .ok (.iushr, 1) := by decide +kernel
theorem dX6_mix_265 : decode cX6_mix 265 = .ok (.iload_n 1, 1) := by decide +kernel
theorem dX6_mix_266 : decode cX6_mix 266 = .ok (.bipush 30, 2) := by decide +kernel
theorem dX6_mix_268 : decode cX6_mix 268 = .ok (.ishl, 1) := by decide +kernel
theorem dX6_mix_269 : decode cX6_mix 269 = .ok (.ior, 1) := by decide +kernel
theorem dX6_mix_270 : decode cX6_mix 270 = .ok (.iload_n 1, 1) := by decide +kernel
theorem dX6_mix_271 : decode cX6_mix 271 = .ok (.bipush 13, 2) := by decide +kernel
theorem dX6_mix_273 : decode cX6_mix 273 = .ok (.iushr, 1) := by decide +kernel
theorem dX6_mix_274 : decode cX6_mix 274 = .ok (.iload_n 1, 1) := by decide +kernel
theorem dX6_mix_275 : decode cX6_mix 275 = .ok (.bipush 19, 2) := by decide +kernel
theorem dX6_mix_277 : decode cX6_mix 277 = .ok (.ishl, 1) := by decide +kernel
theorem dX6_mix_278 : decode cX6_mix 278 = .ok (.ior, 1) := by decide +kernel
theorem dX6_mix_279 : decode cX6_mix 279 = .ok (.ixor, 1) := by decide +kernel
theorem dX6_mix_280 : decode cX6_mix 280 = .ok (.iload_n 1, 1) := by decide +kernel
theorem dX6_mix_281 : decode cX6_mix 281 = .ok (.bipush 22, 2) := by decide +kernel
theorem dX6_mix_283 : decode cX6_mix 283 = .ok (.iushr, 1) := by decide +kernel
theorem dX6_mix_284 : decode cX6_mix 284 = .ok (.iload_n 1, 1) := by decide +kernel
theorem dX6_mix_285 : decode cX6_mix 285 = .ok (.bipush 10, 2) := by decide +kernel
theorem dX6_mix_287 : decode cX6_mix 287 = .ok (.ishl, 1) := by decide +kernel
theorem dX6_mix_288 : decode cX6_mix 288 = .ok (.ior, 1) := by decide +kernel
theorem dX6_mix_289 : decode cX6_mix 289 = .ok (.ixor, 1) := by decide +kernel
theorem dX6_mix_290 : decode cX6_mix 290 = .ok (.istore 10, 2) := by decide +kernel
theorem dX6_mix_292 : decode cX6_mix 292 = .ok (.iload 10, 2) := by decide +kernel
theorem dX6_mix_294 : decode cX6_mix 294 = .ok (.iload_n 1, 1) := by decide +kernel
theorem dX6_mix_295 : decode cX6_mix 295 = .ok (.iload_n 2, 1) := by decide +kernel
theorem dX6_mix_296 : decode cX6_mix 296 = .ok (.iand, 1) := by decide +kernel
theorem dX6_mix_297 : decode cX6_mix 297 = .ok (.iload_n 1, 1) := by decide +kernel
theorem dX6_mix_298 : decode cX6_mix 298 = .ok (.iload_n 3, 1) := by decide +kernel
theorem dX6_mix_299 : decode cX6_mix 299 = .ok (.iand, 1) := by decide +kernel
theorem dX6_mix_300 : decode cX6_mix 300 = .ok (.ixor, 1) := by decide +kernel
theorem dX6_mix_301 : decode cX6_mix 301 = .ok (.iload_n 2, 1) := by decide +kernel
theorem dX6_mix_302 : decode cX6_mix 302 = .ok (.iload_n 3, 1) := by decide +kernel
theorem dX6_mix_303 : decode cX6_mix 303 = .ok (.iand, 1) := by decide +kernel
theorem dX6_mix_304 : decode cX6_mix 304 = .ok (.ixor, 1) := by decide +kernel
theorem dX6_mix_305 : decode cX6_mix 305 = .ok (.iadd, 1) := by decide +kernel
theorem dX6_mix_306 : decode cX6_mix 306 = .ok (.istore 12, 2) := by decide +kernel
theorem dX6_mix_308 : decode cX6_mix 308 = .ok (.iload 7, 2) := by decide +kernel
theorem dX6_mix_310 : decode cX6_mix 310 = .ok (.istore 8, 2) := by decide +kernel
theorem dX6_mix_312 : decode cX6_mix 312 = .ok (.iload 6, 2) := by decide +kernel
theorem dX6_mix_314 : decode cX6_mix 314 = .ok (.istore 7, 2) := by decide +kernel
theorem dX6_mix_316 : decode cX6_mix 316 = .ok (.iload 5, 2) := by decide +kernel
theorem dX6_mix_318 : decode cX6_mix 318 = .ok (.istore 6, 2) := by decide +kernel
theorem dX6_mix_320 : decode cX6_mix 320 = .ok (.iload 4, 2) := by decide +kernel
theorem dX6_mix_322 : decode cX6_mix 322 = .ok (.iload 11, 2) := by decide +kernel
theorem dX6_mix_324 : decode cX6_mix 324 = .ok (.iadd, 1) := by decide +kernel
theorem dX6_mix_325 : decode cX6_mix 325 = .ok (.istore 5, 2) := by decide +kernel
theorem dX6_mix_327 : decode cX6_mix 327 = .ok (.iload_n 3, 1) := by decide +kernel
theorem dX6_mix_328 : decode cX6_mix 328 = .ok (.istore 4, 2) := by decide +kernel
theorem dX6_mix_330 : decode cX6_mix 330 = .ok (.iload_n 2, 1) := by decide +kernel
theorem dX6_mix_331 : decode cX6_mix 331 = .ok (.istore_n 3, 1) := by decide +kernel
theorem dX6_mix_332 : decode cX6_mix 332 = .ok (.iload_n 1, 1) := by decide +kernel
theorem dX6_mix_333 : decode cX6_mix 333 = .ok (.istore_n 2, 1) := by decide +kernel
theorem dX6_mix_334 : decode cX6_mix 334 = .ok (.iload 11, 2) := by decide +kernel
theorem dX6_mix_336 : decode cX6_mix 336 = .ok (.iload 12, 2) := by decide +kernel
theorem dX6_mix_338 : decode cX6_mix 338 = .ok (.iadd, 1) := by decide +kernel
theorem dX6_mix_339 : decode cX6_mix 339 = .ok (.istore_n 1, 1) := by decide +kernel
theorem dX6_mix_340 : decode cX6_mix 340 = .ok (.iinc 9 1, 3) := by decide +kernel
theorem dX6_mix_343 : decode cX6_mix 343 = .ok (.goto (-161), 3) := by decide +kernel
theorem dX6_mix_346 : decode cX6_mix 346 = .ok (.aload_n 0, 1) := by decide +kernel
theorem dX6_mix_347 : decode cX6_mix 347 = .ok (.getfield 9, 3) := by decide +kernel
theorem dX6_mix_350 : decode cX6_mix 350 = .ok (.iconst 0, 1) := by decide +kernel
theorem dX6_mix_351 : decode cX6_mix 351 = .ok (.dup2, 1) := by decide +kernel
theorem dX6_mix_352 : decode cX6_mix 352 = .ok (.iaload, 1) := by decide +kernel
theorem dX6_mix_353 : decode cX6_mix 353 = .ok (.iload_n 1, 1) := by decide +kernel
theorem dX6_mix_354 : decode cX6_mix 354 = .ok (.iadd, 1) := by decide +kernel
theorem dX6_mix_355 : decode cX6_mix 355 = .ok (.iastore, 1) := by decide +kernel
theorem dX6_mix_356 : decode cX6_mix 356 = .ok (.aload_n 0, 1) := by decide +kernel
theorem dX6_mix_357 : decode cX6_mix 357 = .ok (.getfield 9, 3) := by decide +kernel
theorem dX6_mix_360 : decode cX6_mix 360 = .ok (.iconst 1, 1) := by decide +kernel
theorem dX6_mix_361 : decode cX6_mix 361 = .ok (.dup2, 1) := by decide +kernel
theorem dX6_mix_362 : decode cX6_mix 362 = .ok (.iaload, 1) := by decide +kernel
theorem dX6_mix_363 : decode cX6_mix 363 = .ok (.iload_n 2, 1) := by decide +kernel
theorem dX6_mix_364 : decode cX6_mix 364 = .ok (.iadd, 1) := by decide +kernel
theorem dX6_mix_365 : decode cX6_mix 365 = .ok (.iastore, 1) := by decide +kernel
theorem dX6_mix_366 : decode cX6_mix 366 = .ok (.aload_n 0, 1) := by decide +kernel
theorem dX6_mix_367 : decode cX6_mix 367 = .ok (.getfield 9, 3) := by decide +kernel
theorem dX6_mix_370 : decode cX6_mix 370 = .ok (.iconst 2, 1) := by decide +kernel
theorem dX6_mix_371 : decode cX6_mix 371 = .ok (.dup2, 1) := by decide +kernel
theorem dX6_mix_372 : decode cX6_mix 372 = .ok (.iaload, 1) := by decide +kernel
theorem dX6_mix_373 : decode cX6_mix 373 = .ok (.iload_n 3, 1) := by decide +kernel
theorem dX6_mix_374 : decode cX6_mix 374 = .ok (.iadd, 1) := by decide +kernel
theorem dX6_mix_375 : decode cX6_mix 375 = .ok (.iastore, 1) := by decide +kernel
theorem dX6_mix_376 : decode cX6_mix 376 = .ok (.aload_n 0, 1) := by decide +kernel
theorem dX6_mix_377 : decode cX6_mix 377 = .ok (.getfield 9, 3) := by decide +kernel
theorem dX6_mix_380 : decode cX6_mix 380 = .ok (.iconst 3, 1) := by decide +kernel
theorem dX6_mix_381 : decode cX6_mix 381 = .ok (.dup2, 1) := by decide +kernel
theorem dX6_mix_382 : decode cX6_mix 382 = .ok (.iaload, 1) := by decide +kernel
theorem dX6_mix_383 : decode cX6_mix 383 = .ok (.iload 4, 2) := by decide +kernel
theorem dX6_mix_385 : decode cX6_mix 385 = .ok (.iadd, 1) := by decide +kernel
theorem dX6_mix_386 : decode cX6_mix 386 = .ok (.iastore, 1) := by decide +kernel
theorem dX6_mix_387 : decode cX6_mix 387 = .ok (.aload_n 0, 1) := by decide +kernel
theorem dX6_mix_388 : decode cX6_mix 388 = .ok (.getfield 9, 3) := by decide +kernel
theorem dX6_mix_391 : decode cX6_mix 391 = .ok (.iconst 4, 1) := by decide +kernel
theorem dX6_mix_392 : decode cX6_mix 392 = .ok (.dup2, 1) := by decide +kernel
theorem dX6_mix_393 : decode cX6_mix 393 = .ok (.iaload, 1) := by decide +kernel
theorem dX6_mix_394 : decode cX6_mix 394 = .ok (.iload 5, 2) := by decide +kernel
theorem dX6_mix_396 : decode cX6_mix 396 = .ok (.iadd, 1) := by decide +kernel
theorem dX6_mix_397 : decode cX6_mix 397 = .ok (.iastore, 1) := by decide +kernel
theorem dX6_mix_398 : decode cX6_mix 398 = .ok (.aload_n 0, 1) := by decide +kernel
theorem dX6_mix_399 : decode cX6_mix 399 = .ok (.getfield 9, 3) := by decide +kernel
theorem dX6_mix_402 : decode cX6_mix 402 = .ok (.iconst 5, 1) := by decide +kernel
theorem dX6_mix_403 : decode cX6_mix 403 = .ok (.dup2, 1) := by decide +kernel
theorem dX6_mix_404 : decode cX6_mix 404 = .ok (.iaload, 1) := by decide +kernel
theorem dX6_mix_405 : decode cX6_mix 405 = .ok (.iload 6, 2) := by decide +kernel
theorem dX6_mix_407 : decode cX6_mix 407 = .ok (.iadd, 1) := by decide +kernel
theorem dX6_mix_408 : decode cX6_mix 408 = .ok (.iastore, 1) := by decide +kernel
theorem dX6_mix_409 : decode cX6_mix 409 = .ok (.aload_n 0, 1) := by decide +kernel
theorem dX6_mix_410 : decode cX6_mix 410 = .ok (.getfield 9, 3) := by decide +kernel
theorem dX6_mix_413 : decode cX6_mix 413 = .ok (.bipush 6, 2) := by decide +kernel
theorem dX6_mix_415 : decode cX6_mix 415 = .ok (.dup2, 1) := by decide +kernel
theorem dX6_mix_416 : decode cX6_mix 416 = .ok (.iaload, 1) := by decide +kernel
theorem dX6_mix_417 : decode cX6_mix 417 = .ok (.iload 7, 2) := by decide +kernel
theorem dX6_mix_419 : decode cX6_mix 419 = .ok (.iadd, 1) := by decide +kernel
theorem dX6_mix_420 : decode cX6_mix 420 = .ok (.iastore, 1) := by decide +kernel
theorem dX6_mix_421 : decode cX6_mix 421 = .ok (.aload_n 0, 1) := by decide +kernel
theorem dX6_mix_422 : decode cX6_mix 422 = .ok (.getfield 9, 3) := by decide +kernel
theorem dX6_mix_425 : decode cX6_mix 425 = .ok (.bipush 7, 2) := by decide +kernel
theorem dX6_mix_427 : decode cX6_mix 427 = .ok (.dup2, 1) := by decide +kernel
theorem dX6_mix_428 : decode cX6_mix 428 = .ok (.iaload, 1) := by decide +kernel
theorem dX6_mix_429 : decode cX6_mix 429 = .ok (.iload 8, 2) := by decide +kernel
theorem dX6_mix_431 : decode cX6_mix 431 = .ok (.iadd, 1) := by decide +kernel
theorem dX6_mix_432 : decode cX6_mix 432 = .ok (.iastore, 1) := by decide +kernel
theorem dX6_mix_433 : decode cX6_mix 433 = .ok (.return_, 1) := by decide +kernel
