theorem dX7_init_0 : decode cX7_init 0 = .ok (.aload_n 0, 1) := by decide +kernel
theorem dX7_init_1 : decode cX7_init 1 = .ok (.invokespecial 1, 3) := by decide +kernel
theorem dX7_init_4 : decode cX7_init 4 = .ok (.aload_n 0, 1) := by decide +kernel
theorem dX7_init_5 : decode cX7_init 5 = .ok (.new 7, 3) := by decide +kernel
theorem dX7_init_8 : decode cX7_init 8 = .ok (.dup, 1) := by decide +kernel
theorem dX7_init_9 : decode cX7_init 9 = .ok (.invokespecial 9, 3) := by decide +kernel
theorem dX7_init_12 : decode cX7_init 12 = .ok (.putfield 10, 3) := by decide +kernel
theorem dX7_init_15 : decode cX7_init 15 = .ok (.aload_n 0, 1) := by decide +kernel
theorem dX7_init_16 : decode cX7_init 16 = .ok (.new 16, 3) := by decide +kernel
theorem dX7_init_19 : decode cX7_init 19 = .ok (.dup, 1) := by decide +kernel
theorem dX7_init_20 : decode cX7_init 20 = .ok (.invokespecial 18, 3) := by decide +kernel
theorem dX7_init_23 : decode cX7_init 23 = .ok (.putfield 19, 3) := by decide +kernel
theorem dX7_init_26 : decode cX7_init 26 = .ok (.aload_n 0, 1) := by decide +kernel
theorem dX7_init_27 : decode cX7_init 27 = .ok (.new 23, 3) := by decide +kernel
theorem dX7_init_30 : decode cX7_init 30 = .ok (.dup, 1) := by decide +kernel
theorem dX7_init_31 : decode cX7_init 31 = .ok (.invokespecial 25, 3) := by decide +kernel
theorem dX7_init_34 : decode cX7_init 34 = .ok (.putfield 26, 3) := by decide +kernel
theorem dX7_init_37 : decode cX7_init 37 = .ok (.aload_n 0, 1) := by decide +kernel
theorem dX7_init_38 : decode cX7_init 38 = .ok (.new 30, 3) := by decide +kernel
theorem dX7_init_41 : decode cX7_init 41 = .ok (.dup, 1) := by decide +kernel
theorem dX7_init_42 : decode cX7_init 42 = .ok (.invokespecial 32, 3) := by decide +kernel
theorem dX7_init_45 : decode cX7_init 45 = .ok (.putfield 33, 3) := by decide +kernel
theorem dX7_init_48 : decode cX7_init 48 = .ok (.aload_n 0, 1) := by decide +kernel
theorem dX7_init_49 : decode cX7_init 49 = .ok (.bipush 8, 2) := by decide +kernel
theorem dX7_init_51 : decode cX7_init 51 = .ok (.anewarray 37, 3) := by decide +kernel
theorem dX7_init_54 : decode cX7_init 54 = .ok (.putfield 39, 3) := by decide +kernel
theorem dX7_init_57 : decode cX7_init 57 = .ok (.aload_n 0, 1) := by decide +kernel
theorem dX7_init_58 : decode cX7_init 58 = .ok (.iconst 0, 1) := by decide +kernel
theorem dX7_init_59 : decode cX7_init 59 = .ok (.putfield 43, 3) := by decide +kernel
theorem dX7_init_62 : decode cX7_init 62 = .ok (.aload_n 0, 1) := by decide +kernel
theorem dX7_init_63 : decode cX7_init 63 = .ok (.new 37, 3) := by decide +kernel
theorem dX7_init_66 : decode cX7_init 66 = .ok (.dup, 1) := by decide +kernel
theorem dX7_init_67 : decode cX7_init 67 = .ok (.invokespecial 47, 3) := by decide +kernel
theorem dX7_init_70 : decode cX7_init 70 = .ok (.putfield 48, 3) := by decide +kernel
theorem dX7_init_73 : decode cX7_init 73 = .ok (.return_, 1) := by decide +kernel
theorem dX7_blank_0 : decode cX7_blank 0 = .ok (.aload_n 0, 1) := by decide +kernel
theorem dX7_blank_1 : decode cX7_blank 1 = .ok (.getfield 48, 3) := by decide +kernel
theorem dX7_blank_4 : decode cX7_blank 4 = .ok (.getfield 52, 3) := by decide +kernel
theorem dX7_blank_7 : decode cX7_blank 7 = .ok (.bipush 8, 2) := by decide +kernel
theorem dX7_blank_9 : decode cX7_blank 9 = .ok (.if_icmp .lt 6, 3) := by decide +kernel
theorem dX7_blank_12 : decode cX7_blank 12 = .ok (.bipush (-2), 2) := by decide +kernel
theorem dX7_blank_14 : decode cX7_blank 14 = .ok (.ireturn, 1) := by decide +kernel
theorem dX7_blank_15 : decode cX7_blank 15 = .ok (.aload_n 0, 1) := by decide +kernel
theorem dX7_blank_16 : decode cX7_blank 16 = .ok (.getfield 48, 3) := by decide +kernel
theorem dX7_blank_19 : decode cX7_blank 19 = .ok (.dup, 1) := by decide +kernel
theorem dX7_blank_20 : decode cX7_blank 20 = .ok (.getfield 52, 3) := by decide +kernel
theorem dX7_blank_23 : decode cX7_blank 23 = .ok (.iconst 1, 1) := by decide +kernel
theorem dX7_blank_24 : decode cX7_blank 24 = .ok (.iadd, 1) := by decide +kernel
theorem dX7_blank_25 : decode cX7_blank 25 = .ok (.putfield 52, 3) := by decide +kernel
theorem dX7_blank_28 : decode cX7_blank 28 = .ok (.aload_n 0, 1) := by decide +kernel
theorem dX7_blank_29 : decode cX7_blank 29 = .ok (.getfield 48, 3) := by decide +kernel
theorem dX7_blank_32 : decode cX7_blank 32 = .ok (.iconst 0, 1) := by decide +kernel
theorem dX7_blank_33 : decode cX7_blank 33 = .ok (.putfield 55, 3) := by decide +kernel
theorem dX7_blank_36 : decode cX7_blank 36 = .ok (.aload_n 0, 1) := by decide +kernel
theorem dX7_blank_37 : decode cX7_blank 37 = .ok (.getfield 48, 3) := by decide +kernel
theorem dX7_blank_40 : decode cX7_blank 40 = .ok (.getfield 52, 3) := by decide +kernel
theorem dX7_blank_43 : decode cX7_blank 43 = .ok (.ireturn, 1) := by decide +kernel
theorem dX7_triple_0 : decode cX7_triple 0 = .ok (.aload_n 0, 1) := by decide +kernel
theorem dX7_triple_1 : decode cX7_triple 1 = .ok (.getfield 48, 3) := by decide +kernel
theorem dX7_triple_4 : decode cX7_triple 4 = .ok (.iload_n 1, 1) := by decide +kernel
theorem dX7_triple_5 : decode cX7_triple 5 = .ok (.iload_n 2, 1) := by decide +kernel
theorem dX7_triple_6 : decode cX7_triple 6 = .ok (.iload_n 3, 1) := by decide +kernel
theorem dX7_triple_7 : decode cX7_triple 7 = .ok (.invokevirtual 59, 3) := by decide +kernel
theorem dX7_triple_10 : decode cX7_triple 10 = .ok (.ifCond .ne 5, 3) := by decide +kernel
theorem dX7_triple_13 : decode cX7_triple 13 = .ok (.iconst (-1), 1) := by decide +kernel
theorem dX7_triple_14 : decode cX7_triple 14 = .ok (.ireturn, 1) := by decide +kernel
theorem dX7_triple_15 : decode cX7_triple 15 = .ok (.iload_n 1, 1) := by decide +kernel
theorem dX7_triple_16 : decode cX7_triple 16 = .ok (.iload_n 2, 1) := by decide +kernel
theorem dX7_triple_17 : decode cX7_triple 17 = .ok (.iload_n 3, 1) := by decide +kernel
theorem dX7_triple_18 : decode cX7_triple 18 = .ok (.invokestatic 63, 3) := by decide +kernel
theorem dX7_triple_21 : decode cX7_triple 21 = .ok (.istore 4, 2) := by decide +kernel
theorem dX7_triple_23 : decode cX7_triple 23 = .ok (.aload_n 0, 1) := by decide +kernel
theorem dX7_triple_24 : decode cX7_triple 24 = .ok (.getfield 48, 3) := by decide +kernel
theorem dX7_triple_27 : decode cX7_triple 27 = .ok (.iload 4, 2) := by decide +kernel
theorem dX7_triple_29 : decode cX7_triple 29 = .ok (.invokevirtual 67, 3) := by decide +kernel
theorem dX7_triple_32 : decode cX7_triple 32 = .ok (.ifCond .eq 5, 3) := by decide +kernel
theorem dX7_triple_35 : decode cX7_triple 35 = .ok (.iconst 0, 1) := by decide +kernel
theorem dX7_triple_36 : decode cX7_triple 36 = .ok (.ireturn, 1) := by decide +kernel
theorem dX7_triple_37 : decode cX7_triple 37 = .ok (.aload_n 0, 1) := by decide +kernel
theorem dX7_triple_38 : decode cX7_triple 38 = .ok (.getfield 48, 3) := by decide +kernel
theorem dX7_triple_41 : decode cX7_triple 41 = .ok (.getfield 71, 3) := by decide +kernel
theorem dX7_triple_44 : decode cX7_triple 44 = .ok (.bipush 40, 2) := by decide +kernel
theorem dX7_triple_46 : decode cX7_triple 46 = .ok (.if_icmp .lt 6, 3) := by decide +kernel
theorem dX7_triple_49 : decode cX7_triple 49 = .ok (.bipush (-2), 2) := by decide +kernel
theorem dX7_triple_51 : decode cX7_triple 51 = .ok (.ireturn, 1) := by decide +kernel
theorem dX7_triple_52 : decode cX7_triple 52 = .ok (.aload_n 0, 1) := by decide +kernel
theorem dX7_triple_53 : decode cX7_triple 53 = .ok (.getfield 48, 3) := by decide +kernel
theorem dX7_triple_56 : decode cX7_triple 56 = .ok (.iload 4, 2) := by decide +kernel
theorem dX7_triple_58 : decode cX7_triple 58 = .ok (.invokevirtual 74, 3) := by decide +kernel
theorem dX7_triple_61 : decode cX7_triple 61 = .ok (.iconst 1, 1) := by decide +kernel
theorem dX7_triple_62 : decode cX7_triple 62 = .ok (.ireturn, 1) := by decide +kernel
theorem dX7_drop_0 : decode cX7_drop 0 = .ok (.aload_n 0, 1) := by decide +kernel
theorem dX7_drop_1 : decode cX7_drop 1 = .ok (.getfield 48, 3) := by decide +kernel
theorem dX7_drop_4 : decode cX7_drop 4 = .ok (.iload_n 1, 1) := by decide +kernel
theorem dX7_drop_5 : decode cX7_drop 5 = .ok (.iload_n 2, 1) := by decide +kernel
theorem dX7_drop_6 : decode cX7_drop 6 = .ok (.iload_n 3, 1) := by decide +kernel
theorem dX7_drop_7 : decode cX7_drop 7 = .ok (.invokevirtual 59, 3) := by decide +kernel
theorem dX7_drop_10 : decode cX7_drop 10 = .ok (.ifCond .ne 5, 3) := by decide +kernel
theorem dX7_drop_13 : decode cX7_drop 13 = .ok (.iconst 0, 1) := by decide +kernel
theorem dX7_drop_14 : decode cX7_drop 14 = .ok (.ireturn, 1) := by decide +kernel
theorem dX7_drop_15 : decode cX7_drop 15 = .ok (.iload_n 1, 1) := by decide +kernel
theorem dX7_drop_16 : decode cX7_drop 16 = .ok (.iload_n 2, 1) := by decide +kernel
theorem dX7_drop_17 : decode cX7_drop 17 = .ok (.iload_n 3, 1) := by decide +kernel
theorem dX7_drop_18 : decode cX7_drop 18 = .ok (.invokestatic 63, 3) := by decide +kernel
theorem dX7_drop_21 : decode cX7_drop 21 = .ok (.istore 4, 2) := by decide +kernel
theorem dX7_drop_23 : decode cX7_drop 23 = .ok (.aload_n 0, 1) := by decide +kernel
theorem dX7_drop_24 : decode cX7_drop 24 = .ok (.getfield 48, 3) := by decide +kernel
theorem dX7_drop_27 : decode cX7_drop 27 = .ok (.iload 4, 2) := by decide +kernel
theorem dX7_drop_29 : decode cX7_drop 29 = .ok (.invokevirtual 67, 3) := by decide +kernel
theorem dX7_drop_32 : decode cX7_drop 32 = .ok (.ifCond .ne 5, 3) := by decide +kernel
theorem dX7_drop_35 : decode cX7_drop 35 = .ok (.iconst 0, 1) := by decide +kernel
theorem dX7_drop_36 : decode cX7_drop 36 = .ok (.ireturn, 1) := by decide +kernel
theorem dX7_drop_37 : decode cX7_drop 37 = .ok (.aload_n 0, 1) := by decide +kernel
theorem dX7_drop_38 : decode cX7_drop 38 = .ok (.getfield 48, 3) := by decide +kernel
theorem dX7_drop_41 : decode cX7_drop 41 = .ok (.iload 4, 2) := by decide +kernel
theorem dX7_drop_43 : decode cX7_drop 43 = .ok (.invokevirtual 78, 3) := by decide +kernel
theorem dX7_drop_46 : decode cX7_drop 46 = .ok (.iconst 1, 1) := by decide +kernel
theorem dX7_drop_47 : decode cX7_drop 47 = .ok (.ireturn, 1) := by decide +kernel
theorem dX7_name_0 : decode cX7_name 0 = .ok (.aload_n 0, 1) := by decide +kernel
theorem dX7_name_1 : decode cX7_name 1 = .ok (.getfield 10, 3) := by decide +kernel
theorem dX7_name_4 : decode cX7_name 4 = .ok (.aload_n 0, 1) := by decide +kernel
theorem dX7_name_5 : decode cX7_name 5 = .ok (.getfield 48, 3) := by decide +kernel
theorem dX7_name_8 : decode cX7_name 8 = .ok (.invokevirtual 81, 3) := by decide +kernel
theorem dX7_name_11 : decode cX7_name 11 = .ok (.aload_n 0, 1) := by decide +kernel
theorem dX7_name_12 : decode cX7_name 12 = .ok (.getfield 48, 3) := by decide +kernel
theorem dX7_name_15 : decode cX7_name 15 = .ok (.getfield 85, 3) := by decide +kernel
theorem dX7_name_18 : decode cX7_name 18 = .ok (.invokevirtual 89, 3) := by decide +kernel
theorem dX7_name_21 : decode cX7_name 21 = .ok (.i2l, 1) := by decide +kernel
theorem dX7_name_22 : decode cX7_name 22 = .ok (.lload_n 1, 1) := by decide +kernel
theorem dX7_name_23 : decode cX7_name 23 = .ok (.lcmp, 1) := by decide +kernel
theorem dX7_name_24 : decode cX7_name 24 = .ok (.ifCond .le 5, 3) := by decide +kernel
theorem dX7_name_27 : decode cX7_name 27 = .ok (.iconst (-1), 1) := by decide +kernel
theorem dX7_name_28 : decode cX7_name 28 = .ok (.ireturn, 1) := by decide +kernel
theorem dX7_name_29 : decode cX7_name 29 = .ok (.aload_n 0, 1) := by decide +kernel
theorem dX7_name_30 : decode cX7_name 30 = .ok (.getfield 26, 3) := by decide +kernel
theorem dX7_name_33 : decode cX7_name 33 = .ok (.aload_n 0, 1) := by decide +kernel
theorem dX7_name_34 : decode cX7_name 34 = .ok (.getfield 48, 3) := by decide +kernel
theorem dX7_name_37 : decode cX7_name 37 = .ok (.aload_n 0, 1) := by decide +kernel
theorem dX7_name_38 : decode cX7_name 38 = .ok (.getfield 33, 3) := by decide +kernel
theorem dX7_name_41 : decode cX7_name 41 = .ok (.getfield 95, 3) := by decide +kernel
theorem dX7_name_44 : decode cX7_name 44 = .ok (.invokevirtual 98, 3) := by decide +kernel
theorem dX7_name_47 : decode cX7_name 47 = .ok (.aload_n 0, 1) := by decide +kernel
theorem dX7_name_48 : decode cX7_name 48 = .ok (.getfield 19, 3) := by decide +kernel
theorem dX7_name_51 : decode cX7_name 51 = .ok (.aload_n 0, 1) := by decide +kernel
theorem dX7_name_52 : decode cX7_name 52 = .ok (.getfield 48, 3) := by decide +kernel
theorem dX7_name_55 : decode cX7_name 55 = .ok (.aload_n 0, 1) := by decide +kernel
theorem dX7_name_56 : decode cX7_name 56 = .ok (.getfield 33, 3) := by decide +kernel
theorem dX7_name_59 : decode cX7_name 59 = .ok (.getfield 95, 3) := by decide +kernel
theorem dX7_name_62 : decode cX7_name 62 = .ok (.invokevirtual 102, 3) := by decide +kernel
theorem dX7_name_65 : decode cX7_name 65 = .ok (.ifCond .eq 24, 3) := by decide +kernel
theorem dX7_name_68 : decode cX7_name 68 = .ok (.aload_n 0, 1) := by decide +kernel
theorem dX7_name_69 : decode cX7_name 69 = .ok (.getfield 33, 3) := by decide +kernel
theorem dX7_name_72 : decode cX7_name 72 = .ok (.aload_n 0, 1) := by decide +kernel
theorem dX7_name_73 : decode cX7_name 73 = .ok (.getfield 19, 3) := by decide +kernel
theorem dX7_name_76 : decode cX7_name 76 = .ok (.getfield 106, 3) := by decide +kernel
theorem dX7_name_79 : decode cX7_name 79 = .ok (.aload_n 0, 1) := by decide +kernel
theorem dX7_name_80 : decode cX7_name 80 = .ok (.getfield 48, 3) := by decide +kernel
theorem dX7_name_83 : decode cX7_name 83 = .ok (.getfield 52, 3) := by decide +kernel
theorem dX7_name_86 : decode cX7_name 86 = .ok (.invokevirtual 110, 3) := by decide +kernel
theorem dX7_name_89 : decode cX7_name 89 = .ok (.aload_n 0, 1) := by decide +kernel
theorem dX7_name_90 : decode cX7_name 90 = .ok (.getfield 19, 3) := by decide +kernel
theorem dX7_name_93 : decode cX7_name 93 = .ok (.aload_n 0, 1) := by decide +kernel
theorem dX7_name_94 : decode cX7_name 94 = .ok (.getfield 48, 3) := by decide +kernel
theorem dX7_name_97 : decode cX7_name 97 = .ok (.invokevirtual 114, 3) := by decide +kernel
theorem dX7_name_100 : decode cX7_name 100 = .ok (.ireturn, 1) := by decide +kernel
theorem dX7_named_0 : decode cX7_named 0 = .ok (.iload_n 1, 1) := by decide +kernel
theorem dX7_named_1 : decode cX7_named 1 = .ok (.iconst 1, 1) := by decide +kernel
theorem dX7_named_2 : decode cX7_named 2 = .ok (.if_icmp .lt 17, 3) := by decide +kernel
theorem dX7_named_5 : decode cX7_named 5 = .ok (.iload_n 1, 1) := by decide +kernel
theorem dX7_named_6 : decode cX7_named 6 = .ok (.aload_n 0, 1) := by decide +kernel
theorem dX7_named_7 : decode cX7_named 7 = .ok (.getfield 33, 3) := by decide +kernel
theorem dX7_named_10 : decode cX7_named 10 = .ok (.getfield 95, 3) := by decide +kernel
theorem dX7_named_13 : decode cX7_named 13 = .ok (.getfield 52, 3) := by decide +kernel
theorem dX7_named_16 : decode cX7_named 16 = .ok (.if_icmp .le 5, 3) := by decide +kernel
theorem dX7_named_19 : decode cX7_named 19 = .ok (.iconst (-1), 1) := by decide +kernel
theorem dX7_named_20 : decode cX7_named 20 = .ok (.ireturn, 1) := by decide +kernel
theorem dX7_named_21 : decode cX7_named 21 = .ok (.aload_n 0, 1) := by decide +kernel
theorem dX7_named_22 : decode cX7_named 22 = .ok (.getfield 33, 3) := by decide +kernel
theorem dX7_named_25 : decode cX7_named 25 = .ok (.getfield 118, 3) := by decide +kernel
theorem dX7_named_28 : decode cX7_named 28 = .ok (.iload_n 1, 1) := by decide +kernel
theorem dX7_named_29 : decode cX7_named 29 = .ok (.iconst 1, 1) := by decide +kernel
theorem dX7_named_30 : decode cX7_named 30 = .ok (.isub, 1) := by decide +kernel
theorem dX7_named_31 : decode cX7_named 31 = .ok (.iaload, 1) := by decide +kernel
theorem dX7_named_32 : decode cX7_named 32 = .ok (.ireturn, 1) := by decide +kernel
theorem dX7_form_0 : decode cX7_form 0 = .ok (.iload_n 1, 1) := by decide +kernel
theorem dX7_form_1 : decode cX7_form 1 = .ok (.ifCond .lt 26, 3) := by decide +kernel
theorem dX7_form_4 : decode cX7_form 4 = .ok (.iload_n 1, 1) := by decide +kernel
theorem dX7_form_5 : decode cX7_form 5 = .ok (.aload_n 0, 1) := by decide +kernel
theorem dX7_form_6 : decode cX7_form 6 = .ok (.getfield 33, 3) := by decide +kernel
theorem dX7_form_9 : decode cX7_form 9 = .ok (.getfield 95, 3) := by decide +kernel
theorem dX7_form_12 : decode cX7_form 12 = .ok (.getfield 71, 3) := by decide +kernel
theorem dX7_form_15 : decode cX7_form 15 = .ok (.if_icmp .ge 12, 3) := by decide +kernel
theorem dX7_form_18 : decode cX7_form 18 = .ok (.iload_n 2, 1) := by decide +kernel
theorem dX7_form_19 : decode cX7_form 19 = .ok (.ifCond .lt 8, 3) := by decide +kernel
theorem dX7_form_22 : decode cX7_form 22 = .ok (.iload_n 2, 1) := by decide +kernel
theorem dX7_form_23 : decode cX7_form 23 = .ok (.iconst 3, 1) := by decide +kernel
theorem dX7_form_24 : decode cX7_form 24 = .ok (.if_icmp .lt 5, 3) := by decide +kernel
theorem dX7_form_27 : decode cX7_form 27 = .ok (.iconst 0, 1) := by decide +kernel
theorem dX7_form_28 : decode cX7_form 28 = .ok (.ireturn, 1) := by decide +kernel
theorem dX7_form_29 : decode cX7_form 29 = .ok (.aload_n 0, 1) := by decide +kernel
theorem dX7_form_30 : decode cX7_form 30 = .ok (.getfield 33, 3) := by decide +kernel
theorem dX7_form_33 : decode cX7_form 33 = .ok (.getfield 95, 3) := by decide +kernel
theorem dX7_form_36 : decode cX7_form 36 = .ok (.getfield 121, 3) := by decide +kernel
theorem dX7_form_39 : decode cX7_form 39 = .ok (.iload_n 1, 1) := by decide +kernel
theorem dX7_form_40 : decode cX7_form 40 = .ok (.iaload, 1) := by decide +kernel
theorem dX7_form_41 : decode cX7_form 41 = .ok (.iload_n 2, 1) := by decide +kernel
theorem dX7_form_42 : decode cX7_form 42 = .ok (.invokestatic 124, 3) := by decide +kernel
theorem dX7_form_45 : decode cX7_form 45 = .ok (.ireturn, 1) := by decide +kernel
theorem dX7_octet_0 : decode cX7_octet 0 = .ok (.iload_n 1, 1) := by decide +kernel
theorem dX7_octet_1 : decode cX7_octet 1 = .ok (.ifCond .lt 9, 3) := by decide +kernel
theorem dX7_octet_4 : decode cX7_octet 4 = .ok (.iload_n 1, 1) := by decide +kernel
theorem dX7_octet_5 : decode cX7_octet 5 = .ok (.bipush 32, 2) := by decide +kernel
theorem dX7_octet_7 : decode cX7_octet 7 = .ok (.if_icmp .lt 13, 3) := by decide +kernel
theorem dX7_octet_10 : decode cX7_octet 10 = .ok (.new 128, 3) := by decide +kernel
theorem dX7_octet_13 : decode cX7_octet 13 = .ok (.dup, 1) := by decide +kernel
theorem dX7_octet_14 : decode cX7_octet 14 = .ok (.ldc 130, 2) := by decide +kernel
theorem dX7_octet_16 : decode cX7_octet 16 = .ok (.invokespecial 132, 3) := by decide +kernel
theorem dX7_octet_19 : decode cX7_octet 19 = .ok (.athrow, 1) := by decide +kernel
theorem dX7_octet_20 : decode cX7_octet 20 = .ok (.aload_n 0, 1) := by decide +kernel
theorem dX7_octet_21 : decode cX7_octet 21 = .ok (.getfield 33, 3) := by decide +kernel
theorem dX7_octet_24 : decode cX7_octet 24 = .ok (.aload_n 0, 1) := by decide +kernel
theorem dX7_octet_25 : decode cX7_octet 25 = .ok (.getfield 10, 3) := by decide +kernel
theorem dX7_octet_28 : decode cX7_octet 28 = .ok (.getfield 135, 3) := by decide +kernel
theorem dX7_octet_31 : decode cX7_octet 31 = .ok (.invokevirtual 139, 3) := by decide +kernel
theorem dX7_octet_34 : decode cX7_octet 34 = .ok (.aload_n 0, 1) := by decide +kernel
theorem dX7_octet_35 : decode cX7_octet 35 = .ok (.getfield 33, 3) := by decide +kernel
theorem dX7_octet_38 : decode cX7_octet 38 = .ok (.getfield 143, 3) := by decide +kernel
theorem dX7_octet_41 : decode cX7_octet 41 = .ok (.iload_n 1, 1) := by decide +kernel
theorem dX7_octet_42 : decode cX7_octet 42 = .ok (.iconst 2, 1) := by decide +kernel
theorem dX7_octet_43 : decode cX7_octet 43 = .ok (.ishr, 1) := by decide +kernel
theorem dX7_octet_44 : decode cX7_octet 44 = .ok (.iaload, 1) := by decide +kernel
theorem dX7_octet_45 : decode cX7_octet 45 = .ok (.bipush 24, 2) := by decide +kernel
theorem dX7_octet_47 : decode cX7_octet 47 = .ok (.bipush 8, 2) := by decide +kernel
theorem dX7_octet_49 : decode cX7_octet 49 = .ok (.iload_n 1, 1) := by decide +kernel
theorem dX7_octet_50 : decode cX7_octet 50 = .ok (.iconst 3, 1) := by decide +kernel
theorem dX7_octet_51 : decode cX7_octet 51 = .ok (.iand, 1) := by decide +kernel
theorem dX7_octet_52 : decode cX7_octet 52 = .ok (.imul, 1) := by decide +kernel
theorem dX7_octet_53 : decode cX7_octet 53 = .ok (.isub, 1) := by decide +kernel
theorem dX7_octet_54 : decode cX7_octet 54 = .ok (.iushr, 1) := by decide +kernel
theorem dX7_octet_55 : decode cX7_octet 55 = .ok (.i2b, 1) := by decide +kernel
theorem dX7_octet_56 : decode cX7_octet 56 = .ok (.ireturn, 1) := by decide +kernel
theorem dX7_hash_0 : decode cX7_hash 0 = .ok (.iload_n 1, 1) := by decide +kernel
theorem dX7_hash_1 : decode cX7_hash 1 = .ok (.iconst 1, 1) := by decide +kernel
theorem dX7_hash_2 : decode cX7_hash 2 = .ok (.if_icmp .lt 24, 3) := by decide +kernel
theorem dX7_hash_5 : decode cX7_hash 5 = .ok (.iload_n 1, 1) := by decide +kernel
theorem dX7_hash_6 : decode cX7_hash 6 = .ok (.aload_n 0, 1) := by decide +kernel
theorem dX7_hash_7 : decode cX7_hash 7 = .ok (.getfield 48, 3) := by decide +kernel
theorem dX7_hash_10 : decode cX7_hash 10 = .ok (.getfield 52, 3) := by decide +kernel
theorem dX7_hash_13 : decode cX7_hash 13 = .ok (.if_icmp .gt 13, 3) := by decide +kernel
theorem dX7_hash_16 : decode cX7_hash 16 = .ok (.iload_n 2, 1) := by decide +kernel
theorem dX7_hash_17 : decode cX7_hash 17 = .ok (.ifCond .lt 9, 3) := by decide +kernel
theorem dX7_hash_20 : decode cX7_hash 20 = .ok (.iload_n 2, 1) := by decide +kernel
theorem dX7_hash_21 : decode cX7_hash 21 = .ok (.bipush 8, 2) := by decide +kernel
theorem dX7_hash_23 : decode cX7_hash 23 = .ok (.if_icmp .lt 5, 3) := by decide +kernel
theorem dX7_hash_26 : decode cX7_hash 26 = .ok (.iconst 0, 1) := by decide +kernel
theorem dX7_hash_27 : decode cX7_hash 27 = .ok (.ireturn, 1) := by decide +kernel
theorem dX7_hash_28 : decode cX7_hash 28 = .ok (.aload_n 0, 1) := by decide +kernel
theorem dX7_hash_29 : decode cX7_hash 29 = .ok (.getfield 10, 3) := by decide +kernel
theorem dX7_hash_32 : decode cX7_hash 32 = .ok (.aload_n 0, 1) := by decide +kernel
theorem dX7_hash_33 : decode cX7_hash 33 = .ok (.getfield 48, 3) := by decide +kernel
theorem dX7_hash_36 : decode cX7_hash 36 = .ok (.invokevirtual 81, 3) := by decide +kernel
theorem dX7_hash_39 : decode cX7_hash 39 = .ok (.aload_n 0, 1) := by decide +kernel
theorem dX7_hash_40 : decode cX7_hash 40 = .ok (.getfield 48, 3) := by decide +kernel
theorem dX7_hash_43 : decode cX7_hash 43 = .ok (.getfield 85, 3) := by decide +kernel
theorem dX7_hash_46 : decode cX7_hash 46 = .ok (.getfield 146, 3) := by decide +kernel
theorem dX7_hash_49 : decode cX7_hash 49 = .ok (.iload_n 1, 1) := by decide +kernel
theorem dX7_hash_50 : decode cX7_hash 50 = .ok (.iconst 1, 1) := by decide +kernel
theorem dX7_hash_51 : decode cX7_hash 51 = .ok (.isub, 1) := by decide +kernel
theorem dX7_hash_52 : decode cX7_hash 52 = .ok (.bipush 8, 2) := by decide +kernel
theorem dX7_hash_54 : decode cX7_hash 54 = .ok (.imul, 1) := by decide +kernel
theorem dX7_hash_55 : decode cX7_hash 55 = .ok (.iload_n 2, 1) := by decide +kernel
theorem dX7_hash_56 : decode cX7_hash 56 = .ok (.iadd, 1) := by decide +kernel
theorem dX7_hash_57 : decode cX7_hash 57 = .ok (.iaload, 1) := by decide +kernel
theorem dX7_hash_58 : decode cX7_hash 58 = .ok (.ireturn, 1) := by decide +kernel
theorem dX7_rounds_0 : decode cX7_rounds 0 = .ok (.aload_n 0, 1) := by decide +kernel
theorem dX7_rounds_1 : decode cX7_rounds 1 = .ok (.getfield 10, 3) := by decide +kernel
theorem dX7_rounds_4 : decode cX7_rounds 4 = .ok (.aload_n 0, 1) := by decide +kernel
theorem dX7_rounds_5 : decode cX7_rounds 5 = .ok (.getfield 48, 3) := by decide +kernel
theorem dX7_rounds_8 : decode cX7_rounds 8 = .ok (.invokevirtual 81, 3) := by decide +kernel
theorem dX7_rounds_11 : decode cX7_rounds 11 = .ok (.aload_n 0, 1) := by decide +kernel
theorem dX7_rounds_12 : decode cX7_rounds 12 = .ok (.getfield 48, 3) := by decide +kernel
theorem dX7_rounds_15 : decode cX7_rounds 15 = .ok (.getfield 149, 3) := by decide +kernel
theorem dX7_rounds_18 : decode cX7_rounds 18 = .ok (.ireturn, 1) := by decide +kernel
theorem dX7_first_0 : decode cX7_first 0 = .ok (.aload_n 0, 1) := by decide +kernel
theorem dX7_first_1 : decode cX7_first 1 = .ok (.getfield 10, 3) := by decide +kernel
theorem dX7_first_4 : decode cX7_first 4 = .ok (.aload_n 0, 1) := by decide +kernel
theorem dX7_first_5 : decode cX7_first 5 = .ok (.getfield 48, 3) := by decide +kernel
theorem dX7_first_8 : decode cX7_first 8 = .ok (.invokevirtual 81, 3) := by decide +kernel
theorem dX7_first_11 : decode cX7_first 11 = .ok (.aload_n 0, 1) := by decide +kernel
theorem dX7_first_12 : decode cX7_first 12 = .ok (.getfield 48, 3) := by decide +kernel
theorem dX7_first_15 : decode cX7_first 15 = .ok (.getfield 85, 3) := by decide +kernel
theorem dX7_first_18 : decode cX7_first 18 = .ok (.astore_n 3, 1) := by decide +kernel
theorem dX7_first_19 : decode cX7_first 19 = .ok (.iload_n 1, 1) := by decide +kernel
theorem dX7_first_20 : decode cX7_first 20 = .ok (.ifCond .lt 24, 3) := by decide +kernel
theorem dX7_first_23 : decode cX7_first 23 = .ok (.iload_n 1, 1) := by decide +kernel
theorem dX7_first_24 : decode cX7_first 24 = .ok (.aload_n 3, 1) := by decide +kernel
theorem dX7_first_25 : decode cX7_first 25 = .ok (.getfield 152, 3) := by decide +kernel
theorem dX7_first_28 : decode cX7_first 28 = .ok (.if_icmp .ge 16, 3) := by decide +kernel
theorem dX7_first_31 : decode cX7_first 31 = .ok (.iload_n 2, 1) := by decide +kernel
theorem dX7_first_32 : decode cX7_first 32 = .ok (.ifCond .lt 12, 3) := by decide +kernel
theorem dX7_first_35 : decode cX7_first 35 = .ok (.iload_n 2, 1) := by decide +kernel
theorem dX7_first_36 : decode cX7_first 36 = .ok (.aload_n 3, 1) := by decide +kernel
theorem dX7_first_37 : decode cX7_first 37 = .ok (.iload_n 1, 1) := by decide +kernel
theorem dX7_first_38 : decode cX7_first 38 = .ok (.invokevirtual 155, 3) := by decide +kernel
theorem dX7_first_41 : decode cX7_first 41 = .ok (.if_icmp .lt 5, 3) := by decide +kernel
theorem dX7_first_44 : decode cX7_first 44 = .ok (.iconst (-1), 1) := by decide +kernel
theorem dX7_first_45 : decode cX7_first 45 = .ok (.ireturn, 1) := by decide +kernel
theorem dX7_first_46 : decode cX7_first 46 = .ok (.aload_n 3, 1) := by decide +kernel
theorem dX7_first_47 : decode cX7_first 47 = .ok (.getfield 159, 3) := by decide +kernel
theorem dX7_first_50 : decode cX7_first 50 = .ok (.aload_n 3, 1) := by decide +kernel
theorem dX7_first_51 : decode cX7_first 51 = .ok (.getfield 162, 3) := by decide +kernel
theorem dX7_first_54 : decode cX7_first 54 = .ok (.iload_n 1, 1) := by decide +kernel
theorem dX7_first_55 : decode cX7_first 55 = .ok (.iaload, 1) := by decide +kernel
theorem dX7_first_56 : decode cX7_first 56 = .ok (.iload_n 2, 1) := by decide +kernel
theorem dX7_first_57 : decode cX7_first 57 = .ok (.iadd, 1) := by decide +kernel
theorem dX7_first_58 : decode cX7_first 58 = .ok (.iaload, 1) := by decide +kernel
theorem dX7_first_59 : decode cX7_first 59 = .ok (.iconst 1, 1) := by decide +kernel
theorem dX7_first_60 : decode cX7_first 60 = .ok (.iadd, 1) := by decide +kernel
theorem dX7_first_61 : decode cX7_first 61 = .ok (.ireturn, 1) := by decide +kernel
theorem dX7_keep_0 : decode cX7_keep 0 = .ok (.aload_n 0, 1) := by decide +kernel
theorem dX7_keep_1 : decode cX7_keep 1 = .ok (.getfield 43, 3) := by decide +kernel
theorem dX7_keep_4 : decode cX7_keep 4 = .ok (.bipush 8, 2) := by decide +kernel
theorem dX7_keep_6 : decode cX7_keep 6 = .ok (.if_icmp .lt 6, 3) := by decide +kernel
theorem dX7_keep_9 : decode cX7_keep 9 = .ok (.bipush (-2), 2) := by decide +kernel
theorem dX7_keep_11 : decode cX7_keep 11 = .ok (.ireturn, 1) := by decide +kernel
theorem dX7_keep_12 : decode cX7_keep 12 = .ok (.aload_n 0, 1) := by decide +kernel
theorem dX7_keep_13 : decode cX7_keep 13 = .ok (.getfield 39, 3) := by decide +kernel
theorem dX7_keep_16 : decode cX7_keep 16 = .ok (.aload_n 0, 1) := by decide +kernel
theorem dX7_keep_17 : decode cX7_keep 17 = .ok (.getfield 43, 3) := by decide +kernel
theorem dX7_keep_20 : decode cX7_keep 20 = .ok (.aload_n 0, 1) := by decide +kernel
theorem dX7_keep_21 : decode cX7_keep 21 = .ok (.getfield 48, 3) := by decide +kernel
theorem dX7_keep_24 : decode cX7_keep 24 = .ok (.aastore, 1) := by decide +kernel
theorem dX7_keep_25 : decode cX7_keep 25 = .ok (.aload_n 0, 1) := by decide +kernel
theorem dX7_keep_26 : decode cX7_keep 26 = .ok (.new 37, 3) := by decide +kernel
theorem dX7_keep_29 : decode cX7_keep 29 = .ok (.dup, 1) := by decide +kernel
theorem dX7_keep_30 : decode cX7_keep 30 = .ok (.invokespecial 47, 3) := by decide +kernel
theorem dX7_keep_33 : decode cX7_keep 33 = .ok (.putfield 48, 3) := by decide +kernel
theorem dX7_keep_36 : decode cX7_keep 36 = .ok (.aload_n 0, 1) := by decide +kernel
theorem dX7_keep_37 : decode cX7_keep 37 = .ok (.dup, 1) := by decide +kernel
theorem dX7_keep_38 : decode cX7_keep 38 = .ok (.getfield 43, 3) := by decide +kernel
theorem dX7_keep_41 : decode cX7_keep 41 = .ok (.iconst 1, 1) := by decide +kernel
theorem dX7_keep_42 : decode cX7_keep 42 = .ok (.iadd, 1) := by decide +kernel
theorem dX7_keep_43 : decode cX7_keep 43 = .ok (.putfield 43, 3) := by decide +kernel
theorem dX7_keep_46 : decode cX7_keep 46 = .ok (.aload_n 0, 1) := by decide +kernel
theorem dX7_keep_47 : decode cX7_keep 47 = .ok (.getfield 43, 3) := by decide +kernel
theorem dX7_keep_50 : decode cX7_keep 50 = .ok (.iconst 1, 1) := by decide +kernel
theorem dX7_keep_51 : decode cX7_keep 51 = .ok (.isub, 1) := by decide +kernel
theorem dX7_keep_52 : decode cX7_keep 52 = .ok (.ireturn, 1) := by decide +kernel
theorem dX7_isomorphic_0 : decode cX7_isomorphic 0 = .ok (.aload_n 0, 1) := by decide +kernel
theorem dX7_isomorphic_1 : decode cX7_isomorphic 1 = .ok (.iload_n 1, 1) := by decide +kernel
theorem dX7_isomorphic_2 : decode cX7_isomorphic 2 = .ok (.invokevirtual 165, 3) := by decide +kernel
theorem dX7_isomorphic_5 : decode cX7_isomorphic 5 = .ok (.astore_n 2, 1) := by decide +kernel
theorem dX7_isomorphic_6 : decode cX7_isomorphic 6 = .ok (.aload_n 2, 1) := by decide +kernel
theorem dX7_isomorphic_7 : decode cX7_isomorphic 7 = .ok (.ifnonnull 5, 3) := by decide +kernel
theorem dX7_isomorphic_10 : decode cX7_isomorphic 10 = .ok (.iconst (-1), 1) := by decide +kernel
theorem dX7_isomorphic_11 : decode cX7_isomorphic 11 = .ok (.ireturn, 1) := by decide +kernel
theorem dX7_isomorphic_12 : decode cX7_isomorphic 12 = .ok (.aload_n 0, 1) := by decide +kernel
theorem dX7_isomorphic_13 : decode cX7_isomorphic 13 = .ok (.aload_n 2, 1) := by decide +kernel
theorem dX7_isomorphic_14 : decode cX7_isomorphic 14 = .ok (.invokevirtual 169, 3) := by decide +kernel
theorem dX7_isomorphic_17 : decode cX7_isomorphic 17 = .ok (.ifCond .eq 7, 3) := by decide +kernel
theorem dX7_isomorphic_20 : decode cX7_isomorphic 20 = .ok (.iconst 1, 1) := by decide +kernel
theorem dX7_isomorphic_21 : decode cX7_isomorphic 21 = .ok (.goto 4, 3) := by decide +kernel
theorem dX7_isomorphic_24 : decode cX7_isomorphic 24 = .ok (.iconst 0, 1) := by decide +kernel
theorem dX7_isomorphic_25 : decode cX7_isomorphic 25 = .ok (.ireturn, 1) := by decide +kernel
theorem dX7_ways_0 : decode cX7_ways 0 = .ok (.aload_n 0, 1) := by decide +kernel
theorem dX7_ways_1 : decode cX7_ways 1 = .ok (.iload_n 1, 1) := by decide +kernel
theorem dX7_ways_2 : decode cX7_ways 2 = .ok (.invokevirtual 165, 3) := by decide +kernel
theorem dX7_ways_5 : decode cX7_ways 5 = .ok (.astore_n 2, 1) := by decide +kernel
theorem dX7_ways_6 : decode cX7_ways 6 = .ok (.aload_n 2, 1) := by decide +kernel
theorem dX7_ways_7 : decode cX7_ways 7 = .ok (.ifnonnull 5, 3) := by decide +kernel
theorem dX7_ways_10 : decode cX7_ways 10 = .ok (.iconst (-1), 1) := by decide +kernel
theorem dX7_ways_11 : decode cX7_ways 11 = .ok (.ireturn, 1) := by decide +kernel
theorem dX7_ways_12 : decode cX7_ways 12 = .ok (.aload_n 0, 1) := by decide +kernel
theorem dX7_ways_13 : decode cX7_ways 13 = .ok (.aload_n 2, 1) := by decide +kernel
theorem dX7_ways_14 : decode cX7_ways 14 = .ok (.invokevirtual 169, 3) := by decide +kernel
theorem dX7_ways_17 : decode cX7_ways 17 = .ok (.ifCond .eq 17, 3) := by decide +kernel
theorem dX7_ways_20 : decode cX7_ways 20 = .ok (.aload_n 0, 1) := by decide +kernel
theorem dX7_ways_21 : decode cX7_ways 21 = .ok (.getfield 19, 3) := by decide +kernel
theorem dX7_ways_24 : decode cX7_ways 24 = .ok (.aload_n 0, 1) := by decide +kernel
theorem dX7_ways_25 : decode cX7_ways 25 = .ok (.getfield 48, 3) := by decide +kernel
theorem dX7_ways_28 : decode cX7_ways 28 = .ok (.invokevirtual 114, 3) := by decide +kernel
theorem dX7_ways_31 : decode cX7_ways 31 = .ok (.goto 4, 3) := by decide +kernel
theorem dX7_ways_34 : decode cX7_ways 34 = .ok (.iconst 0, 1) := by decide +kernel
theorem dX7_ways_35 : decode cX7_ways 35 = .ok (.ireturn, 1) := by decide +kernel
theorem dX7_equal_0 : decode cX7_equal 0 = .ok (.aload_n 0, 1) := by decide +kernel
theorem dX7_equal_1 : decode cX7_equal 1 = .ok (.iload_n 1, 1) := by decide +kernel
theorem dX7_equal_2 : decode cX7_equal 2 = .ok (.invokevirtual 165, 3) := by decide +kernel
theorem dX7_equal_5 : decode cX7_equal 5 = .ok (.astore_n 2, 1) := by decide +kernel
theorem dX7_equal_6 : decode cX7_equal 6 = .ok (.aload_n 2, 1) := by decide +kernel
theorem dX7_equal_7 : decode cX7_equal 7 = .ok (.ifnonnull 5, 3) := by decide +kernel
theorem dX7_equal_10 : decode cX7_equal 10 = .ok (.iconst (-1), 1) := by decide +kernel
theorem dX7_equal_11 : decode cX7_equal 11 = .ok (.ireturn, 1) := by decide +kernel
theorem dX7_equal_12 : decode cX7_equal 12 = .ok (.aload_n 0, 1) := by decide +kernel
theorem dX7_equal_13 : decode cX7_equal 13 = .ok (.getfield 48, 3) := by decide +kernel
theorem dX7_equal_16 : decode cX7_equal 16 = .ok (.aload_n 2, 1) := by decide +kernel
theorem dX7_equal_17 : decode cX7_equal 17 = .ok (.invokevirtual 173, 3) := by decide +kernel
theorem dX7_equal_20 : decode cX7_equal 20 = .ok (.ifCond .eq 31, 3) := by decide +kernel
theorem dX7_equal_23 : decode cX7_equal 23 = .ok (.aload_n 0, 1) := by decide +kernel
theorem dX7_equal_24 : decode cX7_equal 24 = .ok (.getfield 48, 3) := by decide +kernel
theorem dX7_equal_27 : decode cX7_equal 27 = .ok (.getfield 121, 3) := by decide +kernel
theorem dX7_equal_30 : decode cX7_equal 30 = .ok (.aload_n 2, 1) := by decide +kernel
theorem dX7_equal_31 : decode cX7_equal 31 = .ok (.getfield 121, 3) := by decide +kernel
theorem dX7_equal_34 : decode cX7_equal 34 = .ok (.aload_n 0, 1) := by decide +kernel
theorem dX7_equal_35 : decode cX7_equal 35 = .ok (.getfield 48, 3) := by decide +kernel
theorem dX7_equal_38 : decode cX7_equal 38 = .ok (.getfield 71, 3) := by decide +kernel
theorem dX7_equal_41 : decode cX7_equal 41 = .ok (.invokestatic 176, 3) := by decide +kernel
theorem dX7_equal_44 : decode cX7_equal 44 = .ok (.ifCond .eq 7, 3) := by decide +kernel
theorem dX7_equal_47 : decode cX7_equal 47 = .ok (.iconst 1, 1) := by decide +kernel
theorem dX7_equal_48 : decode cX7_equal 48 = .ok (.goto 4, 3) := by decide +kernel
theorem dX7_equal_51 : decode cX7_equal 51 = .ok (.iconst 0, 1) := by decide +kernel
theorem dX7_equal_52 : decode cX7_equal 52 = .ok (.ireturn, 1) := by decide +kernel
theorem dX7_triples_0 : decode cX7_triples 0 = .ok (.aload_n 0, 1) := by decide +kernel
theorem dX7_triples_1 : decode cX7_triples 1 = .ok (.getfield 48, 3) := by decide +kernel
theorem dX7_triples_4 : decode cX7_triples 4 = .ok (.getfield 71, 3) := by decide +kernel
theorem dX7_triples_7 : decode cX7_triples 7 = .ok (.ireturn, 1) := by decide +kernel
theorem dX7_blanks_0 : decode cX7_blanks 0 = .ok (.aload_n 0, 1) := by decide +kernel
theorem dX7_blanks_1 : decode cX7_blanks 1 = .ok (.getfield 48, 3) := by decide +kernel
theorem dX7_blanks_4 : decode cX7_blanks 4 = .ok (.getfield 52, 3) := by decide +kernel
theorem dX7_blanks_7 : decode cX7_blanks 7 = .ok (.ireturn, 1) := by decide +kernel
theorem dX7_keptAt_0 : decode cX7_keptAt 0 = .ok (.iload_n 1, 1) := by decide +kernel
theorem dX7_keptAt_1 : decode cX7_keptAt 1 = .ok (.ifCond .lt 11, 3) := by decide +kernel
theorem dX7_keptAt_4 : decode cX7_keptAt 4 = .ok (.iload_n 1, 1) := by decide +kernel
theorem dX7_keptAt_5 : decode cX7_keptAt 5 = .ok (.aload_n 0, 1) := by decide +kernel
theorem dX7_keptAt_6 : decode cX7_keptAt 6 = .ok (.getfield 43, 3) := by decide +kernel
theorem dX7_keptAt_9 : decode cX7_keptAt 9 = .ok (.if_icmp .lt 5, 3) := by decide +kernel
theorem dX7_keptAt_12 : decode cX7_keptAt 12 = .ok (.aconst_null, 1) := by decide +kernel
theorem dX7_keptAt_13 : decode cX7_keptAt 13 = .ok (.areturn, 1) := by decide +kernel
theorem dX7_keptAt_14 : decode cX7_keptAt 14 = .ok (.aload_n 0, 1) := by decide +kernel
theorem dX7_keptAt_15 : decode cX7_keptAt 15 = .ok (.getfield 39, 3) := by decide +kernel
theorem dX7_keptAt_18 : decode cX7_keptAt 18 = .ok (.iload_n 1, 1) := by decide +kernel
theorem dX7_keptAt_19 : decode cX7_keptAt 19 = .ok (.aaload, 1) := by decide +kernel
theorem dX7_keptAt_20 : decode cX7_keptAt 20 = .ok (.areturn, 1) := by decide +kernel
theorem dX7_becomes_0 : decode cX7_becomes 0 = .ok (.aload_n 0, 1) := by decide +kernel
theorem dX7_becomes_1 : decode cX7_becomes 1 = .ok (.getfield 48, 3) := by decide +kernel
theorem dX7_becomes_4 : decode cX7_becomes 4 = .ok (.aload_n 1, 1) := by decide +kernel
theorem dX7_becomes_5 : decode cX7_becomes 5 = .ok (.invokevirtual 173, 3) := by decide +kernel
theorem dX7_becomes_8 : decode cX7_becomes 8 = .ok (.ifCond .ne 5, 3) := by decide +kernel
theorem dX7_becomes_11 : decode cX7_becomes 11 = .ok (.iconst 0, 1) := by decide +kernel
theorem dX7_becomes_12 : decode cX7_becomes 12 = .ok (.ireturn, 1) := by decide +kernel
theorem dX7_becomes_13 : decode cX7_becomes 13 = .ok (.aload_n 0, 1) := by decide +kernel
theorem dX7_becomes_14 : decode cX7_becomes 14 = .ok (.getfield 10, 3) := by decide +kernel
theorem dX7_becomes_17 : decode cX7_becomes 17 = .ok (.aload_n 0, 1) := by decide +kernel
theorem dX7_becomes_18 : decode cX7_becomes 18 = .ok (.getfield 48, 3) := by decide +kernel
theorem dX7_becomes_21 : decode cX7_becomes 21 = .ok (.invokevirtual 81, 3) := by decide +kernel
theorem dX7_becomes_24 : decode cX7_becomes 24 = .ok (.aload_n 0, 1) := by decide +kernel
theorem dX7_becomes_25 : decode cX7_becomes 25 = .ok (.getfield 10, 3) := by decide +kernel
theorem dX7_becomes_28 : decode cX7_becomes 28 = .ok (.aload_n 1, 1) := by decide +kernel
theorem dX7_becomes_29 : decode cX7_becomes 29 = .ok (.invokevirtual 81, 3) := by decide +kernel
theorem dX7_becomes_32 : decode cX7_becomes 32 = .ok (.aload_n 0, 1) := by decide +kernel
theorem dX7_becomes_33 : decode cX7_becomes 33 = .ok (.getfield 48, 3) := by decide +kernel
theorem dX7_becomes_36 : decode cX7_becomes 36 = .ok (.getfield 85, 3) := by decide +kernel
theorem dX7_becomes_39 : decode cX7_becomes 39 = .ok (.aload_n 1, 1) := by decide +kernel
theorem dX7_becomes_40 : decode cX7_becomes 40 = .ok (.getfield 85, 3) := by decide +kernel
theorem dX7_becomes_43 : decode cX7_becomes 43 = .ok (.aload_n 0, 1) := by decide +kernel
theorem dX7_becomes_44 : decode cX7_becomes 44 = .ok (.getfield 48, 3) := by decide +kernel
theorem dX7_becomes_47 : decode cX7_becomes 47 = .ok (.getfield 52, 3) := by decide +kernel
theorem dX7_becomes_50 : decode cX7_becomes 50 = .ok (.invokevirtual 180, 3) := by decide +kernel
theorem dX7_becomes_53 : decode cX7_becomes 53 = .ok (.ifCond .ne 5, 3) := by decide +kernel
theorem dX7_becomes_56 : decode cX7_becomes 56 = .ok (.iconst 0, 1) := by decide +kernel
theorem dX7_becomes_57 : decode cX7_becomes 57 = .ok (.ireturn, 1) := by decide +kernel
theorem dX7_becomes_58 : decode cX7_becomes 58 = .ok (.aload_n 0, 1) := by decide +kernel
theorem dX7_becomes_59 : decode cX7_becomes 59 = .ok (.getfield 19, 3) := by decide +kernel
theorem dX7_becomes_62 : decode cX7_becomes 62 = .ok (.aload_n 0, 1) := by decide +kernel
theorem dX7_becomes_63 : decode cX7_becomes 63 = .ok (.getfield 48, 3) := by decide +kernel
theorem dX7_becomes_66 : decode cX7_becomes 66 = .ok (.aload_n 1, 1) := by decide +kernel
theorem dX7_becomes_67 : decode cX7_becomes 67 = .ok (.invokevirtual 102, 3) := by decide +kernel
theorem dX7_becomes_70 : decode cX7_becomes 70 = .ok (.ireturn, 1) := by decide +kernel
theorem dX7_keyOf_0 : decode cX7_keyOf 0 = .ok (.iload_n 0, 1) := by decide +kernel
theorem dX7_keyOf_1 : decode cX7_keyOf 1 = .ok (.bipush 8, 2) := by decide +kernel
theorem dX7_keyOf_3 : decode cX7_keyOf 3 = .ok (.iadd, 1) := by decide +kernel
theorem dX7_keyOf_4 : decode cX7_keyOf 4 = .ok (.istore_n 3, 1) := by decide +kernel
theorem dX7_keyOf_5 : decode cX7_keyOf 5 = .ok (.iload_n 1, 1) := by decide +kernel
theorem dX7_keyOf_6 : decode cX7_keyOf 6 = .ok (.bipush 8, 2) := by decide +kernel
theorem dX7_keyOf_8 : decode cX7_keyOf 8 = .ok (.iadd, 1) := by decide +kernel
theorem dX7_keyOf_9 : decode cX7_keyOf 9 = .ok (.istore 4, 2) := by decide +kernel
theorem dX7_keyOf_11 : decode cX7_keyOf 11 = .ok (.iload_n 2, 1) := by decide +kernel
theorem dX7_keyOf_12 : decode cX7_keyOf 12 = .ok (.bipush 8, 2) := by decide +kernel
theorem dX7_keyOf_14 : decode cX7_keyOf 14 = .ok (.iadd, 1) := by decide +kernel
theorem dX7_keyOf_15 : decode cX7_keyOf 15 = .ok (.istore 5, 2) := by decide +kernel
theorem dX7_keyOf_17 : decode cX7_keyOf 17 = .ok (.iload_n 3, 1) := by decide +kernel
theorem dX7_keyOf_18 : decode cX7_keyOf 18 = .ok (.bipush 20, 2) := by decide +kernel
theorem dX7_keyOf_20 : decode cX7_keyOf 20 = .ok (.ishl, 1) := by decide +kernel
theorem dX7_keyOf_21 : decode cX7_keyOf 21 = .ok (.iload 4, 2) := by decide +kernel
theorem dX7_keyOf_23 : decode cX7_keyOf 23 = .ok (.bipush 10, 2) := by decide +kernel
theorem dX7_keyOf_25 : decode cX7_keyOf 25 = .ok (.ishl, 1) := by decide +kernel
theorem dX7_keyOf_26 : decode cX7_keyOf 26 = .ok (.ior, 1) := by decide +kernel
theorem dX7_keyOf_27 : decode cX7_keyOf 27 = .ok (.iload 5, 2) := by decide +kernel
theorem dX7_keyOf_29 : decode cX7_keyOf 29 = .ok (.ior, 1) := by decide +kernel
theorem dX7_keyOf_30 : decode cX7_keyOf 30 = .ok (.ireturn, 1) := by decide +kernel
theorem dX7_partAt_0 : decode cX7_partAt 0 = .ok (.iload_n 0, 1) := by decide +kernel
theorem dX7_partAt_1 : decode cX7_partAt 1 = .ok (.bipush 10, 2) := by decide +kernel
theorem dX7_partAt_3 : decode cX7_partAt 3 = .ok (.iconst 2, 1) := by decide +kernel
theorem dX7_partAt_4 : decode cX7_partAt 4 = .ok (.iload_n 1, 1) := by decide +kernel
theorem dX7_partAt_5 : decode cX7_partAt 5 = .ok (.isub, 1) := by decide +kernel
theorem dX7_partAt_6 : decode cX7_partAt 6 = .ok (.imul, 1) := by decide +kernel
theorem dX7_partAt_7 : decode cX7_partAt 7 = .ok (.ishr, 1) := by decide +kernel
theorem dX7_partAt_8 : decode cX7_partAt 8 = .ok (.sipush 1023, 3) := by decide +kernel
theorem dX7_partAt_11 : decode cX7_partAt 11 = .ok (.iand, 1) := by decide +kernel
theorem dX7_partAt_12 : decode cX7_partAt 12 = .ok (.ireturn, 1) := by decide +kernel
theorem dX7_pointAt_0 : decode cX7_pointAt 0 = .ok (.iload_n 0, 1) := by decide +kernel
theorem dX7_pointAt_1 : decode cX7_pointAt 1 = .ok (.iload_n 1, 1) := by decide +kernel
theorem dX7_pointAt_2 : decode cX7_pointAt 2 = .ok (.invokestatic 184, 3) := by decide +kernel
theorem dX7_pointAt_5 : decode cX7_pointAt 5 = .ok (.bipush 8, 2) := by decide +kernel
theorem dX7_pointAt_7 : decode cX7_pointAt 7 = .ok (.isub, 1) := by decide +kernel
theorem dX7_pointAt_8 : decode cX7_pointAt 8 = .ok (.ireturn, 1) := by decide +kernel
theorem dX7_renumbered_0 : decode cX7_renumbered 0 = .ok (.iconst 0, 1) := by decide +kernel
theorem dX7_renumbered_1 : decode cX7_renumbered 1 = .ok (.istore_n 2, 1) := by decide +kernel
theorem dX7_renumbered_2 : decode cX7_renumbered 2 = .ok (.bipush 20, 2) := by decide +kernel
theorem dX7_renumbered_4 : decode cX7_renumbered 4 = .ok (.istore_n 3, 1) := by decide +kernel
theorem dX7_renumbered_5 : decode cX7_renumbered 5 = .ok (.iload_n 3, 1) := by decide +kernel
theorem dX7_renumbered_6 : decode cX7_renumbered 6 = .ok (.ifCond .lt 45, 3) := by decide +kernel
theorem dX7_renumbered_9 : decode cX7_renumbered 9 = .ok (.iload_n 0, 1) := by decide +kernel
theorem dX7_renumbered_10 : decode cX7_renumbered 10 = .ok (.iload_n 3, 1) := by decide +kernel
theorem dX7_renumbered_11 : decode cX7_renumbered 11 = .ok (.ishr, 1) := by decide +kernel
theorem dX7_renumbered_12 : decode cX7_renumbered 12 = .ok (.sipush 1023, 3) := by decide +kernel
theorem dX7_renumbered_15 : decode cX7_renumbered 15 = .ok (.iand, 1) := by decide +kernel
theorem dX7_renumbered_16 : decode cX7_renumbered 16 = .ok (.istore 4, 2) := by decide +kernel
theorem dX7_renumbered_18 : decode cX7_renumbered 18 = .ok (.iload 4, 2) := by decide +kernel
theorem dX7_renumbered_20 : decode cX7_renumbered 20 = .ok (.bipush 8, 2) := by decide +kernel
theorem dX7_renumbered_22 : decode cX7_renumbered 22 = .ok (.if_icmp .ge 15, 3) := by decide +kernel
theorem dX7_renumbered_25 : decode cX7_renumbered 25 = .ok (.bipush 8, 2) := by decide +kernel
theorem dX7_renumbered_27 : decode cX7_renumbered 27 = .ok (.aload_n 1, 1) := by decide +kernel
theorem dX7_renumbered_28 : decode cX7_renumbered 28 = .ok (.bipush 7, 2) := by decide +kernel
theorem dX7_renumbered_30 : decode cX7_renumbered 30 = .ok (.iload 4, 2) := by decide +kernel
theorem dX7_renumbered_32 : decode cX7_renumbered 32 = .ok (.isub, 1) := by decide +kernel
theorem dX7_renumbered_33 : decode cX7_renumbered 33 = .ok (.iaload, 1) := by decide +kernel
theorem dX7_renumbered_34 : decode cX7_renumbered 34 = .ok (.isub, 1) := by decide +kernel
theorem dX7_renumbered_35 : decode cX7_renumbered 35 = .ok (.istore 4, 2) := by decide +kernel
theorem dX7_renumbered_37 : decode cX7_renumbered 37 = .ok (.iload_n 2, 1) := by decide +kernel
theorem dX7_renumbered_38 : decode cX7_renumbered 38 = .ok (.bipush 10, 2) := by decide +kernel
theorem dX7_renumbered_40 : decode cX7_renumbered 40 = .ok (.ishl, 1) := by decide +kernel
theorem dX7_renumbered_41 : decode cX7_renumbered 41 = .ok (.iload 4, 2) := by decide +kernel
theorem dX7_renumbered_43 : decode cX7_renumbered 43 = .ok (.ior, 1) := by decide +kernel
theorem dX7_renumbered_44 : decode cX7_renumbered 44 = .ok (.istore_n 2, 1) := by decide +kernel
theorem dX7_renumbered_45 : decode cX7_renumbered 45 = .ok (.iinc 3 (-10), 3) := by decide +kernel
theorem dX7_renumbered_48 : decode cX7_renumbered 48 = .ok (.goto (-43), 3) := by decide +kernel
theorem dX7_renumbered_51 : decode cX7_renumbered 51 = .ok (.iload_n 2, 1) := by decide +kernel
theorem dX7_renumbered_52 : decode cX7_renumbered 52 = .ok (.ireturn, 1) := by decide +kernel
theorem dX7_sort_0 : decode cX7_sort 0 = .ok (.iconst 1, 1) := by decide +kernel
theorem dX7_sort_1 : decode cX7_sort 1 = .ok (.istore_n 2, 1) := by decide +kernel
theorem dX7_sort_2 : decode cX7_sort 2 = .ok (.iload_n 2, 1) := by decide +kernel
theorem dX7_sort_3 : decode cX7_sort 3 = .ok (.iload_n 1, 1) := by decide +kernel
theorem dX7_sort_4 : decode cX7_sort 4 = .ok (.if_icmp .ge 52, 3) := by decide +kernel
theorem dX7_sort_7 : decode cX7_sort 7 = .ok (.aload_n 0, 1) := by decide +kernel
theorem dX7_sort_8 : decode cX7_sort 8 = .ok (.iload_n 2, 1) := by decide +kernel
theorem dX7_sort_9 : decode cX7_sort 9 = .ok (.iaload, 1) := by decide +kernel
theorem dX7_sort_10 : decode cX7_sort 10 = .ok (.istore_n 3, 1) := by decide +kernel
theorem dX7_sort_11 : decode cX7_sort 11 = .ok (.iload_n 2, 1) := by decide +kernel
theorem dX7_sort_12 : decode cX7_sort 12 = .ok (.istore 4, 2) := by decide +kernel
theorem dX7_sort_14 : decode cX7_sort 14 = .ok (.iload 4, 2) := by decide +kernel
theorem dX7_sort_16 : decode cX7_sort 16 = .ok (.ifCond .le 29, 3) := by decide +kernel
theorem dX7_sort_19 : decode cX7_sort 19 = .ok (.aload_n 0, 1) := by decide +kernel
theorem dX7_sort_20 : decode cX7_sort 20 = .ok (.iload 4, 2) := by decide +kernel
theorem dX7_sort_22 : decode cX7_sort 22 = .ok (.iconst 1, 1) := by decide +kernel
theorem dX7_sort_23 : decode cX7_sort 23 = .ok (.isub, 1) := by decide +kernel
theorem dX7_sort_24 : decode cX7_sort 24 = .ok (.iaload, 1) := by decide +kernel
theorem dX7_sort_25 : decode cX7_sort 25 = .ok (.iload_n 3, 1) := by decide +kernel
theorem dX7_sort_26 : decode cX7_sort 26 = .ok (.if_icmp .le 19, 3) := by decide +kernel
theorem dX7_sort_29 : decode cX7_sort 29 = .ok (.aload_n 0, 1) := by decide +kernel
theorem dX7_sort_30 : decode cX7_sort 30 = .ok (.iload 4, 2) := by decide +kernel
theorem dX7_sort_32 : decode cX7_sort 32 = .ok (.aload_n 0, 1) := by decide +kernel
theorem dX7_sort_33 : decode cX7_sort 33 = .ok (.iload 4, 2) := by decide +kernel
theorem dX7_sort_35 : decode cX7_sort 35 = .ok (.iconst 1, 1) := by decide +kernel
theorem dX7_sort_36 : decode cX7_sort 36 = .ok (.isub, 1) := by decide +kernel
theorem dX7_sort_37 : decode cX7_sort 37 = .ok (.iaload, 1) := by decide +kernel
theorem dX7_sort_38 : decode cX7_sort 38 = .ok (.iastore, 1) := by decide +kernel
theorem dX7_sort_39 : decode cX7_sort 39 = .ok (.iinc 4 (-1), 3) := by decide +kernel
theorem dX7_sort_42 : decode cX7_sort 42 = .ok (.goto (-28), 3) := by decide +kernel
theorem dX7_sort_45 : decode cX7_sort 45 = .ok (.aload_n 0, 1) := by decide +kernel
theorem dX7_sort_46 : decode cX7_sort 46 = .ok (.iload 4, 2) := by decide +kernel
theorem dX7_sort_48 : decode cX7_sort 48 = .ok (.iload_n 3, 1) := by decide +kernel
theorem dX7_sort_49 : decode cX7_sort 49 = .ok (.iastore, 1) := by decide +kernel
theorem dX7_sort_50 : decode cX7_sort 50 = .ok (.iinc 2 1, 3) := by decide +kernel
theorem dX7_sort_53 : decode cX7_sort 53 = .ok (.goto (-51), 3) := by decide +kernel
theorem dX7_sort_56 : decode cX7_sort 56 = .ok (.return_, 1) := by decide +kernel
theorem dX7_placeFor_0 : decode cX7_placeFor 0 = .ok (.iconst 0, 1) := by decide +kernel
theorem dX7_placeFor_1 : decode cX7_placeFor 1 = .ok (.istore_n 3, 1) := by decide +kernel
theorem dX7_placeFor_2 : decode cX7_placeFor 2 = .ok (.iload_n 3, 1) := by decide +kernel
theorem dX7_placeFor_3 : decode cX7_placeFor 3 = .ok (.iload_n 2, 1) := by decide +kernel
theorem dX7_placeFor_4 : decode cX7_placeFor 4 = .ok (.if_icmp .ge 18, 3) := by decide +kernel
theorem dX7_placeFor_7 : decode cX7_placeFor 7 = .ok (.aload_n 1, 1) := by decide +kernel
theorem dX7_placeFor_8 : decode cX7_placeFor 8 = .ok (.iload_n 3, 1) := by decide +kernel
theorem dX7_placeFor_9 : decode cX7_placeFor 9 = .ok (.iaload, 1) := by decide +kernel
theorem dX7_placeFor_10 : decode cX7_placeFor 10 = .ok (.iload_n 0, 1) := by decide +kernel
theorem dX7_placeFor_11 : decode cX7_placeFor 11 = .ok (.if_icmp .lt 5, 3) := by decide +kernel
theorem dX7_placeFor_14 : decode cX7_placeFor 14 = .ok (.iload_n 3, 1) := by decide +kernel
theorem dX7_placeFor_15 : decode cX7_placeFor 15 = .ok (.ireturn, 1) := by decide +kernel
theorem dX7_placeFor_16 : decode cX7_placeFor 16 = .ok (.iinc 3 1, 3) := by decide +kernel
theorem dX7_placeFor_19 : decode cX7_placeFor 19 = .ok (.goto (-17), 3) := by decide +kernel
theorem dX7_placeFor_22 : decode cX7_placeFor 22 = .ok (.iload_n 2, 1) := by decide +kernel
theorem dX7_placeFor_23 : decode cX7_placeFor 23 = .ok (.ireturn, 1) := by decide +kernel
theorem dX7_isIn_0 : decode cX7_isIn 0 = .ok (.iconst 0, 1) := by decide +kernel
theorem dX7_isIn_1 : decode cX7_isIn 1 = .ok (.istore_n 3, 1) := by decide +kernel
theorem dX7_isIn_2 : decode cX7_isIn 2 = .ok (.iload_n 3, 1) := by decide +kernel
theorem dX7_isIn_3 : decode cX7_isIn 3 = .ok (.iload_n 2, 1) := by decide +kernel
theorem dX7_isIn_4 : decode cX7_isIn 4 = .ok (.if_icmp .ge 29, 3) := by decide +kernel
theorem dX7_isIn_7 : decode cX7_isIn 7 = .ok (.aload_n 1, 1) := by decide +kernel
theorem dX7_isIn_8 : decode cX7_isIn 8 = .ok (.iload_n 3, 1) := by decide +kernel
theorem dX7_isIn_9 : decode cX7_isIn 9 = .ok (.iaload, 1) := by decide +kernel
theorem dX7_isIn_10 : decode cX7_isIn 10 = .ok (.iload_n 0, 1) := by decide +kernel
theorem dX7_isIn_11 : decode cX7_isIn 11 = .ok (.if_icmp .lt 16, 3) := by decide +kernel
theorem dX7_isIn_14 : decode cX7_isIn 14 = .ok (.aload_n 1, 1) := by decide +kernel
theorem dX7_isIn_15 : decode cX7_isIn 15 = .ok (.iload_n 3, 1) := by decide +kernel
theorem dX7_isIn_16 : decode cX7_isIn 16 = .ok (.iaload, 1) := by decide +kernel
theorem dX7_isIn_17 : decode cX7_isIn 17 = .ok (.iload_n 0, 1) := by decide +kernel
theorem dX7_isIn_18 : decode cX7_isIn 18 = .ok (.if_icmp .ne 7, 3) := by decide +kernel
theorem dX7_isIn_21 : decode cX7_isIn 21 = .ok (.iconst 1, 1) := by decide +kernel
theorem dX7_isIn_22 : decode cX7_isIn 22 = .ok (.goto 4, 3) := by decide +kernel
theorem dX7_isIn_25 : decode cX7_isIn 25 = .ok (.iconst 0, 1) := by decide +kernel
theorem dX7_isIn_26 : decode cX7_isIn 26 = .ok (.ireturn, 1) := by decide +kernel
theorem dX7_isIn_27 : decode cX7_isIn 27 = .ok (.iinc 3 1, 3) := by decide +kernel
theorem dX7_isIn_30 : decode cX7_isIn 30 = .ok (.goto (-28), 3) := by decide +kernel
theorem dX7_isIn_33 : decode cX7_isIn 33 = .ok (.iconst 0, 1) := by decide +kernel
theorem dX7_isIn_34 : decode cX7_isIn 34 = .ok (.ireturn, 1) := by decide +kernel
theorem dX7_sameRows_0 : decode cX7_sameRows 0 = .ok (.iconst 0, 1) := by decide +kernel
theorem dX7_sameRows_1 : decode cX7_sameRows 1 = .ok (.istore_n 3, 1) := by decide +kernel
theorem dX7_sameRows_2 : decode cX7_sameRows 2 = .ok (.iload_n 3, 1) := by decide +kernel
theorem dX7_sameRows_3 : decode cX7_sameRows 3 = .ok (.iload_n 2, 1) := by decide +kernel
theorem dX7_sameRows_4 : decode cX7_sameRows 4 = .ok (.if_icmp .ge 20, 3) := by decide +kernel
theorem dX7_sameRows_7 : decode cX7_sameRows 7 = .ok (.aload_n 0, 1) := by decide +kernel
theorem dX7_sameRows_8 : decode cX7_sameRows 8 = .ok (.iload_n 3, 1) := by decide +kernel
theorem dX7_sameRows_9 : decode cX7_sameRows 9 = .ok (.iaload, 1) := by decide +kernel
theorem dX7_sameRows_10 : decode cX7_sameRows 10 = .ok (.aload_n 1, 1) := by decide +kernel
theorem dX7_sameRows_11 : decode cX7_sameRows 11 = .ok (.iload_n 3, 1) := by decide +kernel
theorem dX7_sameRows_12 : decode cX7_sameRows 12 = .ok (.iaload, 1) := by decide +kernel
theorem dX7_sameRows_13 : decode cX7_sameRows 13 = .ok (.if_icmp .eq 5, 3) := by decide +kernel
theorem dX7_sameRows_16 : decode cX7_sameRows 16 = .ok (.iconst 0, 1) := by decide +kernel
theorem dX7_sameRows_17 : decode cX7_sameRows 17 = .ok (.ireturn, 1) := by decide +kernel
theorem dX7_sameRows_18 : decode cX7_sameRows 18 = .ok (.iinc 3 1, 3) := by decide +kernel
theorem dX7_sameRows_21 : decode cX7_sameRows 21 = .ok (.goto (-19), 3) := by decide +kernel
theorem dX7_sameRows_24 : decode cX7_sameRows 24 = .ok (.iconst 1, 1) := by decide +kernel
theorem dX7_sameRows_25 : decode cX7_sameRows 25 = .ok (.ireturn, 1) := by decide +kernel
theorem dL_octet_0 : decode cL_octet 0 = .ok (.aload_n 2, 1) := by decide +kernel
theorem dL_octet_1 : decode cL_octet 1 = .ok (.iconst 0, 1) := by decide +kernel
theorem dL_octet_2 : decode cL_octet 2 = .ok (.aload_n 0, 1) := by decide +kernel
theorem dL_octet_3 : decode cL_octet 3 = .ok (.iload_n 1, 1) := by decide +kernel
theorem dL_octet_4 : decode cL_octet 4 = .ok (.invokevirtual 7, 3) := by decide +kernel
theorem dL_octet_7 : decode cL_octet 7 = .ok (.i2l, 1) := by decide +kernel
theorem dL_octet_8 : decode cL_octet 8 = .ok (.lastore, 1) := by decide +kernel
theorem dL_octet_9 : decode cL_octet 9 = .ok (.goto 6, 3) := by decide +kernel
theorem dL_octet_12 : decode cL_octet 12 = .ok (.astore_n 3, 1) := by decide +kernel
theorem dL_octet_13 : decode cL_octet 13 = .ok (.iconst 1, 1) := by decide +kernel
theorem dL_octet_14 : decode cL_octet 14 = .ok (.ireturn, 1) := by decide +kernel
theorem dL_octet_15 : decode cL_octet 15 = .ok (.iconst 0, 1) := by decide +kernel
theorem dL_octet_16 : decode cL_octet 16 = .ok (.ireturn, 1) := by decide +kernel
theorem dL_law_0 : decode cL_law 0 = .ok (.new 8, 3) := by decide +kernel
theorem dL_law_3 : decode cL_law 3 = .ok (.dup, 1) := by decide +kernel
theorem dL_law_4 : decode cL_law 4 = .ok (.invokespecial 15, 3) := by decide +kernel
theorem dL_law_7 : decode cL_law 7 = .ok (.astore_n 1, 1) := by decide +kernel
theorem dL_law_8 : decode cL_law 8 = .ok (.new 16, 3) := by decide +kernel
theorem dL_law_11 : decode cL_law 11 = .ok (.dup, 1) := by decide +kernel
theorem dL_law_12 : decode cL_law 12 = .ok (.invokespecial 18, 3) := by decide +kernel
theorem dL_law_15 : decode cL_law 15 = .ok (.astore_n 2, 1) := by decide +kernel
theorem dL_law_16 : decode cL_law 16 = .ok (.iconst 1, 1) := by decide +kernel
theorem dL_law_17 : decode cL_law 17 = .ok (.newarray .long, 2) := by decide +kernel
theorem dL_law_19 : decode cL_law 19 = .ok (.astore_n 3, 1) := by decide +kernel
theorem dL_law_20 : decode cL_law 20 = .ok (.iconst 0, 1) := by decide +kernel
theorem dL_law_21 : decode cL_law 21 = .ok (.istore 4, 2) := by decide +kernel
theorem dL_law_23 : decode cL_law 23 = .ok (.iload 4, 2) := by decide +kernel
theorem dL_law_25 : decode cL_law 25 = .ok (.aload_n 0, 1) := by decide +kernel
theorem dL_law_26 : decode cL_law 26 = .ok (.arraylength, 1) := by decide +kernel
theorem dL_law_27 : decode cL_law 27 = .ok (.iconst 4, 1) := by decide +kernel
theorem dL_law_28 : decode cL_law 28 = .ok (.isub, 1) := by decide +kernel
theorem dL_law_29 : decode cL_law 29 = .ok (.if_icmp .gt 580, 3) := by decide +kernel
theorem dL_law_32 : decode cL_law 32 = .ok (.aload_n 0, 1) := by decide +kernel
theorem dL_law_33 : decode cL_law 33 = .ok (.iload 4, 2) := by decide +kernel
theorem dL_law_35 : decode cL_law 35 = .ok (.iaload, 1) := by decide +kernel
theorem dL_law_36 : decode cL_law 36 = .ok (.bipush 15, 2) := by decide +kernel
theorem dL_law_38 : decode cL_law 38 = .ok (.iand, 1) := by decide +kernel
theorem dL_law_39 : decode cL_law 39 = .ok (.tableswitch 564 0 15 #[77, 90, 139, 188, 245, 270, 307, 363, 400, 413, 450, 463, 488, 513, 538, 551], 77) := by decide +kernel
theorem dL_law_116 : decode cL_law 116 = .ok (.aload_n 1, 1) := by decide +kernel
theorem dL_law_117 : decode cL_law 117 = .ok (.invokevirtual 19, 3) := by decide +kernel
theorem dL_law_120 : decode cL_law 120 = .ok (.aload_n 2, 1) := by decide +kernel
theorem dL_law_121 : decode cL_law 121 = .ok (.invokevirtual 23, 3) := by decide +kernel
theorem dL_law_124 : decode cL_law 124 = .ok (.if_icmp .eq 479, 3) := by decide +kernel
theorem dL_law_127 : decode cL_law 127 = .ok (.iconst 0, 1) := by decide +kernel
theorem dL_law_128 : decode cL_law 128 = .ok (.ireturn, 1) := by decide +kernel
theorem dL_law_129 : decode cL_law 129 = .ok (.aload_n 1, 1) := by decide +kernel
theorem dL_law_130 : decode cL_law 130 = .ok (.aload_n 0, 1) := by decide +kernel
theorem dL_law_131 : decode cL_law 131 = .ok (.iload 4, 2) := by decide +kernel
theorem dL_law_133 : decode cL_law 133 = .ok (.iconst 1, 1) := by decide +kernel
theorem dL_law_134 : decode cL_law 134 = .ok (.iadd, 1) := by decide +kernel
theorem dL_law_135 : decode cL_law 135 = .ok (.iaload, 1) := by decide +kernel
theorem dL_law_136 : decode cL_law 136 = .ok (.aload_n 0, 1) := by decide +kernel
theorem dL_law_137 : decode cL_law 137 = .ok (.iload 4, 2) := by decide +kernel
theorem dL_law_139 : decode cL_law 139 = .ok (.iconst 2, 1) := by decide +kernel
theorem dL_law_140 : decode cL_law 140 = .ok (.iadd, 1) := by decide +kernel
theorem dL_law_141 : decode cL_law 141 = .ok (.iaload, 1) := by decide +kernel
theorem dL_law_142 : decode cL_law 142 = .ok (.aload_n 0, 1) := by decide +kernel
theorem dL_law_143 : decode cL_law 143 = .ok (.iload 4, 2) := by decide +kernel
theorem dL_law_145 : decode cL_law 145 = .ok (.iconst 3, 1) := by decide +kernel
theorem dL_law_146 : decode cL_law 146 = .ok (.iadd, 1) := by decide +kernel
theorem dL_law_147 : decode cL_law 147 = .ok (.iaload, 1) := by decide +kernel
theorem dL_law_148 : decode cL_law 148 = .ok (.invokevirtual 24, 3) := by decide +kernel
theorem dL_law_151 : decode cL_law 151 = .ok (.aload_n 2, 1) := by decide +kernel
theorem dL_law_152 : decode cL_law 152 = .ok (.aload_n 0, 1) := by decide +kernel
theorem dL_law_153 : decode cL_law 153 = .ok (.iload 4, 2) := by decide +kernel
theorem dL_law_155 : decode cL_law 155 = .ok (.iconst 1, 1) := by decide +kernel
theorem dL_law_156 : decode cL_law 156 = .ok (.iadd, 1) := by decide +kernel
theorem dL_law_157 : decode cL_law 157 = .ok (.iaload, 1) := by decide +kernel
theorem dL_law_158 : decode cL_law 158 = .ok (.aload_n 0, 1) := by decide +kernel
theorem dL_law_159 : decode cL_law 159 = .ok (.iload 4, 2) := by decide +kernel
theorem dL_law_161 : decode cL_law 161 = .ok (.iconst 2, 1) := by decide +kernel
theorem dL_law_162 : decode cL_law 162 = .ok (.iadd, 1) := by decide +kernel
theorem dL_law_163 : decode cL_law 163 = .ok (.iaload, 1) := by decide +kernel
theorem dL_law_164 : decode cL_law 164 = .ok (.aload_n 0, 1) := by decide +kernel
theorem dL_law_165 : decode cL_law 165 = .ok (.iload 4, 2) := by decide +kernel
theorem dL_law_167 : decode cL_law 167 = .ok (.iconst 3, 1) := by decide +kernel
theorem dL_law_168 : decode cL_law 168 = .ok (.iadd, 1) := by decide +kernel
theorem dL_law_169 : decode cL_law 169 = .ok (.iaload, 1) := by decide +kernel
theorem dL_law_170 : decode cL_law 170 = .ok (.invokevirtual 28, 3) := by decide +kernel
theorem dL_law_173 : decode cL_law 173 = .ok (.if_icmp .eq 430, 3) := by decide +kernel
theorem dL_law_176 : decode cL_law 176 = .ok (.iconst 0, 1) := by decide +kernel
theorem dL_law_177 : decode cL_law 177 = .ok (.ireturn, 1) := by decide +kernel
theorem dL_law_178 : decode cL_law 178 = .ok (.aload_n 1, 1) := by decide +kernel
theorem dL_law_179 : decode cL_law 179 = .ok (.aload_n 0, 1) := by decide +kernel
theorem dL_law_180 : decode cL_law 180 = .ok (.iload 4, 2) := by decide +kernel
theorem dL_law_182 : decode cL_law 182 = .ok (.iconst 1, 1) := by decide +kernel
theorem dL_law_183 : decode cL_law 183 = .ok (.iadd, 1) := by decide +kernel
theorem dL_law_184 : decode cL_law 184 = .ok (.iaload, 1) := by decide +kernel
theorem dL_law_185 : decode cL_law 185 = .ok (.aload_n 0, 1) := by decide +kernel
theorem dL_law_186 : decode cL_law 186 = .ok (.iload 4, 2) := by decide +kernel
theorem dL_law_188 : decode cL_law 188 = .ok (.iconst 2, 1) := by decide +kernel
theorem dL_law_189 : decode cL_law 189 = .ok (.iadd, 1) := by decide +kernel
theorem dL_law_190 : decode cL_law 190 = .ok (.iaload, 1) := by decide +kernel
theorem dL_law_191 : decode cL_law 191 = .ok (.aload_n 0, 1) := by decide +kernel
theorem dL_law_192 : decode cL_law 192 = .ok (.iload 4, 2) := by decide +kernel
theorem dL_law_194 : decode cL_law 194 = .ok (.iconst 3, 1) := by decide +kernel
theorem dL_law_195 : decode cL_law 195 = .ok (.iadd, 1) := by decide +kernel
theorem dL_law_196 : decode cL_law 196 = .ok (.iaload, 1) := by decide +kernel
theorem dL_law_197 : decode cL_law 197 = .ok (.invokevirtual 29, 3) := by decide +kernel
theorem dL_law_200 : decode cL_law 200 = .ok (.aload_n 2, 1) := by decide +kernel
theorem dL_law_201 : decode cL_law 201 = .ok (.aload_n 0, 1) := by decide +kernel
theorem dL_law_202 : decode cL_law 202 = .ok (.iload 4, 2) := by decide +kernel
theorem dL_law_204 : decode cL_law 204 = .ok (.iconst 1, 1) := by decide +kernel
theorem dL_law_205 : decode cL_law 205 = .ok (.iadd, 1) := by decide +kernel
theorem dL_law_206 : decode cL_law 206 = .ok (.iaload, 1) := by decide +kernel
theorem dL_law_207 : decode cL_law 207 = .ok (.aload_n 0, 1) := by decide +kernel
theorem dL_law_208 : decode cL_law 208 = .ok (.iload 4, 2) := by decide +kernel
theorem dL_law_210 : decode cL_law 210 = .ok (.iconst 2, 1) := by decide +kernel
theorem dL_law_211 : decode cL_law 211 = .ok (.iadd, 1) := by decide +kernel
theorem dL_law_212 : decode cL_law 212 = .ok (.iaload, 1) := by decide +kernel
theorem dL_law_213 : decode cL_law 213 = .ok (.aload_n 0, 1) := by decide +kernel
theorem dL_law_214 : decode cL_law 214 = .ok (.iload 4, 2) := by decide +kernel
theorem dL_law_216 : decode cL_law 216 = .ok (.iconst 3, 1) := by decide +kernel
theorem dL_law_217 : decode cL_law 217 = .ok (.iadd, 1) := by decide +kernel
theorem dL_law_218 : decode cL_law 218 = .ok (.iaload, 1) := by decide +kernel
theorem dL_law_219 : decode cL_law 219 = .ok (.invokevirtual 32, 3) := by decide +kernel
theorem dL_law_222 : decode cL_law 222 = .ok (.if_icmp .eq 381, 3) := by decide +kernel
theorem dL_law_225 : decode cL_law 225 = .ok (.iconst 0, 1) := by decide +kernel
theorem dL_law_226 : decode cL_law 226 = .ok (.ireturn, 1) := by decide +kernel
theorem dL_law_227 : decode cL_law 227 = .ok (.aload_n 1, 1) := by decide +kernel
theorem dL_law_228 : decode cL_law 228 = .ok (.aload_n 0, 1) := by decide +kernel
theorem dL_law_229 : decode cL_law 229 = .ok (.iload 4, 2) := by decide +kernel
theorem dL_law_231 : decode cL_law 231 = .ok (.iconst 1, 1) := by decide +kernel
theorem dL_law_232 : decode cL_law 232 = .ok (.iadd, 1) := by decide +kernel
theorem dL_law_233 : decode cL_law 233 = .ok (.iaload, 1) := by decide +kernel
theorem dL_law_234 : decode cL_law 234 = .ok (.i2l, 1) := by decide +kernel
theorem dL_law_235 : decode cL_law 235 = .ok (.bipush 32, 2) := by decide +kernel
theorem dL_law_237 : decode cL_law 237 = .ok (.lshl, 1) := by decide +kernel
theorem dL_law_238 : decode cL_law 238 = .ok (.aload_n 0, 1) := by decide +kernel
theorem dL_law_239 : decode cL_law 239 = .ok (.iload 4, 2) := by decide +kernel
theorem dL_law_241 : decode cL_law 241 = .ok (.iconst 2, 1) := by decide +kernel
theorem dL_law_242 : decode cL_law 242 = .ok (.iadd, 1) := by decide +kernel
theorem dL_law_243 : decode cL_law 243 = .ok (.iaload, 1) := by decide +kernel
theorem dL_law_244 : decode cL_law 244 = .ok (.i2l, 1) := by decide +kernel
theorem dL_law_245 : decode cL_law 245 = .ok (.ldc2_w 33, 3) := by decide +kernel
theorem dL_law_248 : decode cL_law 248 = .ok (.land, 1) := by decide +kernel
theorem dL_law_249 : decode cL_law 249 = .ok (.lor, 1) := by decide +kernel
theorem dL_law_250 : decode cL_law 250 = .ok (.invokevirtual 35, 3) := by decide +kernel
theorem dL_law_253 : decode cL_law 253 = .ok (.aload_n 2, 1) := by decide +kernel
theorem dL_law_254 : decode cL_law 254 = .ok (.aload_n 0, 1) := by decide +kernel
theorem dL_law_255 : decode cL_law 255 = .ok (.iload 4, 2) := by decide +kernel
theorem dL_law_257 : decode cL_law 257 = .ok (.iconst 1, 1) := by decide +kernel
theorem dL_law_258 : decode cL_law 258 = .ok (.iadd, 1) := by decide +kernel
theorem dL_law_259 : decode cL_law 259 = .ok (.iaload, 1) := by decide +kernel
theorem dL_law_260 : decode cL_law 260 = .ok (.i2l, 1) := by decide +kernel
theorem dL_law_261 : decode cL_law 261 = .ok (.bipush 32, 2) := by decide +kernel
theorem dL_law_263 : decode cL_law 263 = .ok (.lshl, 1) := by decide +kernel
theorem dL_law_264 : decode cL_law 264 = .ok (.aload_n 0, 1) := by decide +kernel
theorem dL_law_265 : decode cL_law 265 = .ok (.iload 4, 2) := by decide +kernel
theorem dL_law_267 : decode cL_law 267 = .ok (.iconst 2, 1) := by decide +kernel
theorem dL_law_268 : decode cL_law 268 = .ok (.iadd, 1) := by decide +kernel
theorem dL_law_269 : decode cL_law 269 = .ok (.iaload, 1) := by decide +kernel
theorem dL_law_270 : decode cL_law 270 = .ok (.i2l, 1) := by decide +kernel
theorem dL_law_271 : decode cL_law 271 = .ok (.ldc2_w 33, 3) := by decide +kernel
theorem dL_law_274 : decode cL_law 274 = .ok (.land, 1) := by decide +kernel
theorem dL_law_275 : decode cL_law 275 = .ok (.lor, 1) := by decide +kernel
theorem dL_law_276 : decode cL_law 276 = .ok (.invokevirtual 39, 3) := by decide +kernel
theorem dL_law_279 : decode cL_law 279 = .ok (.if_icmp .eq 324, 3) := by decide +kernel
theorem dL_law_282 : decode cL_law 282 = .ok (.iconst 0, 1) := by decide +kernel
theorem dL_law_283 : decode cL_law 283 = .ok (.ireturn, 1) := by decide +kernel
theorem dL_law_284 : decode cL_law 284 = .ok (.aload_n 1, 1) := by decide +kernel
theorem dL_law_285 : decode cL_law 285 = .ok (.aload_n 0, 1) := by decide +kernel
theorem dL_law_286 : decode cL_law 286 = .ok (.iload 4, 2) := by decide +kernel
theorem dL_law_288 : decode cL_law 288 = .ok (.iconst 1, 1) := by decide +kernel
theorem dL_law_289 : decode cL_law 289 = .ok (.iadd, 1) := by decide +kernel
theorem dL_law_290 : decode cL_law 290 = .ok (.iaload, 1) := by decide +kernel
theorem dL_law_291 : decode cL_law 291 = .ok (.invokevirtual 40, 3) := by decide +kernel
theorem dL_law_294 : decode cL_law 294 = .ok (.aload_n 2, 1) := by decide +kernel
theorem dL_law_295 : decode cL_law 295 = .ok (.aload_n 0, 1) := by decide +kernel
theorem dL_law_296 : decode cL_law 296 = .ok (.iload 4, 2) := by decide +kernel
theorem dL_law_298 : decode cL_law 298 = .ok (.iconst 1, 1) := by decide +kernel
theorem dL_law_299 : decode cL_law 299 = .ok (.iadd, 1) := by decide +kernel
theorem dL_law_300 : decode cL_law 300 = .ok (.iaload, 1) := by decide +kernel
theorem dL_law_301 : decode cL_law 301 = .ok (.invokevirtual 44, 3) := by decide +kernel
theorem dL_law_304 : decode cL_law 304 = .ok (.if_icmp .eq 299, 3) := by decide +kernel
theorem dL_law_307 : decode cL_law 307 = .ok (.iconst 0, 1) := by decide +kernel
theorem dL_law_308 : decode cL_law 308 = .ok (.ireturn, 1) := by decide +kernel
theorem dL_law_309 : decode cL_law 309 = .ok (.aload_n 1, 1) := by decide +kernel
theorem dL_law_310 : decode cL_law 310 = .ok (.aload_n 0, 1) := by decide +kernel
theorem dL_law_311 : decode cL_law 311 = .ok (.iload 4, 2) := by decide +kernel
theorem dL_law_313 : decode cL_law 313 = .ok (.iconst 1, 1) := by decide +kernel
theorem dL_law_314 : decode cL_law 314 = .ok (.iadd, 1) := by decide +kernel
theorem dL_law_315 : decode cL_law 315 = .ok (.iaload, 1) := by decide +kernel
theorem dL_law_316 : decode cL_law 316 = .ok (.aload_n 0, 1) := by decide +kernel
theorem dL_law_317 : decode cL_law 317 = .ok (.iload 4, 2) := by decide +kernel
theorem dL_law_319 : decode cL_law 319 = .ok (.iconst 2, 1) := by decide +kernel
theorem dL_law_320 : decode cL_law 320 = .ok (.iadd, 1) := by decide +kernel
theorem dL_law_321 : decode cL_law 321 = .ok (.iaload, 1) := by decide +kernel
theorem dL_law_322 : decode cL_law 322 = .ok (.invokevirtual 45, 3) := by decide +kernel
theorem dL_law_325 : decode cL_law 325 = .ok (.aload_n 2, 1) := by decide +kernel
theorem dL_law_326 : decode cL_law 326 = .ok (.aload_n 0, 1) := by decide +kernel
theorem dL_law_327 : decode cL_law 327 = .ok (.iload 4, 2) := by decide +kernel
theorem dL_law_329 : decode cL_law 329 = .ok (.iconst 1, 1) := by decide +kernel
theorem dL_law_330 : decode cL_law 330 = .ok (.iadd, 1) := by decide +kernel
theorem dL_law_331 : decode cL_law 331 = .ok (.iaload, 1) := by decide +kernel
theorem dL_law_332 : decode cL_law 332 = .ok (.aload_n 0, 1) := by decide +kernel
theorem dL_law_333 : decode cL_law 333 = .ok (.iload 4, 2) := by decide +kernel
theorem dL_law_335 : decode cL_law 335 = .ok (.iconst 2, 1) := by decide +kernel
theorem dL_law_336 : decode cL_law 336 = .ok (.iadd, 1) := by decide +kernel
theorem dL_law_337 : decode cL_law 337 = .ok (.iaload, 1) := by decide +kernel
theorem dL_law_338 : decode cL_law 338 = .ok (.invokevirtual 49, 3) := by decide +kernel
theorem dL_law_341 : decode cL_law 341 = .ok (.if_icmp .eq 262, 3) := by decide +kernel
theorem dL_law_344 : decode cL_law 344 = .ok (.iconst 0, 1) := by decide +kernel
theorem dL_law_345 : decode cL_law 345 = .ok (.ireturn, 1) := by decide +kernel
theorem dL_law_346 : decode cL_law 346 = .ok (.aload_n 1, 1) := by decide +kernel
theorem dL_law_347 : decode cL_law 347 = .ok (.aload_n 0, 1) := by decide +kernel
theorem dL_law_348 : decode cL_law 348 = .ok (.iload 4, 2) := by decide +kernel
theorem dL_law_350 : decode cL_law 350 = .ok (.iconst 1, 1) := by decide +kernel
theorem dL_law_351 : decode cL_law 351 = .ok (.iadd, 1) := by decide +kernel
theorem dL_law_352 : decode cL_law 352 = .ok (.iaload, 1) := by decide +kernel
theorem dL_law_353 : decode cL_law 353 = .ok (.aload_n 3, 1) := by decide +kernel
theorem dL_law_354 : decode cL_law 354 = .ok (.invokestatic 50, 3) := by decide +kernel
theorem dL_law_357 : decode cL_law 357 = .ok (.istore 5, 2) := by decide +kernel
theorem dL_law_359 : decode cL_law 359 = .ok (.aload_n 2, 1) := by decide +kernel
theorem dL_law_360 : decode cL_law 360 = .ok (.aload_n 0, 1) := by decide +kernel
theorem dL_law_361 : decode cL_law 361 = .ok (.iload 4, 2) := by decide +kernel
theorem dL_law_363 : decode cL_law 363 = .ok (.iconst 1, 1) := by decide +kernel
theorem dL_law_364 : decode cL_law 364 = .ok (.iadd, 1) := by decide +kernel
theorem dL_law_365 : decode cL_law 365 = .ok (.iaload, 1) := by decide +kernel
theorem dL_law_366 : decode cL_law 366 = .ok (.invokevirtual 55, 3) := by decide +kernel
theorem dL_law_369 : decode cL_law 369 = .ok (.istore 6, 2) := by decide +kernel
theorem dL_law_371 : decode cL_law 371 = .ok (.aload_n 2, 1) := by decide +kernel
theorem dL_law_372 : decode cL_law 372 = .ok (.invokevirtual 56, 3) := by decide +kernel
theorem dL_law_375 : decode cL_law 375 = .ok (.iload 5, 2) := by decide +kernel
theorem dL_law_377 : decode cL_law 377 = .ok (.if_icmp .eq 5, 3) := by decide +kernel
theorem dL_law_380 : decode cL_law 380 = .ok (.iconst 0, 1) := by decide +kernel
theorem dL_law_381 : decode cL_law 381 = .ok (.ireturn, 1) := by decide +kernel
theorem dL_law_382 : decode cL_law 382 = .ok (.iload 5, 2) := by decide +kernel
theorem dL_law_384 : decode cL_law 384 = .ok (.ifCond .ne 15, 3) := by decide +kernel
theorem dL_law_387 : decode cL_law 387 = .ok (.aload_n 3, 1) := by decide +kernel
theorem dL_law_388 : decode cL_law 388 = .ok (.iconst 0, 1) := by decide +kernel
theorem dL_law_389 : decode cL_law 389 = .ok (.laload, 1) := by decide +kernel
theorem dL_law_390 : decode cL_law 390 = .ok (.iload 6, 2) := by decide +kernel
theorem dL_law_392 : decode cL_law 392 = .ok (.i2l, 1) := by decide +kernel
theorem dL_law_393 : decode cL_law 393 = .ok (.lcmp, 1) := by decide +kernel
theorem dL_law_394 : decode cL_law 394 = .ok (.ifCond .eq 5, 3) := by decide +kernel
theorem dL_law_397 : decode cL_law 397 = .ok (.iconst 0, 1) := by decide +kernel
theorem dL_law_398 : decode cL_law 398 = .ok (.ireturn, 1) := by decide +kernel
theorem dL_law_399 : decode cL_law 399 = .ok (.goto 204, 3) := by decide +kernel
theorem dL_law_402 : decode cL_law 402 = .ok (.aload_n 1, 1) := by decide +kernel
theorem dL_law_403 : decode cL_law 403 = .ok (.aload_n 0, 1) := by decide +kernel
theorem dL_law_404 : decode cL_law 404 = .ok (.iload 4, 2) := by decide +kernel
theorem dL_law_406 : decode cL_law 406 = .ok (.iconst 1, 1) := by decide +kernel
theorem dL_law_407 : decode cL_law 407 = .ok (.iadd, 1) := by decide +kernel
theorem dL_law_408 : decode cL_law 408 = .ok (.iaload, 1) := by decide +kernel
theorem dL_law_409 : decode cL_law 409 = .ok (.aload_n 0, 1) := by decide +kernel
theorem dL_law_410 : decode cL_law 410 = .ok (.iload 4, 2) := by decide +kernel
theorem dL_law_412 : decode cL_law 412 = .ok (.iconst 2, 1) := by decide +kernel
theorem dL_law_413 : decode cL_law 413 = .ok (.iadd, 1) := by decide +kernel
theorem dL_law_414 : decode cL_law 414 = .ok (.iaload, 1) := by decide +kernel
theorem dL_law_415 : decode cL_law 415 = .ok (.invokevirtual 59, 3) := by decide +kernel
theorem dL_law_418 : decode cL_law 418 = .ok (.aload_n 2, 1) := by decide +kernel
theorem dL_law_419 : decode cL_law 419 = .ok (.aload_n 0, 1) := by decide +kernel
theorem dL_law_420 : decode cL_law 420 = .ok (.iload 4, 2) := by decide +kernel
theorem dL_law_422 : decode cL_law 422 = .ok (.iconst 1, 1) := by decide +kernel
theorem dL_law_423 : decode cL_law 423 = .ok (.iadd, 1) := by decide +kernel
theorem dL_law_424 : decode cL_law 424 = .ok (.iaload, 1) := by decide +kernel
theorem dL_law_425 : decode cL_law 425 = .ok (.aload_n 0, 1) := by decide +kernel
theorem dL_law_426 : decode cL_law 426 = .ok (.iload 4, 2) := by decide +kernel
theorem dL_law_428 : decode cL_law 428 = .ok (.iconst 2, 1) := by decide +kernel
theorem dL_law_429 : decode cL_law 429 = .ok (.iadd, 1) := by decide +kernel
theorem dL_law_430 : decode cL_law 430 = .ok (.iaload, 1) := by decide +kernel
theorem dL_law_431 : decode cL_law 431 = .ok (.invokevirtual 62, 3) := by decide +kernel
theorem dL_law_434 : decode cL_law 434 = .ok (.if_icmp .eq 169, 3) := by decide +kernel
theorem dL_law_437 : decode cL_law 437 = .ok (.iconst 0, 1) := by decide +kernel
theorem dL_law_438 : decode cL_law 438 = .ok (.ireturn, 1) := by decide +kernel
theorem dL_law_439 : decode cL_law 439 = .ok (.aload_n 1, 1) := by decide +kernel
theorem dL_law_440 : decode cL_law 440 = .ok (.invokevirtual 63, 3) := by decide +kernel
theorem dL_law_443 : decode cL_law 443 = .ok (.aload_n 2, 1) := by decide +kernel
theorem dL_law_444 : decode cL_law 444 = .ok (.invokevirtual 66, 3) := by decide +kernel
theorem dL_law_447 : decode cL_law 447 = .ok (.if_icmp .eq 156, 3) := by decide +kernel
theorem dL_law_450 : decode cL_law 450 = .ok (.iconst 0, 1) := by decide +kernel
theorem dL_law_451 : decode cL_law 451 = .ok (.ireturn, 1) := by decide +kernel
theorem dL_law_452 : decode cL_law 452 = .ok (.aload_n 1, 1) := by decide +kernel
theorem dL_law_453 : decode cL_law 453 = .ok (.aload_n 0, 1) := by decide +kernel
theorem dL_law_454 : decode cL_law 454 = .ok (.iload 4, 2) := by decide +kernel
theorem dL_law_456 : decode cL_law 456 = .ok (.iconst 1, 1) := by decide +kernel
theorem dL_law_457 : decode cL_law 457 = .ok (.iadd, 1) := by decide +kernel
theorem dL_law_458 : decode cL_law 458 = .ok (.iaload, 1) := by decide +kernel
theorem dL_law_459 : decode cL_law 459 = .ok (.aload_n 0, 1) := by decide +kernel
theorem dL_law_460 : decode cL_law 460 = .ok (.iload 4, 2) := by decide +kernel
theorem dL_law_462 : decode cL_law 462 = .ok (.iconst 2, 1) := by decide +kernel
theorem dL_law_463 : decode cL_law 463 = .ok (.iadd, 1) := by decide +kernel
theorem dL_law_464 : decode cL_law 464 = .ok (.iaload, 1) := by decide +kernel
theorem dL_law_465 : decode cL_law 465 = .ok (.invokevirtual 67, 3) := by decide +kernel
theorem dL_law_468 : decode cL_law 468 = .ok (.aload_n 2, 1) := by decide +kernel
theorem dL_law_469 : decode cL_law 469 = .ok (.aload_n 0, 1) := by decide +kernel
theorem dL_law_470 : decode cL_law 470 = .ok (.iload 4, 2) := by decide +kernel
theorem dL_law_472 : decode cL_law 472 = .ok (.iconst 1, 1) := by decide +kernel
theorem dL_law_473 : decode cL_law 473 = .ok (.iadd, 1) := by decide +kernel
theorem dL_law_474 : decode cL_law 474 = .ok (.iaload, 1) := by decide +kernel
theorem dL_law_475 : decode cL_law 475 = .ok (.aload_n 0, 1) := by decide +kernel
theorem dL_law_476 : decode cL_law 476 = .ok (.iload 4, 2) := by decide +kernel
theorem dL_law_478 : decode cL_law 478 = .ok (.iconst 2, 1) := by decide +kernel
theorem dL_law_479 : decode cL_law 479 = .ok (.iadd, 1) := by decide +kernel
theorem dL_law_480 : decode cL_law 480 = .ok (.iaload, 1) := by decide +kernel
theorem dL_law_481 : decode cL_law 481 = .ok (.invokevirtual 70, 3) := by decide +kernel
theorem dL_law_484 : decode cL_law 484 = .ok (.if_icmp .eq 119, 3) := by decide +kernel
theorem dL_law_487 : decode cL_law 487 = .ok (.iconst 0, 1) := by decide +kernel
theorem dL_law_488 : decode cL_law 488 = .ok (.ireturn, 1) := by decide +kernel
theorem dL_law_489 : decode cL_law 489 = .ok (.aload_n 1, 1) := by decide +kernel
theorem dL_law_490 : decode cL_law 490 = .ok (.invokevirtual 71, 3) := by decide +kernel
theorem dL_law_493 : decode cL_law 493 = .ok (.aload_n 2, 1) := by decide +kernel
theorem dL_law_494 : decode cL_law 494 = .ok (.invokevirtual 74, 3) := by decide +kernel
theorem dL_law_497 : decode cL_law 497 = .ok (.if_icmp .eq 106, 3) := by decide +kernel
theorem dL_law_500 : decode cL_law 500 = .ok (.iconst 0, 1) := by decide +kernel
theorem dL_law_501 : decode cL_law 501 = .ok (.ireturn, 1) := by decide +kernel
theorem dL_law_502 : decode cL_law 502 = .ok (.aload_n 1, 1) := by decide +kernel
theorem dL_law_503 : decode cL_law 503 = .ok (.aload_n 0, 1) := by decide +kernel
theorem dL_law_504 : decode cL_law 504 = .ok (.iload 4, 2) := by decide +kernel
theorem dL_law_506 : decode cL_law 506 = .ok (.iconst 1, 1) := by decide +kernel
theorem dL_law_507 : decode cL_law 507 = .ok (.iadd, 1) := by decide +kernel
theorem dL_law_508 : decode cL_law 508 = .ok (.iaload, 1) := by decide +kernel
theorem dL_law_509 : decode cL_law 509 = .ok (.invokevirtual 75, 3) := by decide +kernel
theorem dL_law_512 : decode cL_law 512 = .ok (.aload_n 2, 1) := by decide +kernel
theorem dL_law_513 : decode cL_law 513 = .ok (.aload_n 0, 1) := by decide +kernel
theorem dL_law_514 : decode cL_law 514 = .ok (.iload 4, 2) := by decide +kernel
theorem dL_law_516 : decode cL_law 516 = .ok (.iconst 1, 1) := by decide +kernel
theorem dL_law_517 : decode cL_law 517 = .ok (.iadd, 1) := by decide +kernel
theorem dL_law_518 : decode cL_law 518 = .ok (.iaload, 1) := by decide +kernel
theorem dL_law_519 : decode cL_law 519 = .ok (.invokevirtual 78, 3) := by decide +kernel
theorem dL_law_522 : decode cL_law 522 = .ok (.if_icmp .eq 81, 3) := by decide +kernel
theorem dL_law_525 : decode cL_law 525 = .ok (.iconst 0, 1) := by decide +kernel
theorem dL_law_526 : decode cL_law 526 = .ok (.ireturn, 1) := by decide +kernel
theorem dL_law_527 : decode cL_law 527 = .ok (.aload_n 1, 1) := by decide +kernel
theorem dL_law_528 : decode cL_law 528 = .ok (.aload_n 0, 1) := by decide +kernel
theorem dL_law_529 : decode cL_law 529 = .ok (.iload 4, 2) := by decide +kernel
theorem dL_law_531 : decode cL_law 531 = .ok (.iconst 1, 1) := by decide +kernel
theorem dL_law_532 : decode cL_law 532 = .ok (.iadd, 1) := by decide +kernel
theorem dL_law_533 : decode cL_law 533 = .ok (.iaload, 1) := by decide +kernel
theorem dL_law_534 : decode cL_law 534 = .ok (.invokevirtual 79, 3) := by decide +kernel
theorem dL_law_537 : decode cL_law 537 = .ok (.aload_n 2, 1) := by decide +kernel
theorem dL_law_538 : decode cL_law 538 = .ok (.aload_n 0, 1) := by decide +kernel
theorem dL_law_539 : decode cL_law 539 = .ok (.iload 4, 2) := by decide +kernel
theorem dL_law_541 : decode cL_law 541 = .ok (.iconst 1, 1) := by decide +kernel
theorem dL_law_542 : decode cL_law 542 = .ok (.iadd, 1) := by decide +kernel
theorem dL_law_543 : decode cL_law 543 = .ok (.iaload, 1) := by decide +kernel
theorem dL_law_544 : decode cL_law 544 = .ok (.invokevirtual 82, 3) := by decide +kernel
theorem dL_law_547 : decode cL_law 547 = .ok (.if_icmp .eq 56, 3) := by decide +kernel
theorem dL_law_550 : decode cL_law 550 = .ok (.iconst 0, 1) := by decide +kernel
theorem dL_law_551 : decode cL_law 551 = .ok (.ireturn, 1) := by decide +kernel
theorem dL_law_552 : decode cL_law 552 = .ok (.aload_n 1, 1) := by decide +kernel
theorem dL_law_553 : decode cL_law 553 = .ok (.aload_n 0, 1) := by decide +kernel
theorem dL_law_554 : decode cL_law 554 = .ok (.iload 4, 2) := by decide +kernel
theorem dL_law_556 : decode cL_law 556 = .ok (.iconst 1, 1) := by decide +kernel
theorem dL_law_557 : decode cL_law 557 = .ok (.iadd, 1) := by decide +kernel
theorem dL_law_558 : decode cL_law 558 = .ok (.iaload, 1) := by decide +kernel
theorem dL_law_559 : decode cL_law 559 = .ok (.invokevirtual 83, 3) := by decide +kernel
theorem dL_law_562 : decode cL_law 562 = .ok (.aload_n 2, 1) := by decide +kernel
theorem dL_law_563 : decode cL_law 563 = .ok (.aload_n 0, 1) := by decide +kernel
theorem dL_law_564 : decode cL_law 564 = .ok (.iload 4, 2) := by decide +kernel
theorem dL_law_566 : decode cL_law 566 = .ok (.iconst 1, 1) := by decide +kernel
theorem dL_law_567 : decode cL_law 567 = .ok (.iadd, 1) := by decide +kernel
theorem dL_law_568 : decode cL_law 568 = .ok (.iaload, 1) := by decide +kernel
theorem dL_law_569 : decode cL_law 569 = .ok (.invokevirtual 86, 3) := by decide +kernel
theorem dL_law_572 : decode cL_law 572 = .ok (.if_icmp .eq 31, 3) := by decide +kernel
theorem dL_law_575 : decode cL_law 575 = .ok (.iconst 0, 1) := by decide +kernel
theorem dL_law_576 : decode cL_law 576 = .ok (.ireturn, 1) := by decide +kernel
theorem dL_law_577 : decode cL_law 577 = .ok (.aload_n 1, 1) := by decide +kernel
theorem dL_law_578 : decode cL_law 578 = .ok (.invokevirtual 87, 3) := by decide +kernel
theorem dL_law_581 : decode cL_law 581 = .ok (.aload_n 2, 1) := by decide +kernel
theorem dL_law_582 : decode cL_law 582 = .ok (.invokevirtual 90, 3) := by decide +kernel
theorem dL_law_585 : decode cL_law 585 = .ok (.if_icmp .eq 18, 3) := by decide +kernel
theorem dL_law_588 : decode cL_law 588 = .ok (.iconst 0, 1) := by decide +kernel
theorem dL_law_589 : decode cL_law 589 = .ok (.ireturn, 1) := by decide +kernel
theorem dL_law_590 : decode cL_law 590 = .ok (.aload_n 1, 1) := by decide +kernel
theorem dL_law_591 : decode cL_law 591 = .ok (.invokevirtual 91, 3) := by decide +kernel
theorem dL_law_594 : decode cL_law 594 = .ok (.aload_n 2, 1) := by decide +kernel
theorem dL_law_595 : decode cL_law 595 = .ok (.invokevirtual 94, 3) := by decide +kernel
theorem dL_law_598 : decode cL_law 598 = .ok (.if_icmp .eq 5, 3) := by decide +kernel
theorem dL_law_601 : decode cL_law 601 = .ok (.iconst 0, 1) := by decide +kernel
theorem dL_law_602 : decode cL_law 602 = .ok (.ireturn, 1) := by decide +kernel
theorem dL_law_603 : decode cL_law 603 = .ok (.iinc 4 4, 3) := by decide +kernel
theorem dL_law_606 : decode cL_law 606 = .ok (.goto (-583), 3) := by decide +kernel
theorem dL_law_609 : decode cL_law 609 = .ok (.iconst 1, 1) := by decide +kernel
theorem dL_law_610 : decode cL_law 610 = .ok (.ireturn, 1) := by decide +kernel
