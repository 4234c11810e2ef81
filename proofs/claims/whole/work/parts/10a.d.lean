theorem dX0_init_0 : decode cX0_init 0 = .ok (.aload_n 0, 1) := by decide +kernel
theorem dX0_init_1 : decode cX0_init 1 = .ok (.invokespecial 3, 3) := by decide +kernel
theorem dX0_init_4 : decode cX0_init 4 = .ok (.aload_n 0, 1) := by decide +kernel
theorem dX0_init_5 : decode cX0_init 5 = .ok (.bipush 40, 2) := by decide +kernel
theorem dX0_init_7 : decode cX0_init 7 = .ok (.newarray .int, 2) := by decide +kernel
theorem dX0_init_9 : decode cX0_init 9 = .ok (.putfield 9, 3) := by decide +kernel
theorem dX0_init_12 : decode cX0_init 12 = .ok (.aload_n 0, 1) := by decide +kernel
theorem dX0_init_13 : decode cX0_init 13 = .ok (.iconst 0, 1) := by decide +kernel
theorem dX0_init_14 : decode cX0_init 14 = .ok (.putfield 15, 3) := by decide +kernel
theorem dX0_init_17 : decode cX0_init 17 = .ok (.aload_n 0, 1) := by decide +kernel
theorem dX0_init_18 : decode cX0_init 18 = .ok (.iconst 0, 1) := by decide +kernel
theorem dX0_init_19 : decode cX0_init 19 = .ok (.putfield 19, 3) := by decide +kernel
theorem dX0_init_22 : decode cX0_init 22 = .ok (.aload_n 0, 1) := by decide +kernel
theorem dX0_init_23 : decode cX0_init 23 = .ok (.iconst 0, 1) := by decide +kernel
theorem dX0_init_24 : decode cX0_init 24 = .ok (.putfield 22, 3) := by decide +kernel
theorem dX0_init_27 : decode cX0_init 27 = .ok (.aload_n 0, 1) := by decide +kernel
theorem dX0_init_28 : decode cX0_init 28 = .ok (.iconst 0, 1) := by decide +kernel
theorem dX0_init_29 : decode cX0_init 29 = .ok (.putfield 26, 3) := by decide +kernel
theorem dX0_init_32 : decode cX0_init 32 = .ok (.aload_n 0, 1) := by decide +kernel
theorem dX0_init_33 : decode cX0_init 33 = .ok (.new 29, 3) := by decide +kernel
theorem dX0_init_36 : decode cX0_init 36 = .ok (.dup, 1) := by decide +kernel
theorem dX0_init_37 : decode cX0_init 37 = .ok (.invokespecial 31, 3) := by decide +kernel
theorem dX0_init_40 : decode cX0_init 40 = .ok (.putfield 32, 3) := by decide +kernel
theorem dX0_init_43 : decode cX0_init 43 = .ok (.return_, 1) := by decide +kernel
theorem dX0_hasPoints_0 : decode cX0_hasPoints 0 = .ok (.aload_n 0, 1) := by decide +kernel
theorem dX0_hasPoints_1 : decode cX0_hasPoints 1 = .ok (.iload_n 1, 1) := by decide +kernel
theorem dX0_hasPoints_2 : decode cX0_hasPoints 2 = .ok (.invokevirtual 36, 3) := by decide +kernel
theorem dX0_hasPoints_5 : decode cX0_hasPoints 5 = .ok (.ifCond .eq 23, 3) := by decide +kernel
theorem dX0_hasPoints_8 : decode cX0_hasPoints 8 = .ok (.aload_n 0, 1) := by decide +kernel
theorem dX0_hasPoints_9 : decode cX0_hasPoints 9 = .ok (.iload_n 2, 1) := by decide +kernel
theorem dX0_hasPoints_10 : decode cX0_hasPoints 10 = .ok (.invokevirtual 36, 3) := by decide +kernel
theorem dX0_hasPoints_13 : decode cX0_hasPoints 13 = .ok (.ifCond .eq 15, 3) := by decide +kernel
theorem dX0_hasPoints_16 : decode cX0_hasPoints 16 = .ok (.aload_n 0, 1) := by decide +kernel
theorem dX0_hasPoints_17 : decode cX0_hasPoints 17 = .ok (.iload_n 3, 1) := by decide +kernel
theorem dX0_hasPoints_18 : decode cX0_hasPoints 18 = .ok (.invokevirtual 36, 3) := by decide +kernel
theorem dX0_hasPoints_21 : decode cX0_hasPoints 21 = .ok (.ifCond .eq 7, 3) := by decide +kernel
theorem dX0_hasPoints_24 : decode cX0_hasPoints 24 = .ok (.iconst 1, 1) := by decide +kernel
theorem dX0_hasPoints_25 : decode cX0_hasPoints 25 = .ok (.goto 4, 3) := by decide +kernel
theorem dX0_hasPoints_28 : decode cX0_hasPoints 28 = .ok (.iconst 0, 1) := by decide +kernel
theorem dX0_hasPoints_29 : decode cX0_hasPoints 29 = .ok (.ireturn, 1) := by decide +kernel
theorem dX0_isPoint_0 : decode cX0_isPoint 0 = .ok (.iload_n 1, 1) := by decide +kernel
theorem dX0_isPoint_1 : decode cX0_isPoint 1 = .ok (.ifCond .ge 20, 3) := by decide +kernel
theorem dX0_isPoint_4 : decode cX0_isPoint 4 = .ok (.iload_n 1, 1) := by decide +kernel
theorem dX0_isPoint_5 : decode cX0_isPoint 5 = .ok (.aload_n 0, 1) := by decide +kernel
theorem dX0_isPoint_6 : decode cX0_isPoint 6 = .ok (.getfield 15, 3) := by decide +kernel
theorem dX0_isPoint_9 : decode cX0_isPoint 9 = .ok (.ineg, 1) := by decide +kernel
theorem dX0_isPoint_10 : decode cX0_isPoint 10 = .ok (.if_icmp .lt 7, 3) := by decide +kernel
theorem dX0_isPoint_13 : decode cX0_isPoint 13 = .ok (.iconst 1, 1) := by decide +kernel
theorem dX0_isPoint_14 : decode cX0_isPoint 14 = .ok (.goto 24, 3) := by decide +kernel
theorem dX0_isPoint_17 : decode cX0_isPoint 17 = .ok (.iconst 0, 1) := by decide +kernel
theorem dX0_isPoint_18 : decode cX0_isPoint 18 = .ok (.goto 20, 3) := by decide +kernel
theorem dX0_isPoint_21 : decode cX0_isPoint 21 = .ok (.iload_n 1, 1) := by decide +kernel
theorem dX0_isPoint_22 : decode cX0_isPoint 22 = .ok (.iconst 1, 1) := by decide +kernel
theorem dX0_isPoint_23 : decode cX0_isPoint 23 = .ok (.if_icmp .lt 14, 3) := by decide +kernel
theorem dX0_isPoint_26 : decode cX0_isPoint 26 = .ok (.iload_n 1, 1) := by decide +kernel
theorem dX0_isPoint_27 : decode cX0_isPoint 27 = .ok (.sipush 1000, 3) := by decide +kernel
theorem dX0_isPoint_30 : decode cX0_isPoint 30 = .ok (.if_icmp .gt 7, 3) := by decide +kernel
theorem dX0_isPoint_33 : decode cX0_isPoint 33 = .ok (.iconst 1, 1) := by decide +kernel
theorem dX0_isPoint_34 : decode cX0_isPoint 34 = .ok (.goto 4, 3) := by decide +kernel
theorem dX0_isPoint_37 : decode cX0_isPoint 37 = .ok (.iconst 0, 1) := by decide +kernel
theorem dX0_isPoint_38 : decode cX0_isPoint 38 = .ok (.ireturn, 1) := by decide +kernel
theorem dX0_holds_0 : decode cX0_holds 0 = .ok (.iload_n 1, 1) := by decide +kernel
theorem dX0_holds_1 : decode cX0_holds 1 = .ok (.aload_n 0, 1) := by decide +kernel
theorem dX0_holds_2 : decode cX0_holds 2 = .ok (.getfield 9, 3) := by decide +kernel
theorem dX0_holds_5 : decode cX0_holds 5 = .ok (.aload_n 0, 1) := by decide +kernel
theorem dX0_holds_6 : decode cX0_holds 6 = .ok (.getfield 19, 3) := by decide +kernel
theorem dX0_holds_9 : decode cX0_holds 9 = .ok (.invokestatic 40, 3) := by decide +kernel
theorem dX0_holds_12 : decode cX0_holds 12 = .ok (.ireturn, 1) := by decide +kernel
theorem dX0_hasSizesOf_0 : decode cX0_hasSizesOf 0 = .ok (.aload_n 0, 1) := by decide +kernel
theorem dX0_hasSizesOf_1 : decode cX0_hasSizesOf 1 = .ok (.getfield 15, 3) := by decide +kernel
theorem dX0_hasSizesOf_4 : decode cX0_hasSizesOf 4 = .ok (.aload_n 1, 1) := by decide +kernel
theorem dX0_hasSizesOf_5 : decode cX0_hasSizesOf 5 = .ok (.getfield 15, 3) := by decide +kernel
theorem dX0_hasSizesOf_8 : decode cX0_hasSizesOf 8 = .ok (.if_icmp .ne 18, 3) := by decide +kernel
theorem dX0_hasSizesOf_11 : decode cX0_hasSizesOf 11 = .ok (.aload_n 0, 1) := by decide +kernel
theorem dX0_hasSizesOf_12 : decode cX0_hasSizesOf 12 = .ok (.getfield 19, 3) := by decide +kernel
theorem dX0_hasSizesOf_15 : decode cX0_hasSizesOf 15 = .ok (.aload_n 1, 1) := by decide +kernel
theorem dX0_hasSizesOf_16 : decode cX0_hasSizesOf 16 = .ok (.getfield 19, 3) := by decide +kernel
theorem dX0_hasSizesOf_19 : decode cX0_hasSizesOf 19 = .ok (.if_icmp .ne 7, 3) := by decide +kernel
theorem dX0_hasSizesOf_22 : decode cX0_hasSizesOf 22 = .ok (.iconst 1, 1) := by decide +kernel
theorem dX0_hasSizesOf_23 : decode cX0_hasSizesOf 23 = .ok (.goto 4, 3) := by decide +kernel
theorem dX0_hasSizesOf_26 : decode cX0_hasSizesOf 26 = .ok (.iconst 0, 1) := by decide +kernel
theorem dX0_hasSizesOf_27 : decode cX0_hasSizesOf 27 = .ok (.ireturn, 1) := by decide +kernel
theorem dX0_insert_0 : decode cX0_insert 0 = .ok (.iload_n 1, 1) := by decide +kernel
theorem dX0_insert_1 : decode cX0_insert 1 = .ok (.aload_n 0, 1) := by decide +kernel
theorem dX0_insert_2 : decode cX0_insert 2 = .ok (.getfield 9, 3) := by decide +kernel
theorem dX0_insert_5 : decode cX0_insert 5 = .ok (.aload_n 0, 1) := by decide +kernel
theorem dX0_insert_6 : decode cX0_insert 6 = .ok (.getfield 19, 3) := by decide +kernel
theorem dX0_insert_9 : decode cX0_insert 9 = .ok (.invokestatic 44, 3) := by decide +kernel
theorem dX0_insert_12 : decode cX0_insert 12 = .ok (.istore_n 2, 1) := by decide +kernel
theorem dX0_insert_13 : decode cX0_insert 13 = .ok (.aload_n 0, 1) := by decide +kernel
theorem dX0_insert_14 : decode cX0_insert 14 = .ok (.getfield 19, 3) := by decide +kernel
theorem dX0_insert_17 : decode cX0_insert 17 = .ok (.istore_n 3, 1) := by decide +kernel
theorem dX0_insert_18 : decode cX0_insert 18 = .ok (.iload_n 3, 1) := by decide +kernel
theorem dX0_insert_19 : decode cX0_insert 19 = .ok (.iload_n 2, 1) := by decide +kernel
theorem dX0_insert_20 : decode cX0_insert 20 = .ok (.if_icmp .le 23, 3) := by decide +kernel
theorem dX0_insert_23 : decode cX0_insert 23 = .ok (.aload_n 0, 1) := by decide +kernel
theorem dX0_insert_24 : decode cX0_insert 24 = .ok (.getfield 9, 3) := by decide +kernel
theorem dX0_insert_27 : decode cX0_insert 27 = .ok (.iload_n 3, 1) := by decide +kernel
theorem dX0_insert_28 : decode cX0_insert 28 = .ok (.aload_n 0, 1) := by decide +kernel
theorem dX0_insert_29 : decode cX0_insert 29 = .ok (.getfield 9, 3) := by decide +kernel
theorem dX0_insert_32 : decode cX0_insert 32 = .ok (.iload_n 3, 1) := by decide +kernel
theorem dX0_insert_33 : decode cX0_insert 33 = .ok (.iconst 1, 1) := by decide +kernel
theorem dX0_insert_34 : decode cX0_insert 34 = .ok (.isub, 1) := by decide +kernel
theorem dX0_insert_35 : decode cX0_insert 35 = .ok (.iaload, 1) := by decide +kernel
theorem dX0_insert_36 : decode cX0_insert 36 = .ok (.iastore, 1) := by decide +kernel
theorem dX0_insert_37 : decode cX0_insert 37 = .ok (.iinc 3 (-1), 3) := by decide +kernel
theorem dX0_insert_40 : decode cX0_insert 40 = .ok (.goto (-22), 3) := by decide +kernel
theorem dX0_insert_43 : decode cX0_insert 43 = .ok (.aload_n 0, 1) := by decide +kernel
theorem dX0_insert_44 : decode cX0_insert 44 = .ok (.getfield 9, 3) := by decide +kernel
theorem dX0_insert_47 : decode cX0_insert 47 = .ok (.iload_n 2, 1) := by decide +kernel
theorem dX0_insert_48 : decode cX0_insert 48 = .ok (.iload_n 1, 1) := by decide +kernel
theorem dX0_insert_49 : decode cX0_insert 49 = .ok (.iastore, 1) := by decide +kernel
theorem dX0_insert_50 : decode cX0_insert 50 = .ok (.aload_n 0, 1) := by decide +kernel
theorem dX0_insert_51 : decode cX0_insert 51 = .ok (.dup, 1) := by decide +kernel
theorem dX0_insert_52 : decode cX0_insert 52 = .ok (.getfield 19, 3) := by decide +kernel
theorem dX0_insert_55 : decode cX0_insert 55 = .ok (.iconst 1, 1) := by decide +kernel
theorem dX0_insert_56 : decode cX0_insert 56 = .ok (.iadd, 1) := by decide +kernel
theorem dX0_insert_57 : decode cX0_insert 57 = .ok (.putfield 19, 3) := by decide +kernel
theorem dX0_insert_60 : decode cX0_insert 60 = .ok (.aload_n 0, 1) := by decide +kernel
theorem dX0_insert_61 : decode cX0_insert 61 = .ok (.iconst 0, 1) := by decide +kernel
theorem dX0_insert_62 : decode cX0_insert 62 = .ok (.putfield 22, 3) := by decide +kernel
theorem dX0_insert_65 : decode cX0_insert 65 = .ok (.return_, 1) := by decide +kernel
theorem dX0_remove_0 : decode cX0_remove 0 = .ok (.iload_n 1, 1) := by decide +kernel
theorem dX0_remove_1 : decode cX0_remove 1 = .ok (.aload_n 0, 1) := by decide +kernel
theorem dX0_remove_2 : decode cX0_remove 2 = .ok (.getfield 9, 3) := by decide +kernel
theorem dX0_remove_5 : decode cX0_remove 5 = .ok (.aload_n 0, 1) := by decide +kernel
theorem dX0_remove_6 : decode cX0_remove 6 = .ok (.getfield 19, 3) := by decide +kernel
theorem dX0_remove_9 : decode cX0_remove 9 = .ok (.invokestatic 44, 3) := by decide +kernel
theorem dX0_remove_12 : decode cX0_remove 12 = .ok (.iconst 1, 1) := by decide +kernel
theorem dX0_remove_13 : decode cX0_remove 13 = .ok (.iadd, 1) := by decide +kernel
theorem dX0_remove_14 : decode cX0_remove 14 = .ok (.istore_n 2, 1) := by decide +kernel
theorem dX0_remove_15 : decode cX0_remove 15 = .ok (.iload_n 2, 1) := by decide +kernel
theorem dX0_remove_16 : decode cX0_remove 16 = .ok (.aload_n 0, 1) := by decide +kernel
theorem dX0_remove_17 : decode cX0_remove 17 = .ok (.getfield 19, 3) := by decide +kernel
theorem dX0_remove_20 : decode cX0_remove 20 = .ok (.if_icmp .ge 23, 3) := by decide +kernel
theorem dX0_remove_23 : decode cX0_remove 23 = .ok (.aload_n 0, 1) := by decide +kernel
theorem dX0_remove_24 : decode cX0_remove 24 = .ok (.getfield 9, 3) := by decide +kernel
theorem dX0_remove_27 : decode cX0_remove 27 = .ok (.iload_n 2, 1) := by decide +kernel
theorem dX0_remove_28 : decode cX0_remove 28 = .ok (.iconst 1, 1) := by decide +kernel
theorem dX0_remove_29 : decode cX0_remove 29 = .ok (.isub, 1) := by decide +kernel
theorem dX0_remove_30 : decode cX0_remove 30 = .ok (.aload_n 0, 1) := by decide +kernel
theorem dX0_remove_31 : decode cX0_remove 31 = .ok (.getfield 9, 3) := by decide +kernel
theorem dX0_remove_34 : decode cX0_remove 34 = .ok (.iload_n 2, 1) := by decide +kernel
theorem dX0_remove_35 : decode cX0_remove 35 = .ok (.iaload, 1) := by decide +kernel
theorem dX0_remove_36 : decode cX0_remove 36 = .ok (.iastore, 1) := by decide +kernel
theorem dX0_remove_37 : decode cX0_remove 37 = .ok (.iinc 2 1, 3) := by decide +kernel
theorem dX0_remove_40 : decode cX0_remove 40 = .ok (.goto (-25), 3) := by decide +kernel
theorem dX0_remove_43 : decode cX0_remove 43 = .ok (.aload_n 0, 1) := by decide +kernel
theorem dX0_remove_44 : decode cX0_remove 44 = .ok (.dup, 1) := by decide +kernel
theorem dX0_remove_45 : decode cX0_remove 45 = .ok (.getfield 19, 3) := by decide +kernel
theorem dX0_remove_48 : decode cX0_remove 48 = .ok (.iconst 1, 1) := by decide +kernel
theorem dX0_remove_49 : decode cX0_remove 49 = .ok (.isub, 1) := by decide +kernel
theorem dX0_remove_50 : decode cX0_remove 50 = .ok (.putfield 19, 3) := by decide +kernel
theorem dX0_remove_53 : decode cX0_remove 53 = .ok (.aload_n 0, 1) := by decide +kernel
theorem dX0_remove_54 : decode cX0_remove 54 = .ok (.iconst 0, 1) := by decide +kernel
theorem dX0_remove_55 : decode cX0_remove 55 = .ok (.putfield 22, 3) := by decide +kernel
theorem dX0_remove_58 : decode cX0_remove 58 = .ok (.return_, 1) := by decide +kernel
theorem dX1_init_0 : decode cX1_init 0 = .ok (.aload_n 0, 1) := by decide +kernel
theorem dX1_init_1 : decode cX1_init 1 = .ok (.invokespecial 3, 3) := by decide +kernel
theorem dX1_init_4 : decode cX1_init 4 = .ok (.aload_n 0, 1) := by decide +kernel
theorem dX1_init_5 : decode cX1_init 5 = .ok (.bipush 64, 2) := by decide +kernel
theorem dX1_init_7 : decode cX1_init 7 = .ok (.newarray .int, 2) := by decide +kernel
theorem dX1_init_9 : decode cX1_init 9 = .ok (.putfield 9, 3) := by decide +kernel
theorem dX1_init_12 : decode cX1_init 12 = .ok (.aload_n 0, 1) := by decide +kernel
theorem dX1_init_13 : decode cX1_init 13 = .ok (.bipush 8, 2) := by decide +kernel
theorem dX1_init_15 : decode cX1_init 15 = .ok (.newarray .int, 2) := by decide +kernel
theorem dX1_init_17 : decode cX1_init 17 = .ok (.putfield 15, 3) := by decide +kernel
theorem dX1_init_20 : decode cX1_init 20 = .ok (.aload_n 0, 1) := by decide +kernel
theorem dX1_init_21 : decode cX1_init 21 = .ok (.bipush 8, 2) := by decide +kernel
theorem dX1_init_23 : decode cX1_init 23 = .ok (.newarray .int, 2) := by decide +kernel
theorem dX1_init_25 : decode cX1_init 25 = .ok (.putfield 18, 3) := by decide +kernel
theorem dX1_init_28 : decode cX1_init 28 = .ok (.aload_n 0, 1) := by decide +kernel
theorem dX1_init_29 : decode cX1_init 29 = .ok (.bipush 9, 2) := by decide +kernel
theorem dX1_init_31 : decode cX1_init 31 = .ok (.newarray .int, 2) := by decide +kernel
theorem dX1_init_33 : decode cX1_init 33 = .ok (.putfield 21, 3) := by decide +kernel
theorem dX1_init_36 : decode cX1_init 36 = .ok (.aload_n 0, 1) := by decide +kernel
theorem dX1_init_37 : decode cX1_init 37 = .ok (.iconst 0, 1) := by decide +kernel
theorem dX1_init_38 : decode cX1_init 38 = .ok (.putfield 24, 3) := by decide +kernel
theorem dX1_init_41 : decode cX1_init 41 = .ok (.return_, 1) := by decide +kernel
theorem dX1_sizeOf_0 : decode cX1_sizeOf 0 = .ok (.aload_n 0, 1) := by decide +kernel
theorem dX1_sizeOf_1 : decode cX1_sizeOf 1 = .ok (.getfield 21, 3) := by decide +kernel
theorem dX1_sizeOf_4 : decode cX1_sizeOf 4 = .ok (.iload_n 1, 1) := by decide +kernel
theorem dX1_sizeOf_5 : decode cX1_sizeOf 5 = .ok (.iconst 1, 1) := by decide +kernel
theorem dX1_sizeOf_6 : decode cX1_sizeOf 6 = .ok (.iadd, 1) := by decide +kernel
theorem dX1_sizeOf_7 : decode cX1_sizeOf 7 = .ok (.iaload, 1) := by decide +kernel
theorem dX1_sizeOf_8 : decode cX1_sizeOf 8 = .ok (.aload_n 0, 1) := by decide +kernel
theorem dX1_sizeOf_9 : decode cX1_sizeOf 9 = .ok (.getfield 21, 3) := by decide +kernel
theorem dX1_sizeOf_12 : decode cX1_sizeOf 12 = .ok (.iload_n 1, 1) := by decide +kernel
theorem dX1_sizeOf_13 : decode cX1_sizeOf 13 = .ok (.iaload, 1) := by decide +kernel
theorem dX1_sizeOf_14 : decode cX1_sizeOf 14 = .ok (.isub, 1) := by decide +kernel
theorem dX1_sizeOf_15 : decode cX1_sizeOf 15 = .ok (.ireturn, 1) := by decide +kernel
theorem dX1_arrange_0 : decode cX1_arrange 0 = .ok (.iconst 0, 1) := by decide +kernel
theorem dX1_arrange_1 : decode cX1_arrange 1 = .ok (.istore_n 2, 1) := by decide +kernel
theorem dX1_arrange_2 : decode cX1_arrange 2 = .ok (.iload_n 2, 1) := by decide +kernel
theorem dX1_arrange_3 : decode cX1_arrange 3 = .ok (.iload_n 1, 1) := by decide +kernel
theorem dX1_arrange_4 : decode cX1_arrange 4 = .ok (.if_icmp .ge 58, 3) := by decide +kernel
theorem dX1_arrange_7 : decode cX1_arrange 7 = .ok (.iload_n 2, 1) := by decide +kernel
theorem dX1_arrange_8 : decode cX1_arrange 8 = .ok (.istore_n 3, 1) := by decide +kernel
theorem dX1_arrange_9 : decode cX1_arrange 9 = .ok (.iload_n 3, 1) := by decide +kernel
theorem dX1_arrange_10 : decode cX1_arrange 10 = .ok (.ifCond .le 39, 3) := by decide +kernel
theorem dX1_arrange_13 : decode cX1_arrange 13 = .ok (.aload_n 0, 1) := by decide +kernel
theorem dX1_arrange_14 : decode cX1_arrange 14 = .ok (.aload_n 0, 1) := by decide +kernel
theorem dX1_arrange_15 : decode cX1_arrange 15 = .ok (.getfield 15, 3) := by decide +kernel
theorem dX1_arrange_18 : decode cX1_arrange 18 = .ok (.iload_n 3, 1) := by decide +kernel
theorem dX1_arrange_19 : decode cX1_arrange 19 = .ok (.iconst 1, 1) := by decide +kernel
theorem dX1_arrange_20 : decode cX1_arrange 20 = .ok (.isub, 1) := by decide +kernel
theorem dX1_arrange_21 : decode cX1_arrange 21 = .ok (.iaload, 1) := by decide +kernel
theorem dX1_arrange_22 : decode cX1_arrange 22 = .ok (.iload_n 2, 1) := by decide +kernel
theorem dX1_arrange_23 : decode cX1_arrange 23 = .ok (.invokevirtual 28, 3) := by decide +kernel
theorem dX1_arrange_26 : decode cX1_arrange 26 = .ok (.ifCond .le 23, 3) := by decide +kernel
theorem dX1_arrange_29 : decode cX1_arrange 29 = .ok (.aload_n 0, 1) := by decide +kernel
theorem dX1_arrange_30 : decode cX1_arrange 30 = .ok (.getfield 15, 3) := by decide +kernel
theorem dX1_arrange_33 : decode cX1_arrange 33 = .ok (.iload_n 3, 1) := by decide +kernel
theorem dX1_arrange_34 : decode cX1_arrange 34 = .ok (.aload_n 0, 1) := by decide +kernel
theorem dX1_arrange_35 : decode cX1_arrange 35 = .ok (.getfield 15, 3) := by decide +kernel
theorem dX1_arrange_38 : decode cX1_arrange 38 = .ok (.iload_n 3, 1) := by decide +kernel
theorem dX1_arrange_39 : decode cX1_arrange 39 = .ok (.iconst 1, 1) := by decide +kernel
theorem dX1_arrange_40 : decode cX1_arrange 40 = .ok (.isub, 1) := by decide +kernel
theorem dX1_arrange_41 : decode cX1_arrange 41 = .ok (.iaload, 1) := by decide +kernel
theorem dX1_arrange_42 : decode cX1_arrange 42 = .ok (.iastore, 1) := by decide +kernel
theorem dX1_arrange_43 : decode cX1_arrange 43 = .ok (.iinc 3 (-1), 3) := by decide +kernel
theorem dX1_arrange_46 : decode cX1_arrange 46 = .ok (.goto (-37), 3) := by decide +kernel
theorem dX1_arrange_49 : decode cX1_arrange 49 = .ok (.aload_n 0, 1) := by decide +kernel
theorem dX1_arrange_50 : decode cX1_arrange 50 = .ok (.getfield 15, 3) := by decide +kernel
theorem dX1_arrange_53 : decode cX1_arrange 53 = .ok (.iload_n 3, 1) := by decide +kernel
theorem dX1_arrange_54 : decode cX1_arrange 54 = .ok (.iload_n 2, 1) := by decide +kernel
theorem dX1_arrange_55 : decode cX1_arrange 55 = .ok (.iastore, 1) := by decide +kernel
theorem dX1_arrange_56 : decode cX1_arrange 56 = .ok (.iinc 2 1, 3) := by decide +kernel
theorem dX1_arrange_59 : decode cX1_arrange 59 = .ok (.goto (-57), 3) := by decide +kernel
theorem dX1_arrange_62 : decode cX1_arrange 62 = .ok (.aload_n 0, 1) := by decide +kernel
theorem dX1_arrange_63 : decode cX1_arrange 63 = .ok (.iconst 0, 1) := by decide +kernel
theorem dX1_arrange_64 : decode cX1_arrange 64 = .ok (.putfield 24, 3) := by decide +kernel
theorem dX1_arrange_67 : decode cX1_arrange 67 = .ok (.iconst 0, 1) := by decide +kernel
theorem dX1_arrange_68 : decode cX1_arrange 68 = .ok (.istore_n 2, 1) := by decide +kernel
theorem dX1_arrange_69 : decode cX1_arrange 69 = .ok (.iload_n 2, 1) := by decide +kernel
theorem dX1_arrange_70 : decode cX1_arrange 70 = .ok (.iload_n 1, 1) := by decide +kernel
theorem dX1_arrange_71 : decode cX1_arrange 71 = .ok (.if_icmp .ge 71, 3) := by decide +kernel
theorem dX1_arrange_74 : decode cX1_arrange 74 = .ok (.iload_n 2, 1) := by decide +kernel
theorem dX1_arrange_75 : decode cX1_arrange 75 = .ok (.ifCond .eq 24, 3) := by decide +kernel
theorem dX1_arrange_78 : decode cX1_arrange 78 = .ok (.aload_n 0, 1) := by decide +kernel
theorem dX1_arrange_79 : decode cX1_arrange 79 = .ok (.aload_n 0, 1) := by decide +kernel
theorem dX1_arrange_80 : decode cX1_arrange 80 = .ok (.getfield 15, 3) := by decide +kernel
theorem dX1_arrange_83 : decode cX1_arrange 83 = .ok (.iload_n 2, 1) := by decide +kernel
theorem dX1_arrange_84 : decode cX1_arrange 84 = .ok (.iconst 1, 1) := by decide +kernel
theorem dX1_arrange_85 : decode cX1_arrange 85 = .ok (.isub, 1) := by decide +kernel
theorem dX1_arrange_86 : decode cX1_arrange 86 = .ok (.iaload, 1) := by decide +kernel
theorem dX1_arrange_87 : decode cX1_arrange 87 = .ok (.aload_n 0, 1) := by decide +kernel
theorem dX1_arrange_88 : decode cX1_arrange 88 = .ok (.getfield 15, 3) := by decide +kernel
theorem dX1_arrange_91 : decode cX1_arrange 91 = .ok (.iload_n 2, 1) := by decide +kernel
theorem dX1_arrange_92 : decode cX1_arrange 92 = .ok (.iaload, 1) := by decide +kernel
theorem dX1_arrange_93 : decode cX1_arrange 93 = .ok (.invokevirtual 28, 3) := by decide +kernel
theorem dX1_arrange_96 : decode cX1_arrange 96 = .ok (.ifCond .eq 23, 3) := by decide +kernel
theorem dX1_arrange_99 : decode cX1_arrange 99 = .ok (.aload_n 0, 1) := by decide +kernel
theorem dX1_arrange_100 : decode cX1_arrange 100 = .ok (.getfield 21, 3) := by decide +kernel
theorem dX1_arrange_103 : decode cX1_arrange 103 = .ok (.aload_n 0, 1) := by decide +kernel
theorem dX1_arrange_104 : decode cX1_arrange 104 = .ok (.getfield 24, 3) := by decide +kernel
theorem dX1_arrange_107 : decode cX1_arrange 107 = .ok (.iload_n 2, 1) := by decide +kernel
theorem dX1_arrange_108 : decode cX1_arrange 108 = .ok (.iastore, 1) := by decide +kernel
theorem dX1_arrange_109 : decode cX1_arrange 109 = .ok (.aload_n 0, 1) := by decide +kernel
theorem dX1_arrange_110 : decode cX1_arrange 110 = .ok (.dup, 1) := by decide +kernel
theorem dX1_arrange_111 : decode cX1_arrange 111 = .ok (.getfield 24, 3) := by decide +kernel
theorem dX1_arrange_114 : decode cX1_arrange 114 = .ok (.iconst 1, 1) := by decide +kernel
theorem dX1_arrange_115 : decode cX1_arrange 115 = .ok (.iadd, 1) := by decide +kernel
theorem dX1_arrange_116 : decode cX1_arrange 116 = .ok (.putfield 24, 3) := by decide +kernel
theorem dX1_arrange_119 : decode cX1_arrange 119 = .ok (.aload_n 0, 1) := by decide +kernel
theorem dX1_arrange_120 : decode cX1_arrange 120 = .ok (.getfield 18, 3) := by decide +kernel
theorem dX1_arrange_123 : decode cX1_arrange 123 = .ok (.aload_n 0, 1) := by decide +kernel
theorem dX1_arrange_124 : decode cX1_arrange 124 = .ok (.getfield 15, 3) := by decide +kernel
theorem dX1_arrange_127 : decode cX1_arrange 127 = .ok (.iload_n 2, 1) := by decide +kernel
theorem dX1_arrange_128 : decode cX1_arrange 128 = .ok (.iaload, 1) := by decide +kernel
theorem dX1_arrange_129 : decode cX1_arrange 129 = .ok (.aload_n 0, 1) := by decide +kernel
theorem dX1_arrange_130 : decode cX1_arrange 130 = .ok (.getfield 24, 3) := by decide +kernel
theorem dX1_arrange_133 : decode cX1_arrange 133 = .ok (.iconst 1, 1) := by decide +kernel
theorem dX1_arrange_134 : decode cX1_arrange 134 = .ok (.isub, 1) := by decide +kernel
theorem dX1_arrange_135 : decode cX1_arrange 135 = .ok (.iastore, 1) := by decide +kernel
theorem dX1_arrange_136 : decode cX1_arrange 136 = .ok (.iinc 2 1, 3) := by decide +kernel
theorem dX1_arrange_139 : decode cX1_arrange 139 = .ok (.goto (-70), 3) := by decide +kernel
theorem dX1_arrange_142 : decode cX1_arrange 142 = .ok (.aload_n 0, 1) := by decide +kernel
theorem dX1_arrange_143 : decode cX1_arrange 143 = .ok (.getfield 21, 3) := by decide +kernel
theorem dX1_arrange_146 : decode cX1_arrange 146 = .ok (.aload_n 0, 1) := by decide +kernel
theorem dX1_arrange_147 : decode cX1_arrange 147 = .ok (.getfield 24, 3) := by decide +kernel
theorem dX1_arrange_150 : decode cX1_arrange 150 = .ok (.iload_n 1, 1) := by decide +kernel
theorem dX1_arrange_151 : decode cX1_arrange 151 = .ok (.iastore, 1) := by decide +kernel
theorem dX1_arrange_152 : decode cX1_arrange 152 = .ok (.return_, 1) := by decide +kernel
theorem dX1_compareHashes_0 : decode cX1_compareHashes 0 = .ok (.iconst 0, 1) := by decide +kernel
theorem dX1_compareHashes_1 : decode cX1_compareHashes 1 = .ok (.istore_n 3, 1) := by decide +kernel
theorem dX1_compareHashes_2 : decode cX1_compareHashes 2 = .ok (.iload_n 3, 1) := by decide +kernel
theorem dX1_compareHashes_3 : decode cX1_compareHashes 3 = .ok (.bipush 8, 2) := by decide +kernel
theorem dX1_compareHashes_5 : decode cX1_compareHashes 5 = .ok (.if_icmp .ge 61, 3) := by decide +kernel
theorem dX1_compareHashes_8 : decode cX1_compareHashes 8 = .ok (.aload_n 0, 1) := by decide +kernel
theorem dX1_compareHashes_9 : decode cX1_compareHashes 9 = .ok (.getfield 9, 3) := by decide +kernel
theorem dX1_compareHashes_12 : decode cX1_compareHashes 12 = .ok (.iload_n 1, 1) := by decide +kernel
theorem dX1_compareHashes_13 : decode cX1_compareHashes 13 = .ok (.bipush 8, 2) := by decide +kernel
theorem dX1_compareHashes_15 : decode cX1_compareHashes 15 = .ok (.imul, 1) := by decide +kernel
theorem dX1_compareHashes_16 : decode cX1_compareHashes 16 = .ok (.iload_n 3, 1) := by decide +kernel
theorem dX1_compareHashes_17 : decode cX1_compareHashes 17 = .ok (.iadd, 1) := by decide +kernel
theorem dX1_compareHashes_18 : decode cX1_compareHashes 18 = .ok (.iaload, 1) := by decide +kernel
theorem dX1_compareHashes_19 : decode cX1_compareHashes 19 = .ok (.ldc 32, 2) := by decide +kernel
theorem dX1_compareHashes_21 : decode cX1_compareHashes 21 = .ok (.ixor, 1) := by decide +kernel
theorem dX1_compareHashes_22 : decode cX1_compareHashes 22 = .ok (.istore 4, 2) := by decide +kernel
theorem dX1_compareHashes_24 : decode cX1_compareHashes 24 = .ok (.aload_n 0, 1) := by decide +kernel
theorem dX1_compareHashes_25 : decode cX1_compareHashes 25 = .ok (.getfield 9, 3) := by decide +kernel
theorem dX1_compareHashes_28 : decode cX1_compareHashes 28 = .ok (.iload_n 2, 1) := by decide +kernel
theorem dX1_compareHashes_29 : decode cX1_compareHashes 29 = .ok (.bipush 8, 2) := by decide +kernel
theorem dX1_compareHashes_31 : decode cX1_compareHashes 31 = .ok (.imul, 1) := by decide +kernel
theorem dX1_compareHashes_32 : decode cX1_compareHashes 32 = .ok (.iload_n 3, 1) := by decide +kernel
theorem dX1_compareHashes_33 : decode cX1_compareHashes 33 = .ok (.iadd, 1) := by decide +kernel
theorem dX1_compareHashes_34 : decode cX1_compareHashes 34 = .ok (.iaload, 1) := by decide +kernel
theorem dX1_compareHashes_35 : decode cX1_compareHashes 35 = .ok (.ldc 32, 2) := by decide +kernel
theorem dX1_compareHashes_37 : decode cX1_compareHashes 37 = .ok (.ixor, 1) := by decide +kernel
theorem dX1_compareHashes_38 : decode cX1_compareHashes 38 = .ok (.istore 5, 2) := by decide +kernel
theorem dX1_compareHashes_40 : decode cX1_compareHashes 40 = .ok (.iload 4, 2) := by decide +kernel
theorem dX1_compareHashes_42 : decode cX1_compareHashes 42 = .ok (.iload 5, 2) := by decide +kernel
theorem dX1_compareHashes_44 : decode cX1_compareHashes 44 = .ok (.if_icmp .eq 16, 3) := by decide +kernel
theorem dX1_compareHashes_47 : decode cX1_compareHashes 47 = .ok (.iload 4, 2) := by decide +kernel
theorem dX1_compareHashes_49 : decode cX1_compareHashes 49 = .ok (.iload 5, 2) := by decide +kernel
theorem dX1_compareHashes_51 : decode cX1_compareHashes 51 = .ok (.if_icmp .ge 7, 3) := by decide +kernel
theorem dX1_compareHashes_54 : decode cX1_compareHashes 54 = .ok (.iconst (-1), 1) := by decide +kernel
theorem dX1_compareHashes_55 : decode cX1_compareHashes 55 = .ok (.goto 4, 3) := by decide +kernel
theorem dX1_compareHashes_58 : decode cX1_compareHashes 58 = .ok (.iconst 1, 1) := by decide +kernel
theorem dX1_compareHashes_59 : decode cX1_compareHashes 59 = .ok (.ireturn, 1) := by decide +kernel
theorem dX1_compareHashes_60 : decode cX1_compareHashes 60 = .ok (.iinc 3 1, 3) := by decide +kernel
theorem dX1_compareHashes_63 : decode cX1_compareHashes 63 = .ok (.goto (-61), 3) := by decide +kernel
theorem dX1_compareHashes_66 : decode cX1_compareHashes 66 = .ok (.iconst 0, 1) := by decide +kernel
theorem dX1_compareHashes_67 : decode cX1_compareHashes 67 = .ok (.ireturn, 1) := by decide +kernel
theorem dX1_hasHashesOf_0 : decode cX1_hasHashesOf 0 = .ok (.iconst 0, 1) := by decide +kernel
theorem dX1_hasHashesOf_1 : decode cX1_hasHashesOf 1 = .ok (.istore_n 3, 1) := by decide +kernel
theorem dX1_hasHashesOf_2 : decode cX1_hasHashesOf 2 = .ok (.iload_n 3, 1) := by decide +kernel
theorem dX1_hasHashesOf_3 : decode cX1_hasHashesOf 3 = .ok (.iload_n 2, 1) := by decide +kernel
theorem dX1_hasHashesOf_4 : decode cX1_hasHashesOf 4 = .ok (.if_icmp .ge 64, 3) := by decide +kernel
theorem dX1_hasHashesOf_7 : decode cX1_hasHashesOf 7 = .ok (.iconst 0, 1) := by decide +kernel
theorem dX1_hasHashesOf_8 : decode cX1_hasHashesOf 8 = .ok (.istore 4, 2) := by decide +kernel
theorem dX1_hasHashesOf_10 : decode cX1_hasHashesOf 10 = .ok (.iload 4, 2) := by decide +kernel
theorem dX1_hasHashesOf_12 : decode cX1_hasHashesOf 12 = .ok (.bipush 8, 2) := by decide +kernel
theorem dX1_hasHashesOf_14 : decode cX1_hasHashesOf 14 = .ok (.if_icmp .ge 48, 3) := by decide +kernel
theorem dX1_hasHashesOf_17 : decode cX1_hasHashesOf 17 = .ok (.aload_n 0, 1) := by decide +kernel
theorem dX1_hasHashesOf_18 : decode cX1_hasHashesOf 18 = .ok (.getfield 9, 3) := by decide +kernel
theorem dX1_hasHashesOf_21 : decode cX1_hasHashesOf 21 = .ok (.aload_n 0, 1) := by decide +kernel
theorem dX1_hasHashesOf_22 : decode cX1_hasHashesOf 22 = .ok (.getfield 15, 3) := by decide +kernel
theorem dX1_hasHashesOf_25 : decode cX1_hasHashesOf 25 = .ok (.iload_n 3, 1) := by decide +kernel
theorem dX1_hasHashesOf_26 : decode cX1_hasHashesOf 26 = .ok (.iaload, 1) := by decide +kernel
theorem dX1_hasHashesOf_27 : decode cX1_hasHashesOf 27 = .ok (.bipush 8, 2) := by decide +kernel
theorem dX1_hasHashesOf_29 : decode cX1_hasHashesOf 29 = .ok (.imul, 1) := by decide +kernel
theorem dX1_hasHashesOf_30 : decode cX1_hasHashesOf 30 = .ok (.iload 4, 2) := by decide +kernel
theorem dX1_hasHashesOf_32 : decode cX1_hasHashesOf 32 = .ok (.iadd, 1) := by decide +kernel
theorem dX1_hasHashesOf_33 : decode cX1_hasHashesOf 33 = .ok (.iaload, 1) := by decide +kernel
theorem dX1_hasHashesOf_34 : decode cX1_hasHashesOf 34 = .ok (.aload_n 1, 1) := by decide +kernel
theorem dX1_hasHashesOf_35 : decode cX1_hasHashesOf 35 = .ok (.getfield 9, 3) := by decide +kernel
theorem dX1_hasHashesOf_38 : decode cX1_hasHashesOf 38 = .ok (.aload_n 1, 1) := by decide +kernel
theorem dX1_hasHashesOf_39 : decode cX1_hasHashesOf 39 = .ok (.getfield 15, 3) := by decide +kernel
theorem dX1_hasHashesOf_42 : decode cX1_hasHashesOf 42 = .ok (.iload_n 3, 1) := by decide +kernel
theorem dX1_hasHashesOf_43 : decode cX1_hasHashesOf 43 = .ok (.iaload, 1) := by decide +kernel
theorem dX1_hasHashesOf_44 : decode cX1_hasHashesOf 44 = .ok (.bipush 8, 2) := by decide +kernel
theorem dX1_hasHashesOf_46 : decode cX1_hasHashesOf 46 = .ok (.imul, 1) := by decide +kernel
theorem dX1_hasHashesOf_47 : decode cX1_hasHashesOf 47 = .ok (.iload 4, 2) := by decide +kernel
theorem dX1_hasHashesOf_49 : decode cX1_hasHashesOf 49 = .ok (.iadd, 1) := by decide +kernel
theorem dX1_hasHashesOf_50 : decode cX1_hasHashesOf 50 = .ok (.iaload, 1) := by decide +kernel
theorem dX1_hasHashesOf_51 : decode cX1_hasHashesOf 51 = .ok (.if_icmp .eq 5, 3) := by decide +kernel
theorem dX1_hasHashesOf_54 : decode cX1_hasHashesOf 54 = .ok (.iconst 0, 1) := by decide +kernel
theorem dX1_hasHashesOf_55 : decode cX1_hasHashesOf 55 = .ok (.ireturn, 1) := by decide +kernel
theorem dX1_hasHashesOf_56 : decode cX1_hasHashesOf 56 = .ok (.iinc 4 1, 3) := by decide +kernel
theorem dX1_hasHashesOf_59 : decode cX1_hasHashesOf 59 = .ok (.goto (-49), 3) := by decide +kernel
theorem dX1_hasHashesOf_62 : decode cX1_hasHashesOf 62 = .ok (.iinc 3 1, 3) := by decide +kernel
theorem dX1_hasHashesOf_65 : decode cX1_hasHashesOf 65 = .ok (.goto (-63), 3) := by decide +kernel
theorem dX1_hasHashesOf_68 : decode cX1_hasHashesOf 68 = .ok (.iconst 1, 1) := by decide +kernel
theorem dX1_hasHashesOf_69 : decode cX1_hasHashesOf 69 = .ok (.ireturn, 1) := by decide +kernel
theorem dX1_namings_0 : decode cX1_namings 0 = .ok (.iconst 1, 1) := by decide +kernel
theorem dX1_namings_1 : decode cX1_namings 1 = .ok (.istore_n 1, 1) := by decide +kernel
theorem dX1_namings_2 : decode cX1_namings 2 = .ok (.iconst 0, 1) := by decide +kernel
theorem dX1_namings_3 : decode cX1_namings 3 = .ok (.istore_n 2, 1) := by decide +kernel
theorem dX1_namings_4 : decode cX1_namings 4 = .ok (.iload_n 2, 1) := by decide +kernel
theorem dX1_namings_5 : decode cX1_namings 5 = .ok (.aload_n 0, 1) := by decide +kernel
theorem dX1_namings_6 : decode cX1_namings 6 = .ok (.getfield 24, 3) := by decide +kernel
theorem dX1_namings_9 : decode cX1_namings 9 = .ok (.if_icmp .ge 30, 3) := by decide +kernel
theorem dX1_namings_12 : decode cX1_namings 12 = .ok (.iconst 2, 1) := by decide +kernel
theorem dX1_namings_13 : decode cX1_namings 13 = .ok (.istore_n 3, 1) := by decide +kernel
theorem dX1_namings_14 : decode cX1_namings 14 = .ok (.iload_n 3, 1) := by decide +kernel
theorem dX1_namings_15 : decode cX1_namings 15 = .ok (.aload_n 0, 1) := by decide +kernel
theorem dX1_namings_16 : decode cX1_namings 16 = .ok (.iload_n 2, 1) := by decide +kernel
theorem dX1_namings_17 : decode cX1_namings 17 = .ok (.invokevirtual 33, 3) := by decide +kernel
theorem dX1_namings_20 : decode cX1_namings 20 = .ok (.if_icmp .gt 13, 3) := by decide +kernel
theorem dX1_namings_23 : decode cX1_namings 23 = .ok (.iload_n 1, 1) := by decide +kernel
theorem dX1_namings_24 : decode cX1_namings 24 = .ok (.iload_n 3, 1) := by decide +kernel
theorem dX1_namings_25 : decode cX1_namings 25 = .ok (.imul, 1) := by decide +kernel
theorem dX1_namings_26 : decode cX1_namings 26 = .ok (.istore_n 1, 1) := by decide +kernel
theorem dX1_namings_27 : decode cX1_namings 27 = .ok (.iinc 3 1, 3) := by decide +kernel
theorem dX1_namings_30 : decode cX1_namings 30 = .ok (.goto (-16), 3) := by decide +kernel
theorem dX1_namings_33 : decode cX1_namings 33 = .ok (.iinc 2 1, 3) := by decide +kernel
theorem dX1_namings_36 : decode cX1_namings 36 = .ok (.goto (-32), 3) := by decide +kernel
theorem dX1_namings_39 : decode cX1_namings 39 = .ok (.iload_n 1, 1) := by decide +kernel
theorem dX1_namings_40 : decode cX1_namings 40 = .ok (.ireturn, 1) := by decide +kernel
theorem dX2_init_0 : decode cX2_init 0 = .ok (.aload_n 0, 1) := by decide +kernel
theorem dX2_init_1 : decode cX2_init 1 = .ok (.invokespecial 3, 3) := by decide +kernel
theorem dX2_init_4 : decode cX2_init 4 = .ok (.aload_n 0, 1) := by decide +kernel
theorem dX2_init_5 : decode cX2_init 5 = .ok (.new 9, 3) := by decide +kernel
theorem dX2_init_8 : decode cX2_init 8 = .ok (.dup, 1) := by decide +kernel
theorem dX2_init_9 : decode cX2_init 9 = .ok (.invokespecial 11, 3) := by decide +kernel
theorem dX2_init_12 : decode cX2_init 12 = .ok (.putfield 12, 3) := by decide +kernel
theorem dX2_init_15 : decode cX2_init 15 = .ok (.aload_n 0, 1) := by decide +kernel
theorem dX2_init_16 : decode cX2_init 16 = .ok (.bipush 40, 2) := by decide +kernel
theorem dX2_init_18 : decode cX2_init 18 = .ok (.newarray .int, 2) := by decide +kernel
theorem dX2_init_20 : decode cX2_init 20 = .ok (.putfield 18, 3) := by decide +kernel
theorem dX2_init_23 : decode cX2_init 23 = .ok (.aload_n 0, 1) := by decide +kernel
theorem dX2_init_24 : decode cX2_init 24 = .ok (.new 22, 3) := by decide +kernel
theorem dX2_init_27 : decode cX2_init 27 = .ok (.dup, 1) := by decide +kernel
theorem dX2_init_28 : decode cX2_init 28 = .ok (.invokespecial 24, 3) := by decide +kernel
theorem dX2_init_31 : decode cX2_init 31 = .ok (.putfield 25, 3) := by decide +kernel
theorem dX2_init_34 : decode cX2_init 34 = .ok (.return_, 1) := by decide +kernel
theorem dX2_refresh_0 : decode cX2_refresh 0 = .ok (.aload_n 1, 1) := by decide +kernel
theorem dX2_refresh_1 : decode cX2_refresh 1 = .ok (.getfield 29, 3) := by decide +kernel
theorem dX2_refresh_4 : decode cX2_refresh 4 = .ok (.ifCond .eq 4, 3) := by decide +kernel
theorem dX2_refresh_7 : decode cX2_refresh 7 = .ok (.return_, 1) := by decide +kernel
theorem dX2_refresh_8 : decode cX2_refresh 8 = .ok (.iconst 0, 1) := by decide +kernel
theorem dX2_refresh_9 : decode cX2_refresh 9 = .ok (.istore_n 2, 1) := by decide +kernel
theorem dX2_refresh_10 : decode cX2_refresh 10 = .ok (.iload_n 2, 1) := by decide +kernel
theorem dX2_refresh_11 : decode cX2_refresh 11 = .ok (.aload_n 1, 1) := by decide +kernel
theorem dX2_refresh_12 : decode cX2_refresh 12 = .ok (.getfield 35, 3) := by decide +kernel
theorem dX2_refresh_15 : decode cX2_refresh 15 = .ok (.if_icmp .ge 29, 3) := by decide +kernel
theorem dX2_refresh_18 : decode cX2_refresh 18 = .ok (.getstatic 39, 3) := by decide +kernel
theorem dX2_refresh_21 : decode cX2_refresh 21 = .ok (.iconst 0, 1) := by decide +kernel
theorem dX2_refresh_22 : decode cX2_refresh 22 = .ok (.aload_n 1, 1) := by decide +kernel
theorem dX2_refresh_23 : decode cX2_refresh 23 = .ok (.getfield 42, 3) := by decide +kernel
theorem dX2_refresh_26 : decode cX2_refresh 26 = .ok (.getfield 45, 3) := by decide +kernel
theorem dX2_refresh_29 : decode cX2_refresh 29 = .ok (.iload_n 2, 1) := by decide +kernel
theorem dX2_refresh_30 : decode cX2_refresh 30 = .ok (.bipush 8, 2) := by decide +kernel
theorem dX2_refresh_32 : decode cX2_refresh 32 = .ok (.imul, 1) := by decide +kernel
theorem dX2_refresh_33 : decode cX2_refresh 33 = .ok (.bipush 8, 2) := by decide +kernel
theorem dX2_refresh_35 : decode cX2_refresh 35 = .ok (.invokestatic 48, 3) := by decide +kernel
theorem dX2_refresh_38 : decode cX2_refresh 38 = .ok (.iinc 2 1, 3) := by decide +kernel
theorem dX2_refresh_41 : decode cX2_refresh 41 = .ok (.goto (-31), 3) := by decide +kernel
theorem dX2_refresh_44 : decode cX2_refresh 44 = .ok (.aload_n 1, 1) := by decide +kernel
theorem dX2_refresh_45 : decode cX2_refresh 45 = .ok (.getfield 42, 3) := by decide +kernel
theorem dX2_refresh_48 : decode cX2_refresh 48 = .ok (.aload_n 1, 1) := by decide +kernel
theorem dX2_refresh_49 : decode cX2_refresh 49 = .ok (.getfield 35, 3) := by decide +kernel
theorem dX2_refresh_52 : decode cX2_refresh 52 = .ok (.invokevirtual 54, 3) := by decide +kernel
theorem dX2_refresh_55 : decode cX2_refresh 55 = .ok (.aload_n 1, 1) := by decide +kernel
theorem dX2_refresh_56 : decode cX2_refresh 56 = .ok (.getfield 35, 3) := by decide +kernel
theorem dX2_refresh_59 : decode cX2_refresh 59 = .ok (.iconst 2, 1) := by decide +kernel
theorem dX2_refresh_60 : decode cX2_refresh 60 = .ok (.if_icmp .ge 7, 3) := by decide +kernel
theorem dX2_refresh_63 : decode cX2_refresh 63 = .ok (.iconst 1, 1) := by decide +kernel
theorem dX2_refresh_64 : decode cX2_refresh 64 = .ok (.goto 4, 3) := by decide +kernel
theorem dX2_refresh_67 : decode cX2_refresh 67 = .ok (.iconst 0, 1) := by decide +kernel
theorem dX2_refresh_68 : decode cX2_refresh 68 = .ok (.istore_n 2, 1) := by decide +kernel
theorem dX2_refresh_69 : decode cX2_refresh 69 = .ok (.iconst 1, 1) := by decide +kernel
theorem dX2_refresh_70 : decode cX2_refresh 70 = .ok (.istore_n 3, 1) := by decide +kernel
theorem dX2_refresh_71 : decode cX2_refresh 71 = .ok (.aload_n 1, 1) := by decide +kernel
theorem dX2_refresh_72 : decode cX2_refresh 72 = .ok (.iconst 0, 1) := by decide +kernel
theorem dX2_refresh_73 : decode cX2_refresh 73 = .ok (.putfield 58, 3) := by decide +kernel
theorem dX2_refresh_76 : decode cX2_refresh 76 = .ok (.iconst 0, 1) := by decide +kernel
theorem dX2_refresh_77 : decode cX2_refresh 77 = .ok (.istore 4, 2) := by decide +kernel
theorem dX2_refresh_79 : decode cX2_refresh 79 = .ok (.iload_n 3, 1) := by decide +kernel
theorem dX2_refresh_80 : decode cX2_refresh 80 = .ok (.ifCond .eq 45, 3) := by decide +kernel
theorem dX2_refresh_83 : decode cX2_refresh 83 = .ok (.iload 4, 2) := by decide +kernel
theorem dX2_refresh_85 : decode cX2_refresh 85 = .ok (.bipush 8, 2) := by decide +kernel
theorem dX2_refresh_87 : decode cX2_refresh 87 = .ok (.if_icmp .ge 38, 3) := by decide +kernel
theorem dX2_refresh_90 : decode cX2_refresh 90 = .ok (.aload_n 0, 1) := by decide +kernel
theorem dX2_refresh_91 : decode cX2_refresh 91 = .ok (.aload_n 1, 1) := by decide +kernel
theorem dX2_refresh_92 : decode cX2_refresh 92 = .ok (.invokevirtual 61, 3) := by decide +kernel
theorem dX2_refresh_95 : decode cX2_refresh 95 = .ok (.istore_n 3, 1) := by decide +kernel
theorem dX2_refresh_96 : decode cX2_refresh 96 = .ok (.iload_n 3, 1) := by decide +kernel
theorem dX2_refresh_97 : decode cX2_refresh 97 = .ok (.ifCond .ne 7, 3) := by decide +kernel
theorem dX2_refresh_100 : decode cX2_refresh 100 = .ok (.iload_n 2, 1) := by decide +kernel
theorem dX2_refresh_101 : decode cX2_refresh 101 = .ok (.ifCond .eq 8, 3) := by decide +kernel
theorem dX2_refresh_104 : decode cX2_refresh 104 = .ok (.aload_n 0, 1) := by decide +kernel
theorem dX2_refresh_105 : decode cX2_refresh 105 = .ok (.aload_n 1, 1) := by decide +kernel
theorem dX2_refresh_106 : decode cX2_refresh 106 = .ok (.invokevirtual 65, 3) := by decide +kernel
theorem dX2_refresh_109 : decode cX2_refresh 109 = .ok (.aload_n 1, 1) := by decide +kernel
theorem dX2_refresh_110 : decode cX2_refresh 110 = .ok (.dup, 1) := by decide +kernel
theorem dX2_refresh_111 : decode cX2_refresh 111 = .ok (.getfield 58, 3) := by decide +kernel
theorem dX2_refresh_114 : decode cX2_refresh 114 = .ok (.iconst 1, 1) := by decide +kernel
theorem dX2_refresh_115 : decode cX2_refresh 115 = .ok (.iadd, 1) := by decide +kernel
theorem dX2_refresh_116 : decode cX2_refresh 116 = .ok (.putfield 58, 3) := by decide +kernel
theorem dX2_refresh_119 : decode cX2_refresh 119 = .ok (.iinc 4 1, 3) := by decide +kernel
theorem dX2_refresh_122 : decode cX2_refresh 122 = .ok (.goto (-43), 3) := by decide +kernel
theorem dX2_refresh_125 : decode cX2_refresh 125 = .ok (.aload_n 1, 1) := by decide +kernel
theorem dX2_refresh_126 : decode cX2_refresh 126 = .ok (.iconst 1, 1) := by decide +kernel
theorem dX2_refresh_127 : decode cX2_refresh 127 = .ok (.putfield 29, 3) := by decide +kernel
theorem dX2_refresh_130 : decode cX2_refresh 130 = .ok (.return_, 1) := by decide +kernel
theorem dX2_makesMore_0 : decode cX2_makesMore 0 = .ok (.aload_n 1, 1) := by decide +kernel
theorem dX2_makesMore_1 : decode cX2_makesMore 1 = .ok (.getfield 35, 3) := by decide +kernel
theorem dX2_makesMore_4 : decode cX2_makesMore 4 = .ok (.iconst 2, 1) := by decide +kernel
theorem dX2_makesMore_5 : decode cX2_makesMore 5 = .ok (.if_icmp .lt 19, 3) := by decide +kernel
theorem dX2_makesMore_8 : decode cX2_makesMore 8 = .ok (.aload_n 1, 1) := by decide +kernel
theorem dX2_makesMore_9 : decode cX2_makesMore 9 = .ok (.getfield 42, 3) := by decide +kernel
theorem dX2_makesMore_12 : decode cX2_makesMore 12 = .ok (.getfield 69, 3) := by decide +kernel
theorem dX2_makesMore_15 : decode cX2_makesMore 15 = .ok (.aload_n 1, 1) := by decide +kernel
theorem dX2_makesMore_16 : decode cX2_makesMore 16 = .ok (.getfield 35, 3) := by decide +kernel
theorem dX2_makesMore_19 : decode cX2_makesMore 19 = .ok (.if_icmp .ne 5, 3) := by decide +kernel
theorem dX2_makesMore_22 : decode cX2_makesMore 22 = .ok (.iconst 0, 1) := by decide +kernel
theorem dX2_makesMore_23 : decode cX2_makesMore 23 = .ok (.ireturn, 1) := by decide +kernel
theorem dX2_makesMore_24 : decode cX2_makesMore 24 = .ok (.iconst 0, 1) := by decide +kernel
theorem dX2_makesMore_25 : decode cX2_makesMore 25 = .ok (.istore_n 2, 1) := by decide +kernel
theorem dX2_makesMore_26 : decode cX2_makesMore 26 = .ok (.iload_n 2, 1) := by decide +kernel
theorem dX2_makesMore_27 : decode cX2_makesMore 27 = .ok (.aload_n 1, 1) := by decide +kernel
theorem dX2_makesMore_28 : decode cX2_makesMore 28 = .ok (.getfield 35, 3) := by decide +kernel
theorem dX2_makesMore_31 : decode cX2_makesMore 31 = .ok (.if_icmp .ge 157, 3) := by decide +kernel
theorem dX2_makesMore_34 : decode cX2_makesMore 34 = .ok (.aload_n 0, 1) := by decide +kernel
theorem dX2_makesMore_35 : decode cX2_makesMore 35 = .ok (.aload_n 1, 1) := by decide +kernel
theorem dX2_makesMore_36 : decode cX2_makesMore 36 = .ok (.iload_n 2, 1) := by decide +kernel
theorem dX2_makesMore_37 : decode cX2_makesMore 37 = .ok (.invokevirtual 72, 3) := by decide +kernel
theorem dX2_makesMore_40 : decode cX2_makesMore 40 = .ok (.istore_n 3, 1) := by decide +kernel
theorem dX2_makesMore_41 : decode cX2_makesMore 41 = .ok (.aload_n 0, 1) := by decide +kernel
theorem dX2_makesMore_42 : decode cX2_makesMore 42 = .ok (.getfield 18, 3) := by decide +kernel
theorem dX2_makesMore_45 : decode cX2_makesMore 45 = .ok (.iload_n 3, 1) := by decide +kernel
theorem dX2_makesMore_46 : decode cX2_makesMore 46 = .ok (.invokestatic 76, 3) := by decide +kernel
theorem dX2_makesMore_49 : decode cX2_makesMore 49 = .ok (.aload_n 0, 1) := by decide +kernel
theorem dX2_makesMore_50 : decode cX2_makesMore 50 = .ok (.getfield 12, 3) := by decide +kernel
theorem dX2_makesMore_53 : decode cX2_makesMore 53 = .ok (.invokevirtual 80, 3) := by decide +kernel
theorem dX2_makesMore_56 : decode cX2_makesMore 56 = .ok (.aload_n 0, 1) := by decide +kernel
theorem dX2_makesMore_57 : decode cX2_makesMore 57 = .ok (.aload_n 1, 1) := by decide +kernel
theorem dX2_makesMore_58 : decode cX2_makesMore 58 = .ok (.getfield 42, 3) := by decide +kernel
theorem dX2_makesMore_61 : decode cX2_makesMore 61 = .ok (.sipush 1002, 3) := by decide +kernel
theorem dX2_makesMore_64 : decode cX2_makesMore 64 = .ok (.aload_n 1, 1) := by decide +kernel
theorem dX2_makesMore_65 : decode cX2_makesMore 65 = .ok (.getfield 42, 3) := by decide +kernel
theorem dX2_makesMore_68 : decode cX2_makesMore 68 = .ok (.getfield 83, 3) := by decide +kernel
theorem dX2_makesMore_71 : decode cX2_makesMore 71 = .ok (.iload_n 2, 1) := by decide +kernel
theorem dX2_makesMore_72 : decode cX2_makesMore 72 = .ok (.iaload, 1) := by decide +kernel
theorem dX2_makesMore_73 : decode cX2_makesMore 73 = .ok (.iadd, 1) := by decide +kernel
theorem dX2_makesMore_74 : decode cX2_makesMore 74 = .ok (.invokevirtual 86, 3) := by decide +kernel
theorem dX2_makesMore_77 : decode cX2_makesMore 77 = .ok (.iconst 0, 1) := by decide +kernel
theorem dX2_makesMore_78 : decode cX2_makesMore 78 = .ok (.istore 4, 2) := by decide +kernel
theorem dX2_makesMore_80 : decode cX2_makesMore 80 = .ok (.iload 4, 2) := by decide +kernel
theorem dX2_makesMore_82 : decode cX2_makesMore 82 = .ok (.iload_n 3, 1) := by decide +kernel
theorem dX2_makesMore_83 : decode cX2_makesMore 83 = .ok (.if_icmp .ge 81, 3) := by decide +kernel
theorem dX2_makesMore_86 : decode cX2_makesMore 86 = .ok (.iconst 0, 1) := by decide +kernel
theorem dX2_makesMore_87 : decode cX2_makesMore 87 = .ok (.istore 5, 2) := by decide +kernel
theorem dX2_makesMore_89 : decode cX2_makesMore 89 = .ok (.iload 5, 2) := by decide +kernel
theorem dX2_makesMore_91 : decode cX2_makesMore 91 = .ok (.iconst 3, 1) := by decide +kernel
theorem dX2_makesMore_92 : decode cX2_makesMore 92 = .ok (.if_icmp .ge 66, 3) := by decide +kernel
theorem dX2_makesMore_95 : decode cX2_makesMore 95 = .ok (.aload_n 0, 1) := by decide +kernel
theorem dX2_makesMore_96 : decode cX2_makesMore 96 = .ok (.getfield 18, 3) := by decide +kernel
theorem dX2_makesMore_99 : decode cX2_makesMore 99 = .ok (.iload 4, 2) := by decide +kernel
theorem dX2_makesMore_101 : decode cX2_makesMore 101 = .ok (.iaload, 1) := by decide +kernel
theorem dX2_makesMore_102 : decode cX2_makesMore 102 = .ok (.iload 5, 2) := by decide +kernel
theorem dX2_makesMore_104 : decode cX2_makesMore 104 = .ok (.invokestatic 90, 3) := by decide +kernel
theorem dX2_makesMore_107 : decode cX2_makesMore 107 = .ok (.istore 6, 2) := by decide +kernel
theorem dX2_makesMore_109 : decode cX2_makesMore 109 = .ok (.aload_n 0, 1) := by decide +kernel
theorem dX2_makesMore_110 : decode cX2_makesMore 110 = .ok (.getfield 12, 3) := by decide +kernel
theorem dX2_makesMore_113 : decode cX2_makesMore 113 = .ok (.iload 6, 2) := by decide +kernel
theorem dX2_makesMore_115 : decode cX2_makesMore 115 = .ok (.sipush 1001, 3) := by decide +kernel
theorem dX2_makesMore_118 : decode cX2_makesMore 118 = .ok (.if_icmp .ge 7, 3) := by decide +kernel
theorem dX2_makesMore_121 : decode cX2_makesMore 121 = .ok (.iconst 0, 1) := by decide +kernel
theorem dX2_makesMore_122 : decode cX2_makesMore 122 = .ok (.goto 16, 3) := by decide +kernel
theorem dX2_makesMore_125 : decode cX2_makesMore 125 = .ok (.iload 6, 2) := by decide +kernel
theorem dX2_makesMore_127 : decode cX2_makesMore 127 = .ok (.sipush 1001, 3) := by decide +kernel
theorem dX2_makesMore_130 : decode cX2_makesMore 130 = .ok (.if_icmp .ne 7, 3) := by decide +kernel
theorem dX2_makesMore_133 : decode cX2_makesMore 133 = .ok (.iconst 1, 1) := by decide +kernel
theorem dX2_makesMore_134 : decode cX2_makesMore 134 = .ok (.goto 4, 3) := by decide +kernel
theorem dX2_makesMore_137 : decode cX2_makesMore 137 = .ok (.iconst 2, 1) := by decide +kernel
theorem dX2_makesMore_138 : decode cX2_makesMore 138 = .ok (.iconst 1, 1) := by decide +kernel
theorem dX2_makesMore_139 : decode cX2_makesMore 139 = .ok (.invokevirtual 94, 3) := by decide +kernel
theorem dX2_makesMore_142 : decode cX2_makesMore 142 = .ok (.aload_n 0, 1) := by decide +kernel
theorem dX2_makesMore_143 : decode cX2_makesMore 143 = .ok (.aload_n 1, 1) := by decide +kernel
theorem dX2_makesMore_144 : decode cX2_makesMore 144 = .ok (.getfield 42, 3) := by decide +kernel
theorem dX2_makesMore_147 : decode cX2_makesMore 147 = .ok (.iload 6, 2) := by decide +kernel
theorem dX2_makesMore_149 : decode cX2_makesMore 149 = .ok (.invokevirtual 86, 3) := by decide +kernel
theorem dX2_makesMore_152 : decode cX2_makesMore 152 = .ok (.iinc 5 1, 3) := by decide +kernel
theorem dX2_makesMore_155 : decode cX2_makesMore 155 = .ok (.goto (-66), 3) := by decide +kernel
theorem dX2_makesMore_158 : decode cX2_makesMore 158 = .ok (.iinc 4 1, 3) := by decide +kernel
theorem dX2_makesMore_161 : decode cX2_makesMore 161 = .ok (.goto (-81), 3) := by decide +kernel
theorem dX2_makesMore_164 : decode cX2_makesMore 164 = .ok (.aload_n 0, 1) := by decide +kernel
theorem dX2_makesMore_165 : decode cX2_makesMore 165 = .ok (.getfield 12, 3) := by decide +kernel
theorem dX2_makesMore_168 : decode cX2_makesMore 168 = .ok (.aload_n 0, 1) := by decide +kernel
theorem dX2_makesMore_169 : decode cX2_makesMore 169 = .ok (.getfield 25, 3) := by decide +kernel
theorem dX2_makesMore_172 : decode cX2_makesMore 172 = .ok (.getfield 45, 3) := by decide +kernel
theorem dX2_makesMore_175 : decode cX2_makesMore 175 = .ok (.iload_n 2, 1) := by decide +kernel
theorem dX2_makesMore_176 : decode cX2_makesMore 176 = .ok (.bipush 8, 2) := by decide +kernel
theorem dX2_makesMore_178 : decode cX2_makesMore 178 = .ok (.imul, 1) := by decide +kernel
theorem dX2_makesMore_179 : decode cX2_makesMore 179 = .ok (.invokevirtual 98, 3) := by decide +kernel
theorem dX2_makesMore_182 : decode cX2_makesMore 182 = .ok (.iinc 2 1, 3) := by decide +kernel
theorem dX2_makesMore_185 : decode cX2_makesMore 185 = .ok (.goto (-159), 3) := by decide +kernel
theorem dX2_makesMore_188 : decode cX2_makesMore 188 = .ok (.aload_n 0, 1) := by decide +kernel
theorem dX2_makesMore_189 : decode cX2_makesMore 189 = .ok (.getfield 25, 3) := by decide +kernel
theorem dX2_makesMore_192 : decode cX2_makesMore 192 = .ok (.aload_n 1, 1) := by decide +kernel
theorem dX2_makesMore_193 : decode cX2_makesMore 193 = .ok (.getfield 35, 3) := by decide +kernel
theorem dX2_makesMore_196 : decode cX2_makesMore 196 = .ok (.invokevirtual 54, 3) := by decide +kernel
theorem dX2_makesMore_199 : decode cX2_makesMore 199 = .ok (.aload_n 0, 1) := by decide +kernel
theorem dX2_makesMore_200 : decode cX2_makesMore 200 = .ok (.getfield 25, 3) := by decide +kernel
theorem dX2_makesMore_203 : decode cX2_makesMore 203 = .ok (.getfield 69, 3) := by decide +kernel
theorem dX2_makesMore_206 : decode cX2_makesMore 206 = .ok (.aload_n 1, 1) := by decide +kernel
theorem dX2_makesMore_207 : decode cX2_makesMore 207 = .ok (.getfield 42, 3) := by decide +kernel
theorem dX2_makesMore_210 : decode cX2_makesMore 210 = .ok (.getfield 69, 3) := by decide +kernel
theorem dX2_makesMore_213 : decode cX2_makesMore 213 = .ok (.if_icmp .le 7, 3) := by decide +kernel
theorem dX2_makesMore_216 : decode cX2_makesMore 216 = .ok (.iconst 1, 1) := by decide +kernel
theorem dX2_makesMore_217 : decode cX2_makesMore 217 = .ok (.goto 4, 3) := by decide +kernel
theorem dX2_makesMore_220 : decode cX2_makesMore 220 = .ok (.iconst 0, 1) := by decide +kernel
theorem dX2_makesMore_221 : decode cX2_makesMore 221 = .ok (.ireturn, 1) := by decide +kernel
theorem dX2_takeRound_0 : decode cX2_takeRound 0 = .ok (.aload_n 1, 1) := by decide +kernel
theorem dX2_takeRound_1 : decode cX2_takeRound 1 = .ok (.getfield 42, 3) := by decide +kernel
theorem dX2_takeRound_4 : decode cX2_takeRound 4 = .ok (.astore_n 2, 1) := by decide +kernel
theorem dX2_takeRound_5 : decode cX2_takeRound 5 = .ok (.aload_n 1, 1) := by decide +kernel
theorem dX2_takeRound_6 : decode cX2_takeRound 6 = .ok (.aload_n 0, 1) := by decide +kernel
theorem dX2_takeRound_7 : decode cX2_takeRound 7 = .ok (.getfield 25, 3) := by decide +kernel
theorem dX2_takeRound_10 : decode cX2_takeRound 10 = .ok (.putfield 42, 3) := by decide +kernel
theorem dX2_takeRound_13 : decode cX2_takeRound 13 = .ok (.aload_n 0, 1) := by decide +kernel
theorem dX2_takeRound_14 : decode cX2_takeRound 14 = .ok (.aload_n 2, 1) := by decide +kernel
theorem dX2_takeRound_15 : decode cX2_takeRound 15 = .ok (.putfield 25, 3) := by decide +kernel
theorem dX2_takeRound_18 : decode cX2_takeRound 18 = .ok (.return_, 1) := by decide +kernel
theorem dX2_describe_0 : decode cX2_describe 0 = .ok (.iconst 0, 1) := by decide +kernel
theorem dX2_describe_1 : decode cX2_describe 1 = .ok (.istore_n 3, 1) := by decide +kernel
theorem dX2_describe_2 : decode cX2_describe 2 = .ok (.iconst 0, 1) := by decide +kernel
theorem dX2_describe_3 : decode cX2_describe 3 = .ok (.istore 4, 2) := by decide +kernel
theorem dX2_describe_5 : decode cX2_describe 5 = .ok (.iload 4, 2) := by decide +kernel
theorem dX2_describe_7 : decode cX2_describe 7 = .ok (.aload_n 1, 1) := by decide +kernel
theorem dX2_describe_8 : decode cX2_describe 8 = .ok (.getfield 101, 3) := by decide +kernel
theorem dX2_describe_11 : decode cX2_describe 11 = .ok (.if_icmp .ge 98, 3) := by decide +kernel
theorem dX2_describe_14 : decode cX2_describe 14 = .ok (.iconst 0, 1) := by decide +kernel
theorem dX2_describe_15 : decode cX2_describe 15 = .ok (.istore 5, 2) := by decide +kernel
theorem dX2_describe_17 : decode cX2_describe 17 = .ok (.iconst 0, 1) := by decide +kernel
theorem dX2_describe_18 : decode cX2_describe 18 = .ok (.istore 6, 2) := by decide +kernel
theorem dX2_describe_20 : decode cX2_describe 20 = .ok (.iconst 0, 1) := by decide +kernel
theorem dX2_describe_21 : decode cX2_describe 21 = .ok (.istore 7, 2) := by decide +kernel
theorem dX2_describe_23 : decode cX2_describe 23 = .ok (.iload 7, 2) := by decide +kernel
theorem dX2_describe_25 : decode cX2_describe 25 = .ok (.iconst 3, 1) := by decide +kernel
theorem dX2_describe_26 : decode cX2_describe 26 = .ok (.if_icmp .ge 61, 3) := by decide +kernel
theorem dX2_describe_29 : decode cX2_describe 29 = .ok (.aload_n 1, 1) := by decide +kernel
theorem dX2_describe_30 : decode cX2_describe 30 = .ok (.getfield 104, 3) := by decide +kernel
theorem dX2_describe_33 : decode cX2_describe 33 = .ok (.iload 4, 2) := by decide +kernel
theorem dX2_describe_35 : decode cX2_describe 35 = .ok (.iaload, 1) := by decide +kernel
theorem dX2_describe_36 : decode cX2_describe 36 = .ok (.iload 7, 2) := by decide +kernel
theorem dX2_describe_38 : decode cX2_describe 38 = .ok (.invokestatic 107, 3) := by decide +kernel
theorem dX2_describe_41 : decode cX2_describe 41 = .ok (.istore 8, 2) := by decide +kernel
theorem dX2_describe_43 : decode cX2_describe 43 = .ok (.iload 6, 2) := by decide +kernel
theorem dX2_describe_45 : decode cX2_describe 45 = .ok (.ifCond .ne 11, 3) := by decide +kernel
theorem dX2_describe_48 : decode cX2_describe 48 = .ok (.iload 8, 2) := by decide +kernel
theorem dX2_describe_50 : decode cX2_describe 50 = .ok (.iconst (-1), 1) := by decide +kernel
theorem dX2_describe_51 : decode cX2_describe 51 = .ok (.iload_n 2, 1) := by decide +kernel
theorem dX2_describe_52 : decode cX2_describe 52 = .ok (.isub, 1) := by decide +kernel
theorem dX2_describe_53 : decode cX2_describe 53 = .ok (.if_icmp .ne 7, 3) := by decide +kernel
theorem dX2_describe_56 : decode cX2_describe 56 = .ok (.iconst 1, 1) := by decide +kernel
theorem dX2_describe_57 : decode cX2_describe 57 = .ok (.goto 4, 3) := by decide +kernel
theorem dX2_describe_60 : decode cX2_describe 60 = .ok (.iconst 0, 1) := by decide +kernel
theorem dX2_describe_61 : decode cX2_describe 61 = .ok (.istore 6, 2) := by decide +kernel
theorem dX2_describe_63 : decode cX2_describe 63 = .ok (.iload 5, 2) := by decide +kernel
theorem dX2_describe_65 : decode cX2_describe 65 = .ok (.bipush 10, 2) := by decide +kernel
theorem dX2_describe_67 : decode cX2_describe 67 = .ok (.ishl, 1) := by decide +kernel
theorem dX2_describe_68 : decode cX2_describe 68 = .ok (.aload_n 1, 1) := by decide +kernel
theorem dX2_describe_69 : decode cX2_describe 69 = .ok (.getfield 42, 3) := by decide +kernel
theorem dX2_describe_72 : decode cX2_describe 72 = .ok (.iload 8, 2) := by decide +kernel
theorem dX2_describe_74 : decode cX2_describe 74 = .ok (.iload_n 2, 1) := by decide +kernel
theorem dX2_describe_75 : decode cX2_describe 75 = .ok (.invokestatic 110, 3) := by decide +kernel
theorem dX2_describe_78 : decode cX2_describe 78 = .ok (.ior, 1) := by decide +kernel
theorem dX2_describe_79 : decode cX2_describe 79 = .ok (.istore 5, 2) := by decide +kernel
theorem dX2_describe_81 : decode cX2_describe 81 = .ok (.iinc 7 1, 3) := by decide +kernel
theorem dX2_describe_84 : decode cX2_describe 84 = .ok (.goto (-61), 3) := by decide +kernel
theorem dX2_describe_87 : decode cX2_describe 87 = .ok (.iload 6, 2) := by decide +kernel
theorem dX2_describe_89 : decode cX2_describe 89 = .ok (.ifCond .eq 14, 3) := by decide +kernel
theorem dX2_describe_92 : decode cX2_describe 92 = .ok (.aload_n 0, 1) := by decide +kernel
theorem dX2_describe_93 : decode cX2_describe 93 = .ok (.getfield 18, 3) := by decide +kernel
theorem dX2_describe_96 : decode cX2_describe 96 = .ok (.iload_n 3, 1) := by decide +kernel
theorem dX2_describe_97 : decode cX2_describe 97 = .ok (.iload 5, 2) := by decide +kernel
theorem dX2_describe_99 : decode cX2_describe 99 = .ok (.iastore, 1) := by decide +kernel
theorem dX2_describe_100 : decode cX2_describe 100 = .ok (.iinc 3 1, 3) := by decide +kernel
theorem dX2_describe_103 : decode cX2_describe 103 = .ok (.iinc 4 1, 3) := by decide +kernel
theorem dX2_describe_106 : decode cX2_describe 106 = .ok (.goto (-101), 3) := by decide +kernel
theorem dX2_describe_109 : decode cX2_describe 109 = .ok (.iload_n 3, 1) := by decide +kernel
theorem dX2_describe_110 : decode cX2_describe 110 = .ok (.ireturn, 1) := by decide +kernel
theorem dX2_partFor_0 : decode cX2_partFor 0 = .ok (.iload_n 1, 1) := by decide +kernel
theorem dX2_partFor_1 : decode cX2_partFor 1 = .ok (.ifCond .lt 5, 3) := by decide +kernel
theorem dX2_partFor_4 : decode cX2_partFor 4 = .ok (.iload_n 1, 1) := by decide +kernel
theorem dX2_partFor_5 : decode cX2_partFor 5 = .ok (.ireturn, 1) := by decide +kernel
theorem dX2_partFor_6 : decode cX2_partFor 6 = .ok (.iload_n 1, 1) := by decide +kernel
theorem dX2_partFor_7 : decode cX2_partFor 7 = .ok (.iconst (-1), 1) := by decide +kernel
theorem dX2_partFor_8 : decode cX2_partFor 8 = .ok (.iload_n 2, 1) := by decide +kernel
theorem dX2_partFor_9 : decode cX2_partFor 9 = .ok (.isub, 1) := by decide +kernel
theorem dX2_partFor_10 : decode cX2_partFor 10 = .ok (.if_icmp .ne 9, 3) := by decide +kernel
theorem dX2_partFor_13 : decode cX2_partFor 13 = .ok (.sipush 1001, 3) := by decide +kernel
theorem dX2_partFor_16 : decode cX2_partFor 16 = .ok (.goto 15, 3) := by decide +kernel
theorem dX2_partFor_19 : decode cX2_partFor 19 = .ok (.sipush 1002, 3) := by decide +kernel
theorem dX2_partFor_22 : decode cX2_partFor 22 = .ok (.aload_n 0, 1) := by decide +kernel
theorem dX2_partFor_23 : decode cX2_partFor 23 = .ok (.getfield 83, 3) := by decide +kernel
theorem dX2_partFor_26 : decode cX2_partFor 26 = .ok (.iconst (-1), 1) := by decide +kernel
theorem dX2_partFor_27 : decode cX2_partFor 27 = .ok (.iload_n 1, 1) := by decide +kernel
theorem dX2_partFor_28 : decode cX2_partFor 28 = .ok (.isub, 1) := by decide +kernel
theorem dX2_partFor_29 : decode cX2_partFor 29 = .ok (.iaload, 1) := by decide +kernel
theorem dX2_partFor_30 : decode cX2_partFor 30 = .ok (.iadd, 1) := by decide +kernel
theorem dX2_partFor_31 : decode cX2_partFor 31 = .ok (.ireturn, 1) := by decide +kernel
theorem dX2_putContent_0 : decode cX2_putContent 0 = .ok (.iload_n 2, 1) := by decide +kernel
theorem dX2_putContent_1 : decode cX2_putContent 1 = .ok (.sipush 1001, 3) := by decide +kernel
theorem dX2_putContent_4 : decode cX2_putContent 4 = .ok (.if_icmp .ge 12, 3) := by decide +kernel
theorem dX2_putContent_7 : decode cX2_putContent 7 = .ok (.aload_n 0, 1) := by decide +kernel
theorem dX2_putContent_8 : decode cX2_putContent 8 = .ok (.getfield 12, 3) := by decide +kernel
theorem dX2_putContent_11 : decode cX2_putContent 11 = .ok (.iload_n 2, 1) := by decide +kernel
theorem dX2_putContent_12 : decode cX2_putContent 12 = .ok (.iconst 4, 1) := by decide +kernel
theorem dX2_putContent_13 : decode cX2_putContent 13 = .ok (.invokevirtual 94, 3) := by decide +kernel
theorem dX2_putContent_16 : decode cX2_putContent 16 = .ok (.iload_n 2, 1) := by decide +kernel
theorem dX2_putContent_17 : decode cX2_putContent 17 = .ok (.sipush 1002, 3) := by decide +kernel
theorem dX2_putContent_20 : decode cX2_putContent 20 = .ok (.if_icmp .lt 55, 3) := by decide +kernel
theorem dX2_putContent_23 : decode cX2_putContent 23 = .ok (.aload_n 1, 1) := by decide +kernel
theorem dX2_putContent_24 : decode cX2_putContent 24 = .ok (.getfield 114, 3) := by decide +kernel
theorem dX2_putContent_27 : decode cX2_putContent 27 = .ok (.aload_n 1, 1) := by decide +kernel
theorem dX2_putContent_28 : decode cX2_putContent 28 = .ok (.getfield 117, 3) := by decide +kernel
theorem dX2_putContent_31 : decode cX2_putContent 31 = .ok (.iload_n 2, 1) := by decide +kernel
theorem dX2_putContent_32 : decode cX2_putContent 32 = .ok (.sipush 1002, 3) := by decide +kernel
theorem dX2_putContent_35 : decode cX2_putContent 35 = .ok (.isub, 1) := by decide +kernel
theorem dX2_putContent_36 : decode cX2_putContent 36 = .ok (.iaload, 1) := by decide +kernel
theorem dX2_putContent_37 : decode cX2_putContent 37 = .ok (.iaload, 1) := by decide +kernel
theorem dX2_putContent_38 : decode cX2_putContent 38 = .ok (.istore_n 3, 1) := by decide +kernel
theorem dX2_putContent_39 : decode cX2_putContent 39 = .ok (.iconst 0, 1) := by decide +kernel
theorem dX2_putContent_40 : decode cX2_putContent 40 = .ok (.istore 4, 2) := by decide +kernel
theorem dX2_putContent_42 : decode cX2_putContent 42 = .ok (.iload 4, 2) := by decide +kernel
theorem dX2_putContent_44 : decode cX2_putContent 44 = .ok (.bipush 8, 2) := by decide +kernel
theorem dX2_putContent_46 : decode cX2_putContent 46 = .ok (.if_icmp .ge 29, 3) := by decide +kernel
theorem dX2_putContent_49 : decode cX2_putContent 49 = .ok (.aload_n 0, 1) := by decide +kernel
theorem dX2_putContent_50 : decode cX2_putContent 50 = .ok (.getfield 12, 3) := by decide +kernel
theorem dX2_putContent_53 : decode cX2_putContent 53 = .ok (.aload_n 1, 1) := by decide +kernel
theorem dX2_putContent_54 : decode cX2_putContent 54 = .ok (.getfield 45, 3) := by decide +kernel
theorem dX2_putContent_57 : decode cX2_putContent 57 = .ok (.iload_n 3, 1) := by decide +kernel
theorem dX2_putContent_58 : decode cX2_putContent 58 = .ok (.bipush 8, 2) := by decide +kernel
theorem dX2_putContent_60 : decode cX2_putContent 60 = .ok (.imul, 1) := by decide +kernel
theorem dX2_putContent_61 : decode cX2_putContent 61 = .ok (.iload 4, 2) := by decide +kernel
theorem dX2_putContent_63 : decode cX2_putContent 63 = .ok (.iadd, 1) := by decide +kernel
theorem dX2_putContent_64 : decode cX2_putContent 64 = .ok (.iaload, 1) := by decide +kernel
theorem dX2_putContent_65 : decode cX2_putContent 65 = .ok (.iconst 4, 1) := by decide +kernel
theorem dX2_putContent_66 : decode cX2_putContent 66 = .ok (.invokevirtual 94, 3) := by decide +kernel
theorem dX2_putContent_69 : decode cX2_putContent 69 = .ok (.iinc 4 1, 3) := by decide +kernel
theorem dX2_putContent_72 : decode cX2_putContent 72 = .ok (.goto (-30), 3) := by decide +kernel
theorem dX2_putContent_75 : decode cX2_putContent 75 = .ok (.return_, 1) := by decide +kernel
theorem dX3_init_0 : decode cX3_init 0 = .ok (.aload_n 0, 1) := by decide +kernel
theorem dX3_init_1 : decode cX3_init 1 = .ok (.invokespecial 3, 3) := by decide +kernel
theorem dX3_init_4 : decode cX3_init 4 = .ok (.aload_n 0, 1) := by decide +kernel
theorem dX3_init_5 : decode cX3_init 5 = .ok (.bipush 8, 2) := by decide +kernel
theorem dX3_init_7 : decode cX3_init 7 = .ok (.newarray .int, 2) := by decide +kernel
theorem dX3_init_9 : decode cX3_init 9 = .ok (.putfield 9, 3) := by decide +kernel
theorem dX3_init_12 : decode cX3_init 12 = .ok (.aload_n 0, 1) := by decide +kernel
theorem dX3_init_13 : decode cX3_init 13 = .ok (.bipush 8, 2) := by decide +kernel
theorem dX3_init_15 : decode cX3_init 15 = .ok (.newarray .int, 2) := by decide +kernel
theorem dX3_init_17 : decode cX3_init 17 = .ok (.putfield 15, 3) := by decide +kernel
theorem dX3_init_20 : decode cX3_init 20 = .ok (.aload_n 0, 1) := by decide +kernel
theorem dX3_init_21 : decode cX3_init 21 = .ok (.bipush 40, 2) := by decide +kernel
theorem dX3_init_23 : decode cX3_init 23 = .ok (.newarray .int, 2) := by decide +kernel
theorem dX3_init_25 : decode cX3_init 25 = .ok (.putfield 18, 3) := by decide +kernel
theorem dX3_init_28 : decode cX3_init 28 = .ok (.aload_n 0, 1) := by decide +kernel
theorem dX3_init_29 : decode cX3_init 29 = .ok (.iconst 0, 1) := by decide +kernel
theorem dX3_init_30 : decode cX3_init 30 = .ok (.putfield 21, 3) := by decide +kernel
theorem dX3_init_33 : decode cX3_init 33 = .ok (.return_, 1) := by decide +kernel
theorem dX3_find_0 : decode cX3_find 0 = .ok (.aload_n 2, 1) := by decide +kernel
theorem dX3_find_1 : decode cX3_find 1 = .ok (.aload_n 1, 1) := by decide +kernel
theorem dX3_find_2 : decode cX3_find 2 = .ok (.getfield 25, 3) := by decide +kernel
theorem dX3_find_5 : decode cX3_find 5 = .ok (.putfield 25, 3) := by decide +kernel
theorem dX3_find_8 : decode cX3_find 8 = .ok (.aload_n 2, 1) := by decide +kernel
theorem dX3_find_9 : decode cX3_find 9 = .ok (.aload_n 1, 1) := by decide +kernel
theorem dX3_find_10 : decode cX3_find 10 = .ok (.getfield 31, 3) := by decide +kernel
theorem dX3_find_13 : decode cX3_find 13 = .ok (.putfield 31, 3) := by decide +kernel
theorem dX3_find_16 : decode cX3_find 16 = .ok (.iconst 0, 1) := by decide +kernel
theorem dX3_find_17 : decode cX3_find 17 = .ok (.istore_n 3, 1) := by decide +kernel
theorem dX3_find_18 : decode cX3_find 18 = .ok (.iload_n 3, 1) := by decide +kernel
theorem dX3_find_19 : decode cX3_find 19 = .ok (.aload_n 1, 1) := by decide +kernel
theorem dX3_find_20 : decode cX3_find 20 = .ok (.getfield 25, 3) := by decide +kernel
theorem dX3_find_23 : decode cX3_find 23 = .ok (.if_icmp .ge 35, 3) := by decide +kernel
theorem dX3_find_26 : decode cX3_find 26 = .ok (.aload_n 2, 1) := by decide +kernel
theorem dX3_find_27 : decode cX3_find 27 = .ok (.getfield 34, 3) := by decide +kernel
theorem dX3_find_30 : decode cX3_find 30 = .ok (.getfield 38, 3) := by decide +kernel
theorem dX3_find_33 : decode cX3_find 33 = .ok (.iload_n 3, 1) := by decide +kernel
theorem dX3_find_34 : decode cX3_find 34 = .ok (.aload_n 1, 1) := by decide +kernel
theorem dX3_find_35 : decode cX3_find 35 = .ok (.getfield 34, 3) := by decide +kernel
theorem dX3_find_38 : decode cX3_find 38 = .ok (.getfield 38, 3) := by decide +kernel
theorem dX3_find_41 : decode cX3_find 41 = .ok (.aload_n 1, 1) := by decide +kernel
theorem dX3_find_42 : decode cX3_find 42 = .ok (.getfield 34, 3) := by decide +kernel
theorem dX3_find_45 : decode cX3_find 45 = .ok (.getfield 43, 3) := by decide +kernel
theorem dX3_find_48 : decode cX3_find 48 = .ok (.iload_n 3, 1) := by decide +kernel
theorem dX3_find_49 : decode cX3_find 49 = .ok (.iaload, 1) := by decide +kernel
theorem dX3_find_50 : decode cX3_find 50 = .ok (.iaload, 1) := by decide +kernel
theorem dX3_find_51 : decode cX3_find 51 = .ok (.iastore, 1) := by decide +kernel
theorem dX3_find_52 : decode cX3_find 52 = .ok (.iinc 3 1, 3) := by decide +kernel
theorem dX3_find_55 : decode cX3_find 55 = .ok (.goto (-37), 3) := by decide +kernel
theorem dX3_find_58 : decode cX3_find 58 = .ok (.aload_n 0, 1) := by decide +kernel
theorem dX3_find_59 : decode cX3_find 59 = .ok (.iconst 0, 1) := by decide +kernel
theorem dX3_find_60 : decode cX3_find 60 = .ok (.putfield 21, 3) := by decide +kernel
theorem dX3_find_63 : decode cX3_find 63 = .ok (.aload_n 0, 1) := by decide +kernel
theorem dX3_find_64 : decode cX3_find 64 = .ok (.aload_n 1, 1) := by decide +kernel
theorem dX3_find_65 : decode cX3_find 65 = .ok (.aload_n 2, 1) := by decide +kernel
theorem dX3_find_66 : decode cX3_find 66 = .ok (.aload_n 1, 1) := by decide +kernel
theorem dX3_find_67 : decode cX3_find 67 = .ok (.getfield 25, 3) := by decide +kernel
theorem dX3_find_70 : decode cX3_find 70 = .ok (.iconst 0, 1) := by decide +kernel
theorem dX3_find_71 : decode cX3_find 71 = .ok (.invokevirtual 46, 3) := by decide +kernel
theorem dX3_find_74 : decode cX3_find 74 = .ok (.pop, 1) := by decide +kernel
theorem dX3_find_75 : decode cX3_find 75 = .ok (.return_, 1) := by decide +kernel
theorem dX3_search_0 : decode cX3_search 0 = .ok (.aload_n 0, 1) := by decide +kernel
theorem dX3_search_1 : decode cX3_search 1 = .ok (.aload_n 1, 1) := by decide +kernel
theorem dX3_search_2 : decode cX3_search 2 = .ok (.iload_n 3, 1) := by decide +kernel
theorem dX3_search_3 : decode cX3_search 3 = .ok (.iload 4, 2) := by decide +kernel
theorem dX3_search_5 : decode cX3_search 5 = .ok (.invokevirtual 50, 3) := by decide +kernel
theorem dX3_search_8 : decode cX3_search 8 = .ok (.aload_n 0, 1) := by decide +kernel
theorem dX3_search_9 : decode cX3_search 9 = .ok (.getfield 21, 3) := by decide +kernel
theorem dX3_search_12 : decode cX3_search 12 = .ok (.ifCond .eq 21, 3) := by decide +kernel
theorem dX3_search_15 : decode cX3_search 15 = .ok (.aload_n 0, 1) := by decide +kernel
theorem dX3_search_16 : decode cX3_search 16 = .ok (.getfield 18, 3) := by decide +kernel
theorem dX3_search_19 : decode cX3_search 19 = .ok (.aload_n 2, 1) := by decide +kernel
theorem dX3_search_20 : decode cX3_search 20 = .ok (.getfield 54, 3) := by decide +kernel
theorem dX3_search_23 : decode cX3_search 23 = .ok (.aload_n 2, 1) := by decide +kernel
theorem dX3_search_24 : decode cX3_search 24 = .ok (.getfield 31, 3) := by decide +kernel
theorem dX3_search_27 : decode cX3_search 27 = .ok (.invokestatic 57, 3) := by decide +kernel
theorem dX3_search_30 : decode cX3_search 30 = .ok (.goto 4, 3) := by decide +kernel
theorem dX3_search_33 : decode cX3_search 33 = .ok (.iconst (-1), 1) := by decide +kernel
theorem dX3_search_34 : decode cX3_search 34 = .ok (.istore 5, 2) := by decide +kernel
theorem dX3_search_36 : decode cX3_search 36 = .ok (.iload_n 3, 1) := by decide +kernel
theorem dX3_search_37 : decode cX3_search 37 = .ok (.iconst 1, 1) := by decide +kernel
theorem dX3_search_38 : decode cX3_search 38 = .ok (.if_icmp .lt 9, 3) := by decide +kernel
theorem dX3_search_41 : decode cX3_search 41 = .ok (.iload_n 3, 1) := by decide +kernel
theorem dX3_search_42 : decode cX3_search 42 = .ok (.bipush 8, 2) := by decide +kernel
theorem dX3_search_44 : decode cX3_search 44 = .ok (.if_icmp .le 12, 3) := by decide +kernel
theorem dX3_search_47 : decode cX3_search 47 = .ok (.aload_n 0, 1) := by decide +kernel
theorem dX3_search_48 : decode cX3_search 48 = .ok (.aload_n 1, 1) := by decide +kernel
theorem dX3_search_49 : decode cX3_search 49 = .ok (.aload_n 2, 1) := by decide +kernel
theorem dX3_search_50 : decode cX3_search 50 = .ok (.iload 5, 2) := by decide +kernel
theorem dX3_search_52 : decode cX3_search 52 = .ok (.invokevirtual 61, 3) := by decide +kernel
theorem dX3_search_55 : decode cX3_search 55 = .ok (.ireturn, 1) := by decide +kernel
theorem dX3_search_56 : decode cX3_search 56 = .ok (.iload 5, 2) := by decide +kernel
theorem dX3_search_58 : decode cX3_search 58 = .ok (.ifCond .le 5, 3) := by decide +kernel
theorem dX3_search_61 : decode cX3_search 61 = .ok (.iconst 0, 1) := by decide +kernel
theorem dX3_search_62 : decode cX3_search 62 = .ok (.ireturn, 1) := by decide +kernel
theorem dX3_search_63 : decode cX3_search 63 = .ok (.aload_n 1, 1) := by decide +kernel
theorem dX3_search_64 : decode cX3_search 64 = .ok (.getfield 34, 3) := by decide +kernel
theorem dX3_search_67 : decode cX3_search 67 = .ok (.astore 6, 2) := by decide +kernel
theorem dX3_search_69 : decode cX3_search 69 = .ok (.aload_n 2, 1) := by decide +kernel
theorem dX3_search_70 : decode cX3_search 70 = .ok (.getfield 34, 3) := by decide +kernel
theorem dX3_search_73 : decode cX3_search 73 = .ok (.getfield 38, 3) := by decide +kernel
theorem dX3_search_76 : decode cX3_search 76 = .ok (.iload_n 3, 1) := by decide +kernel
theorem dX3_search_77 : decode cX3_search 77 = .ok (.iconst 1, 1) := by decide +kernel
theorem dX3_search_78 : decode cX3_search 78 = .ok (.isub, 1) := by decide +kernel
theorem dX3_search_79 : decode cX3_search 79 = .ok (.iaload, 1) := by decide +kernel
theorem dX3_search_80 : decode cX3_search 80 = .ok (.istore 7, 2) := by decide +kernel
theorem dX3_search_82 : decode cX3_search 82 = .ok (.aload 6, 2) := by decide +kernel
theorem dX3_search_84 : decode cX3_search 84 = .ok (.getfield 65, 3) := by decide +kernel
theorem dX3_search_87 : decode cX3_search 87 = .ok (.iload 7, 2) := by decide +kernel
theorem dX3_search_89 : decode cX3_search 89 = .ok (.iaload, 1) := by decide +kernel
theorem dX3_search_90 : decode cX3_search 90 = .ok (.istore 8, 2) := by decide +kernel
theorem dX3_search_92 : decode cX3_search 92 = .ok (.iload 8, 2) := by decide +kernel
theorem dX3_search_94 : decode cX3_search 94 = .ok (.aload 6, 2) := by decide +kernel
theorem dX3_search_96 : decode cX3_search 96 = .ok (.getfield 65, 3) := by decide +kernel
theorem dX3_search_99 : decode cX3_search 99 = .ok (.iload 7, 2) := by decide +kernel
theorem dX3_search_101 : decode cX3_search 101 = .ok (.iconst 1, 1) := by decide +kernel
theorem dX3_search_102 : decode cX3_search 102 = .ok (.iadd, 1) := by decide +kernel
theorem dX3_search_103 : decode cX3_search 103 = .ok (.iaload, 1) := by decide +kernel
theorem dX3_search_104 : decode cX3_search 104 = .ok (.if_icmp .ge 64, 3) := by decide +kernel
theorem dX3_search_107 : decode cX3_search 107 = .ok (.aload 6, 2) := by decide +kernel
theorem dX3_search_109 : decode cX3_search 109 = .ok (.getfield 43, 3) := by decide +kernel
theorem dX3_search_112 : decode cX3_search 112 = .ok (.iload 8, 2) := by decide +kernel
theorem dX3_search_114 : decode cX3_search 114 = .ok (.iaload, 1) := by decide +kernel
theorem dX3_search_115 : decode cX3_search 115 = .ok (.istore 9, 2) := by decide +kernel
theorem dX3_search_117 : decode cX3_search 117 = .ok (.iload 4, 2) := by decide +kernel
theorem dX3_search_119 : decode cX3_search 119 = .ok (.iload 9, 2) := by decide +kernel
theorem dX3_search_121 : decode cX3_search 121 = .ok (.ishr, 1) := by decide +kernel
theorem dX3_search_122 : decode cX3_search 122 = .ok (.iconst 1, 1) := by decide +kernel
theorem dX3_search_123 : decode cX3_search 123 = .ok (.iand, 1) := by decide +kernel
theorem dX3_search_124 : decode cX3_search 124 = .ok (.ifCond .ne 38, 3) := by decide +kernel
theorem dX3_search_127 : decode cX3_search 127 = .ok (.aload_n 0, 1) := by decide +kernel
theorem dX3_search_128 : decode cX3_search 128 = .ok (.getfield 9, 3) := by decide +kernel
theorem dX3_search_131 : decode cX3_search 131 = .ok (.iload 9, 2) := by decide +kernel
theorem dX3_search_133 : decode cX3_search 133 = .ok (.iload_n 3, 1) := by decide +kernel
theorem dX3_search_134 : decode cX3_search 134 = .ok (.iastore, 1) := by decide +kernel
theorem dX3_search_135 : decode cX3_search 135 = .ok (.aload_n 0, 1) := by decide +kernel
theorem dX3_search_136 : decode cX3_search 136 = .ok (.aload_n 1, 1) := by decide +kernel
theorem dX3_search_137 : decode cX3_search 137 = .ok (.aload_n 2, 1) := by decide +kernel
theorem dX3_search_138 : decode cX3_search 138 = .ok (.iload_n 3, 1) := by decide +kernel
theorem dX3_search_139 : decode cX3_search 139 = .ok (.iconst 1, 1) := by decide +kernel
theorem dX3_search_140 : decode cX3_search 140 = .ok (.isub, 1) := by decide +kernel
theorem dX3_search_141 : decode cX3_search 141 = .ok (.iload 4, 2) := by decide +kernel
theorem dX3_search_143 : decode cX3_search 143 = .ok (.iconst 1, 1) := by decide +kernel
theorem dX3_search_144 : decode cX3_search 144 = .ok (.iload 9, 2) := by decide +kernel
theorem dX3_search_146 : decode cX3_search 146 = .ok (.ishl, 1) := by decide +kernel
theorem dX3_search_147 : decode cX3_search 147 = .ok (.ior, 1) := by decide +kernel
theorem dX3_search_148 : decode cX3_search 148 = .ok (.invokevirtual 46, 3) := by decide +kernel
theorem dX3_search_151 : decode cX3_search 151 = .ok (.istore 10, 2) := by decide +kernel
theorem dX3_search_153 : decode cX3_search 153 = .ok (.iload 10, 2) := by decide +kernel
theorem dX3_search_155 : decode cX3_search 155 = .ok (.iload_n 3, 1) := by decide +kernel
theorem dX3_search_156 : decode cX3_search 156 = .ok (.if_icmp .le 6, 3) := by decide +kernel
theorem dX3_search_159 : decode cX3_search 159 = .ok (.iload 10, 2) := by decide +kernel
theorem dX3_search_161 : decode cX3_search 161 = .ok (.ireturn, 1) := by decide +kernel
theorem dX3_search_162 : decode cX3_search 162 = .ok (.iinc 8 1, 3) := by decide +kernel
theorem dX3_search_165 : decode cX3_search 165 = .ok (.goto (-73), 3) := by decide +kernel
theorem dX3_search_168 : decode cX3_search 168 = .ok (.iconst 0, 1) := by decide +kernel
theorem dX3_search_169 : decode cX3_search 169 = .ok (.ireturn, 1) := by decide +kernel
theorem dX3_settle_0 : decode cX3_settle 0 = .ok (.iload_n 3, 1) := by decide +kernel
theorem dX3_settle_1 : decode cX3_settle 1 = .ok (.ifCond .ge 42, 3) := by decide +kernel
theorem dX3_settle_4 : decode cX3_settle 4 = .ok (.aload_n 0, 1) := by decide +kernel
theorem dX3_settle_5 : decode cX3_settle 5 = .ok (.getfield 18, 3) := by decide +kernel
theorem dX3_settle_8 : decode cX3_settle 8 = .ok (.iconst 0, 1) := by decide +kernel
theorem dX3_settle_9 : decode cX3_settle 9 = .ok (.aload_n 2, 1) := by decide +kernel
theorem dX3_settle_10 : decode cX3_settle 10 = .ok (.getfield 54, 3) := by decide +kernel
theorem dX3_settle_13 : decode cX3_settle 13 = .ok (.iconst 0, 1) := by decide +kernel
theorem dX3_settle_14 : decode cX3_settle 14 = .ok (.aload_n 2, 1) := by decide +kernel
theorem dX3_settle_15 : decode cX3_settle 15 = .ok (.getfield 31, 3) := by decide +kernel
theorem dX3_settle_18 : decode cX3_settle 18 = .ok (.invokestatic 68, 3) := by decide +kernel
theorem dX3_settle_21 : decode cX3_settle 21 = .ok (.aload_n 0, 1) := by decide +kernel
theorem dX3_settle_22 : decode cX3_settle 22 = .ok (.getfield 9, 3) := by decide +kernel
theorem dX3_settle_25 : decode cX3_settle 25 = .ok (.iconst 0, 1) := by decide +kernel
theorem dX3_settle_26 : decode cX3_settle 26 = .ok (.aload_n 0, 1) := by decide +kernel
theorem dX3_settle_27 : decode cX3_settle 27 = .ok (.getfield 15, 3) := by decide +kernel
theorem dX3_settle_30 : decode cX3_settle 30 = .ok (.iconst 0, 1) := by decide +kernel
theorem dX3_settle_31 : decode cX3_settle 31 = .ok (.aload_n 1, 1) := by decide +kernel
theorem dX3_settle_32 : decode cX3_settle 32 = .ok (.getfield 25, 3) := by decide +kernel
theorem dX3_settle_35 : decode cX3_settle 35 = .ok (.invokestatic 68, 3) := by decide +kernel
theorem dX3_settle_38 : decode cX3_settle 38 = .ok (.aload_n 0, 1) := by decide +kernel
theorem dX3_settle_39 : decode cX3_settle 39 = .ok (.iconst 1, 1) := by decide +kernel
theorem dX3_settle_40 : decode cX3_settle 40 = .ok (.putfield 21, 3) := by decide +kernel
theorem dX3_settle_43 : decode cX3_settle 43 = .ok (.iload_n 3, 1) := by decide +kernel
theorem dX3_settle_44 : decode cX3_settle 44 = .ok (.ifCond .ne 14, 3) := by decide +kernel
theorem dX3_settle_47 : decode cX3_settle 47 = .ok (.aload_n 0, 1) := by decide +kernel
theorem dX3_settle_48 : decode cX3_settle 48 = .ok (.aload_n 1, 1) := by decide +kernel
theorem dX3_settle_49 : decode cX3_settle 49 = .ok (.getfield 25, 3) := by decide +kernel
theorem dX3_settle_52 : decode cX3_settle 52 = .ok (.invokevirtual 74, 3) := by decide +kernel
theorem dX3_settle_55 : decode cX3_settle 55 = .ok (.goto 4, 3) := by decide +kernel
theorem dX3_settle_58 : decode cX3_settle 58 = .ok (.iconst 0, 1) := by decide +kernel
theorem dX3_settle_59 : decode cX3_settle 59 = .ok (.ireturn, 1) := by decide +kernel
theorem dX3_greatestDifference_0 : decode cX3_greatestDifference 0 = .ok (.iconst 0, 1) := by decide +kernel
theorem dX3_greatestDifference_1 : decode cX3_greatestDifference 1 = .ok (.istore_n 2, 1) := by decide +kernel
theorem dX3_greatestDifference_2 : decode cX3_greatestDifference 2 = .ok (.iconst 0, 1) := by decide +kernel
theorem dX3_greatestDifference_3 : decode cX3_greatestDifference 3 = .ok (.istore_n 3, 1) := by decide +kernel
theorem dX3_greatestDifference_4 : decode cX3_greatestDifference 4 = .ok (.iload_n 3, 1) := by decide +kernel
theorem dX3_greatestDifference_5 : decode cX3_greatestDifference 5 = .ok (.iload_n 1, 1) := by decide +kernel
theorem dX3_greatestDifference_6 : decode cX3_greatestDifference 6 = .ok (.if_icmp .ge 35, 3) := by decide +kernel
theorem dX3_greatestDifference_9 : decode cX3_greatestDifference 9 = .ok (.aload_n 0, 1) := by decide +kernel
theorem dX3_greatestDifference_10 : decode cX3_greatestDifference 10 = .ok (.getfield 9, 3) := by decide +kernel
theorem dX3_greatestDifference_13 : decode cX3_greatestDifference 13 = .ok (.iload_n 3, 1) := by decide +kernel
theorem dX3_greatestDifference_14 : decode cX3_greatestDifference 14 = .ok (.iaload, 1) := by decide +kernel
theorem dX3_greatestDifference_15 : decode cX3_greatestDifference 15 = .ok (.aload_n 0, 1) := by decide +kernel
theorem dX3_greatestDifference_16 : decode cX3_greatestDifference 16 = .ok (.getfield 15, 3) := by decide +kernel
theorem dX3_greatestDifference_19 : decode cX3_greatestDifference 19 = .ok (.iload_n 3, 1) := by decide +kernel
theorem dX3_greatestDifference_20 : decode cX3_greatestDifference 20 = .ok (.iaload, 1) := by decide +kernel
theorem dX3_greatestDifference_21 : decode cX3_greatestDifference 21 = .ok (.if_icmp .eq 14, 3) := by decide +kernel
theorem dX3_greatestDifference_24 : decode cX3_greatestDifference 24 = .ok (.iload_n 2, 1) := by decide +kernel
theorem dX3_greatestDifference_25 : decode cX3_greatestDifference 25 = .ok (.aload_n 0, 1) := by decide +kernel
theorem dX3_greatestDifference_26 : decode cX3_greatestDifference 26 = .ok (.getfield 9, 3) := by decide +kernel
theorem dX3_greatestDifference_29 : decode cX3_greatestDifference 29 = .ok (.iload_n 3, 1) := by decide +kernel
theorem dX3_greatestDifference_30 : decode cX3_greatestDifference 30 = .ok (.iaload, 1) := by decide +kernel
theorem dX3_greatestDifference_31 : decode cX3_greatestDifference 31 = .ok (.invokestatic 78, 3) := by decide +kernel
theorem dX3_greatestDifference_34 : decode cX3_greatestDifference 34 = .ok (.istore_n 2, 1) := by decide +kernel
theorem dX3_greatestDifference_35 : decode cX3_greatestDifference 35 = .ok (.iinc 3 1, 3) := by decide +kernel
theorem dX3_greatestDifference_38 : decode cX3_greatestDifference 38 = .ok (.goto (-34), 3) := by decide +kernel
theorem dX3_greatestDifference_41 : decode cX3_greatestDifference 41 = .ok (.iload_n 2, 1) := by decide +kernel
theorem dX3_greatestDifference_42 : decode cX3_greatestDifference 42 = .ok (.ireturn, 1) := by decide +kernel
theorem dX3_layTrial_0 : decode cX3_layTrial 0 = .ok (.aload_n 1, 1) := by decide +kernel
theorem dX3_layTrial_1 : decode cX3_layTrial 1 = .ok (.getfield 34, 3) := by decide +kernel
theorem dX3_layTrial_4 : decode cX3_layTrial 4 = .ok (.astore 4, 2) := by decide +kernel
theorem dX3_layTrial_6 : decode cX3_layTrial 6 = .ok (.iconst 0, 1) := by decide +kernel
theorem dX3_layTrial_7 : decode cX3_layTrial 7 = .ok (.istore 5, 2) := by decide +kernel
theorem dX3_layTrial_9 : decode cX3_layTrial 9 = .ok (.iload 5, 2) := by decide +kernel
theorem dX3_layTrial_11 : decode cX3_layTrial 11 = .ok (.aload_n 1, 1) := by decide +kernel
theorem dX3_layTrial_12 : decode cX3_layTrial 12 = .ok (.getfield 25, 3) := by decide +kernel
theorem dX3_layTrial_15 : decode cX3_layTrial 15 = .ok (.if_icmp .ge 45, 3) := by decide +kernel
theorem dX3_layTrial_18 : decode cX3_layTrial 18 = .ok (.iload_n 3, 1) := by decide +kernel
theorem dX3_layTrial_19 : decode cX3_layTrial 19 = .ok (.iload 5, 2) := by decide +kernel
theorem dX3_layTrial_21 : decode cX3_layTrial 21 = .ok (.ishr, 1) := by decide +kernel
theorem dX3_layTrial_22 : decode cX3_layTrial 22 = .ok (.iconst 1, 1) := by decide +kernel
theorem dX3_layTrial_23 : decode cX3_layTrial 23 = .ok (.iand, 1) := by decide +kernel
theorem dX3_layTrial_24 : decode cX3_layTrial 24 = .ok (.ifCond .ne 30, 3) := by decide +kernel
theorem dX3_layTrial_27 : decode cX3_layTrial 27 = .ok (.aload_n 0, 1) := by decide +kernel
theorem dX3_layTrial_28 : decode cX3_layTrial 28 = .ok (.getfield 9, 3) := by decide +kernel
theorem dX3_layTrial_31 : decode cX3_layTrial 31 = .ok (.iload 5, 2) := by decide +kernel
theorem dX3_layTrial_33 : decode cX3_layTrial 33 = .ok (.iload_n 2, 1) := by decide +kernel
theorem dX3_layTrial_34 : decode cX3_layTrial 34 = .ok (.aload 4, 2) := by decide +kernel
theorem dX3_layTrial_36 : decode cX3_layTrial 36 = .ok (.getfield 65, 3) := by decide +kernel
theorem dX3_layTrial_39 : decode cX3_layTrial 39 = .ok (.aload 4, 2) := by decide +kernel
theorem dX3_layTrial_41 : decode cX3_layTrial 41 = .ok (.getfield 38, 3) := by decide +kernel
theorem dX3_layTrial_44 : decode cX3_layTrial 44 = .ok (.iload 5, 2) := by decide +kernel
theorem dX3_layTrial_46 : decode cX3_layTrial 46 = .ok (.iaload, 1) := by decide +kernel
theorem dX3_layTrial_47 : decode cX3_layTrial 47 = .ok (.iconst 1, 1) := by decide +kernel
theorem dX3_layTrial_48 : decode cX3_layTrial 48 = .ok (.iadd, 1) := by decide +kernel
theorem dX3_layTrial_49 : decode cX3_layTrial 49 = .ok (.iaload, 1) := by decide +kernel
theorem dX3_layTrial_50 : decode cX3_layTrial 50 = .ok (.invokestatic 84, 3) := by decide +kernel
theorem dX3_layTrial_53 : decode cX3_layTrial 53 = .ok (.iastore, 1) := by decide +kernel
theorem dX3_layTrial_54 : decode cX3_layTrial 54 = .ok (.iinc 5 1, 3) := by decide +kernel
theorem dX3_layTrial_57 : decode cX3_layTrial 57 = .ok (.goto (-48), 3) := by decide +kernel
theorem dX3_layTrial_60 : decode cX3_layTrial 60 = .ok (.iconst 0, 1) := by decide +kernel
theorem dX3_layTrial_61 : decode cX3_layTrial 61 = .ok (.istore 5, 2) := by decide +kernel
theorem dX3_layTrial_63 : decode cX3_layTrial 63 = .ok (.iload 5, 2) := by decide +kernel
theorem dX3_layTrial_65 : decode cX3_layTrial 65 = .ok (.aload_n 1, 1) := by decide +kernel
theorem dX3_layTrial_66 : decode cX3_layTrial 66 = .ok (.getfield 31, 3) := by decide +kernel
theorem dX3_layTrial_69 : decode cX3_layTrial 69 = .ok (.if_icmp .ge 30, 3) := by decide +kernel
theorem dX3_layTrial_72 : decode cX3_layTrial 72 = .ok (.aload_n 0, 1) := by decide +kernel
theorem dX3_layTrial_73 : decode cX3_layTrial 73 = .ok (.getfield 18, 3) := by decide +kernel
theorem dX3_layTrial_76 : decode cX3_layTrial 76 = .ok (.iload 5, 2) := by decide +kernel
theorem dX3_layTrial_78 : decode cX3_layTrial 78 = .ok (.aload_n 1, 1) := by decide +kernel
theorem dX3_layTrial_79 : decode cX3_layTrial 79 = .ok (.getfield 54, 3) := by decide +kernel
theorem dX3_layTrial_82 : decode cX3_layTrial 82 = .ok (.iload 5, 2) := by decide +kernel
theorem dX3_layTrial_84 : decode cX3_layTrial 84 = .ok (.iaload, 1) := by decide +kernel
theorem dX3_layTrial_85 : decode cX3_layTrial 85 = .ok (.aload_n 0, 1) := by decide +kernel
theorem dX3_layTrial_86 : decode cX3_layTrial 86 = .ok (.getfield 9, 3) := by decide +kernel
theorem dX3_layTrial_89 : decode cX3_layTrial 89 = .ok (.invokestatic 87, 3) := by decide +kernel
theorem dX3_layTrial_92 : decode cX3_layTrial 92 = .ok (.iastore, 1) := by decide +kernel
theorem dX3_layTrial_93 : decode cX3_layTrial 93 = .ok (.iinc 5 1, 3) := by decide +kernel
theorem dX3_layTrial_96 : decode cX3_layTrial 96 = .ok (.goto (-33), 3) := by decide +kernel
theorem dX3_layTrial_99 : decode cX3_layTrial 99 = .ok (.aload_n 0, 1) := by decide +kernel
theorem dX3_layTrial_100 : decode cX3_layTrial 100 = .ok (.getfield 18, 3) := by decide +kernel
theorem dX3_layTrial_103 : decode cX3_layTrial 103 = .ok (.aload_n 1, 1) := by decide +kernel
theorem dX3_layTrial_104 : decode cX3_layTrial 104 = .ok (.getfield 31, 3) := by decide +kernel
theorem dX3_layTrial_107 : decode cX3_layTrial 107 = .ok (.invokestatic 91, 3) := by decide +kernel
theorem dX3_layTrial_110 : decode cX3_layTrial 110 = .ok (.iconst 1, 1) := by decide +kernel
theorem dX3_layTrial_111 : decode cX3_layTrial 111 = .ok (.istore 5, 2) := by decide +kernel
theorem dX3_layTrial_113 : decode cX3_layTrial 113 = .ok (.iload 5, 2) := by decide +kernel
theorem dX3_layTrial_115 : decode cX3_layTrial 115 = .ok (.aload_n 1, 1) := by decide +kernel
theorem dX3_layTrial_116 : decode cX3_layTrial 116 = .ok (.getfield 31, 3) := by decide +kernel
theorem dX3_layTrial_119 : decode cX3_layTrial 119 = .ok (.if_icmp .ge 37, 3) := by decide +kernel
theorem dX3_layTrial_122 : decode cX3_layTrial 122 = .ok (.aload_n 0, 1) := by decide +kernel
theorem dX3_layTrial_123 : decode cX3_layTrial 123 = .ok (.getfield 18, 3) := by decide +kernel
theorem dX3_layTrial_126 : decode cX3_layTrial 126 = .ok (.iload 5, 2) := by decide +kernel
theorem dX3_layTrial_128 : decode cX3_layTrial 128 = .ok (.aload_n 0, 1) := by decide +kernel
theorem dX3_layTrial_129 : decode cX3_layTrial 129 = .ok (.getfield 18, 3) := by decide +kernel
theorem dX3_layTrial_132 : decode cX3_layTrial 132 = .ok (.iload 5, 2) := by decide +kernel
theorem dX3_layTrial_134 : decode cX3_layTrial 134 = .ok (.iaload, 1) := by decide +kernel
theorem dX3_layTrial_135 : decode cX3_layTrial 135 = .ok (.aload_n 0, 1) := by decide +kernel
theorem dX3_layTrial_136 : decode cX3_layTrial 136 = .ok (.getfield 18, 3) := by decide +kernel
theorem dX3_layTrial_139 : decode cX3_layTrial 139 = .ok (.iload 5, 2) := by decide +kernel
theorem dX3_layTrial_141 : decode cX3_layTrial 141 = .ok (.iconst 1, 1) := by decide +kernel
theorem dX3_layTrial_142 : decode cX3_layTrial 142 = .ok (.isub, 1) := by decide +kernel
theorem dX3_layTrial_143 : decode cX3_layTrial 143 = .ok (.iaload, 1) := by decide +kernel
theorem dX3_layTrial_144 : decode cX3_layTrial 144 = .ok (.iconst 1, 1) := by decide +kernel
theorem dX3_layTrial_145 : decode cX3_layTrial 145 = .ok (.iadd, 1) := by decide +kernel
theorem dX3_layTrial_146 : decode cX3_layTrial 146 = .ok (.invokestatic 78, 3) := by decide +kernel
theorem dX3_layTrial_149 : decode cX3_layTrial 149 = .ok (.iastore, 1) := by decide +kernel
theorem dX3_layTrial_150 : decode cX3_layTrial 150 = .ok (.iinc 5 1, 3) := by decide +kernel
theorem dX3_layTrial_153 : decode cX3_layTrial 153 = .ok (.goto (-40), 3) := by decide +kernel
theorem dX3_layTrial_156 : decode cX3_layTrial 156 = .ok (.return_, 1) := by decide +kernel
theorem dX3_compare_0 : decode cX3_compare 0 = .ok (.iconst 0, 1) := by decide +kernel
theorem dX3_compare_1 : decode cX3_compare 1 = .ok (.istore_n 3, 1) := by decide +kernel
theorem dX3_compare_2 : decode cX3_compare 2 = .ok (.iload_n 3, 1) := by decide +kernel
theorem dX3_compare_3 : decode cX3_compare 3 = .ok (.iload_n 2, 1) := by decide +kernel
theorem dX3_compare_4 : decode cX3_compare 4 = .ok (.if_icmp .ge 33, 3) := by decide +kernel
theorem dX3_compare_7 : decode cX3_compare 7 = .ok (.aload_n 0, 1) := by decide +kernel
theorem dX3_compare_8 : decode cX3_compare 8 = .ok (.iload_n 3, 1) := by decide +kernel
theorem dX3_compare_9 : decode cX3_compare 9 = .ok (.iaload, 1) := by decide +kernel
theorem dX3_compare_10 : decode cX3_compare 10 = .ok (.aload_n 1, 1) := by decide +kernel
theorem dX3_compare_11 : decode cX3_compare 11 = .ok (.iload_n 3, 1) := by decide +kernel
theorem dX3_compare_12 : decode cX3_compare 12 = .ok (.iaload, 1) := by decide +kernel
theorem dX3_compare_13 : decode cX3_compare 13 = .ok (.if_icmp .eq 18, 3) := by decide +kernel
theorem dX3_compare_16 : decode cX3_compare 16 = .ok (.aload_n 0, 1) := by decide +kernel
theorem dX3_compare_17 : decode cX3_compare 17 = .ok (.iload_n 3, 1) := by decide +kernel
theorem dX3_compare_18 : decode cX3_compare 18 = .ok (.iaload, 1) := by decide +kernel
theorem dX3_compare_19 : decode cX3_compare 19 = .ok (.aload_n 1, 1) := by decide +kernel
theorem dX3_compare_20 : decode cX3_compare 20 = .ok (.iload_n 3, 1) := by decide +kernel
theorem dX3_compare_21 : decode cX3_compare 21 = .ok (.iaload, 1) := by decide +kernel
theorem dX3_compare_22 : decode cX3_compare 22 = .ok (.if_icmp .ge 7, 3) := by decide +kernel
theorem dX3_compare_25 : decode cX3_compare 25 = .ok (.iconst (-1), 1) := by decide +kernel
theorem dX3_compare_26 : decode cX3_compare 26 = .ok (.goto 4, 3) := by decide +kernel
theorem dX3_compare_29 : decode cX3_compare 29 = .ok (.iconst 1, 1) := by decide +kernel
theorem dX3_compare_30 : decode cX3_compare 30 = .ok (.ireturn, 1) := by decide +kernel
theorem dX3_compare_31 : decode cX3_compare 31 = .ok (.iinc 3 1, 3) := by decide +kernel
theorem dX3_compare_34 : decode cX3_compare 34 = .ok (.goto (-32), 3) := by decide +kernel
theorem dX3_compare_37 : decode cX3_compare 37 = .ok (.iconst 0, 1) := by decide +kernel
theorem dX3_compare_38 : decode cX3_compare 38 = .ok (.ireturn, 1) := by decide +kernel
