theorem dX3_init_0 : decode cX3_init 0 = .ok (.aload_n 0, 1) := by decide +kernel
theorem dX3_init_1 : decode cX3_init 1 = .ok (.invokespecial 3, 3) := by decide +kernel
theorem dX3_init_4 : decode cX3_init 4 = .ok (.aload_n 0, 1) := by decide +kernel
theorem dX3_init_5 : decode cX3_init 5 = .ok (.bipush 64, 2) := by decide +kernel
theorem dX3_init_7 : decode cX3_init 7 = .ok (.newarray .int, 2) := by decide +kernel
theorem dX3_init_9 : decode cX3_init 9 = .ok (.putfield 9, 3) := by decide +kernel
theorem dX3_init_12 : decode cX3_init 12 = .ok (.aload_n 0, 1) := by decide +kernel
theorem dX3_init_13 : decode cX3_init 13 = .ok (.bipush 64, 2) := by decide +kernel
theorem dX3_init_15 : decode cX3_init 15 = .ok (.newarray .long, 2) := by decide +kernel
theorem dX3_init_17 : decode cX3_init 17 = .ok (.putfield 15, 3) := by decide +kernel
theorem dX3_init_20 : decode cX3_init 20 = .ok (.return_, 1) := by decide +kernel
theorem dX3_placeOf_0 : decode cX3_placeOf 0 = .ok (.iload_n 0, 1) := by decide +kernel
theorem dX3_placeOf_1 : decode cX3_placeOf 1 = .ok (.ifCond .lt 24, 3) := by decide +kernel
theorem dX3_placeOf_4 : decode cX3_placeOf 4 = .ok (.iload_n 0, 1) := by decide +kernel
theorem dX3_placeOf_5 : decode cX3_placeOf 5 = .ok (.iconst 4, 1) := by decide +kernel
theorem dX3_placeOf_6 : decode cX3_placeOf 6 = .ok (.if_icmp .ge 19, 3) := by decide +kernel
theorem dX3_placeOf_9 : decode cX3_placeOf 9 = .ok (.iload_n 1, 1) := by decide +kernel
theorem dX3_placeOf_10 : decode cX3_placeOf 10 = .ok (.invokestatic 19, 3) := by decide +kernel
theorem dX3_placeOf_13 : decode cX3_placeOf 13 = .ok (.ifCond .eq 12, 3) := by decide +kernel
theorem dX3_placeOf_16 : decode cX3_placeOf 16 = .ok (.iload_n 0, 1) := by decide +kernel
theorem dX3_placeOf_17 : decode cX3_placeOf 17 = .ok (.bipush 16, 2) := by decide +kernel
theorem dX3_placeOf_19 : decode cX3_placeOf 19 = .ok (.imul, 1) := by decide +kernel
theorem dX3_placeOf_20 : decode cX3_placeOf 20 = .ok (.iload_n 1, 1) := by decide +kernel
theorem dX3_placeOf_21 : decode cX3_placeOf 21 = .ok (.iadd, 1) := by decide +kernel
theorem dX3_placeOf_22 : decode cX3_placeOf 22 = .ok (.goto 4, 3) := by decide +kernel
theorem dX3_placeOf_25 : decode cX3_placeOf 25 = .ok (.iconst (-1), 1) := by decide +kernel
theorem dX3_placeOf_26 : decode cX3_placeOf 26 = .ok (.ireturn, 1) := by decide +kernel
theorem dX3_rowsOf_0 : decode cX3_rowsOf 0 = .ok (.iload_n 1, 1) := by decide +kernel
theorem dX3_rowsOf_1 : decode cX3_rowsOf 1 = .ok (.iload_n 2, 1) := by decide +kernel
theorem dX3_rowsOf_2 : decode cX3_rowsOf 2 = .ok (.invokestatic 23, 3) := by decide +kernel
theorem dX3_rowsOf_5 : decode cX3_rowsOf 5 = .ok (.istore_n 3, 1) := by decide +kernel
theorem dX3_rowsOf_6 : decode cX3_rowsOf 6 = .ok (.iload_n 3, 1) := by decide +kernel
theorem dX3_rowsOf_7 : decode cX3_rowsOf 7 = .ok (.iconst (-1), 1) := by decide +kernel
theorem dX3_rowsOf_8 : decode cX3_rowsOf 8 = .ok (.if_icmp .ne 7, 3) := by decide +kernel
theorem dX3_rowsOf_11 : decode cX3_rowsOf 11 = .ok (.iconst 0, 1) := by decide +kernel
theorem dX3_rowsOf_12 : decode cX3_rowsOf 12 = .ok (.goto 9, 3) := by decide +kernel
theorem dX3_rowsOf_15 : decode cX3_rowsOf 15 = .ok (.aload_n 0, 1) := by decide +kernel
theorem dX3_rowsOf_16 : decode cX3_rowsOf 16 = .ok (.getfield 9, 3) := by decide +kernel
theorem dX3_rowsOf_19 : decode cX3_rowsOf 19 = .ok (.iload_n 3, 1) := by decide +kernel
theorem dX3_rowsOf_20 : decode cX3_rowsOf 20 = .ok (.iaload, 1) := by decide +kernel
theorem dX3_rowsOf_21 : decode cX3_rowsOf 21 = .ok (.ireturn, 1) := by decide +kernel
theorem dX3_totalOf_0 : decode cX3_totalOf 0 = .ok (.iload_n 1, 1) := by decide +kernel
theorem dX3_totalOf_1 : decode cX3_totalOf 1 = .ok (.iload_n 2, 1) := by decide +kernel
theorem dX3_totalOf_2 : decode cX3_totalOf 2 = .ok (.invokestatic 23, 3) := by decide +kernel
theorem dX3_totalOf_5 : decode cX3_totalOf 5 = .ok (.istore_n 3, 1) := by decide +kernel
theorem dX3_totalOf_6 : decode cX3_totalOf 6 = .ok (.iload_n 3, 1) := by decide +kernel
theorem dX3_totalOf_7 : decode cX3_totalOf 7 = .ok (.iconst (-1), 1) := by decide +kernel
theorem dX3_totalOf_8 : decode cX3_totalOf 8 = .ok (.if_icmp .ne 7, 3) := by decide +kernel
theorem dX3_totalOf_11 : decode cX3_totalOf 11 = .ok (.lconst 0, 1) := by decide +kernel
theorem dX3_totalOf_12 : decode cX3_totalOf 12 = .ok (.goto 9, 3) := by decide +kernel
theorem dX3_totalOf_15 : decode cX3_totalOf 15 = .ok (.aload_n 0, 1) := by decide +kernel
theorem dX3_totalOf_16 : decode cX3_totalOf 16 = .ok (.getfield 15, 3) := by decide +kernel
theorem dX3_totalOf_19 : decode cX3_totalOf 19 = .ok (.iload_n 3, 1) := by decide +kernel
theorem dX3_totalOf_20 : decode cX3_totalOf 20 = .ok (.laload, 1) := by decide +kernel
theorem dX3_totalOf_21 : decode cX3_totalOf 21 = .ok (.lreturn, 1) := by decide +kernel
theorem dX3_count_0 : decode cX3_count 0 = .ok (.iload_n 1, 1) := by decide +kernel
theorem dX3_count_1 : decode cX3_count 1 = .ok (.iload_n 2, 1) := by decide +kernel
theorem dX3_count_2 : decode cX3_count 2 = .ok (.invokestatic 23, 3) := by decide +kernel
theorem dX3_count_5 : decode cX3_count 5 = .ok (.istore 5, 2) := by decide +kernel
theorem dX3_count_7 : decode cX3_count 7 = .ok (.iload 5, 2) := by decide +kernel
theorem dX3_count_9 : decode cX3_count 9 = .ok (.iconst (-1), 1) := by decide +kernel
theorem dX3_count_10 : decode cX3_count 10 = .ok (.if_icmp .eq 25, 3) := by decide +kernel
theorem dX3_count_13 : decode cX3_count 13 = .ok (.aload_n 0, 1) := by decide +kernel
theorem dX3_count_14 : decode cX3_count 14 = .ok (.getfield 9, 3) := by decide +kernel
theorem dX3_count_17 : decode cX3_count 17 = .ok (.iload 5, 2) := by decide +kernel
theorem dX3_count_19 : decode cX3_count 19 = .ok (.dup2, 1) := by decide +kernel
theorem dX3_count_20 : decode cX3_count 20 = .ok (.iaload, 1) := by decide +kernel
theorem dX3_count_21 : decode cX3_count 21 = .ok (.iconst 1, 1) := by decide +kernel
theorem dX3_count_22 : decode cX3_count 22 = .ok (.iadd, 1) := by decide +kernel
theorem dX3_count_23 : decode cX3_count 23 = .ok (.iastore, 1) := by decide +kernel
theorem dX3_count_24 : decode cX3_count 24 = .ok (.aload_n 0, 1) := by decide +kernel
theorem dX3_count_25 : decode cX3_count 25 = .ok (.getfield 15, 3) := by decide +kernel
theorem dX3_count_28 : decode cX3_count 28 = .ok (.iload 5, 2) := by decide +kernel
theorem dX3_count_30 : decode cX3_count 30 = .ok (.dup2, 1) := by decide +kernel
theorem dX3_count_31 : decode cX3_count 31 = .ok (.laload, 1) := by decide +kernel
theorem dX3_count_32 : decode cX3_count 32 = .ok (.lload_n 3, 1) := by decide +kernel
theorem dX3_count_33 : decode cX3_count 33 = .ok (.ladd, 1) := by decide +kernel
theorem dX3_count_34 : decode cX3_count 34 = .ok (.lastore, 1) := by decide +kernel
theorem dX3_count_35 : decode cX3_count 35 = .ok (.return_, 1) := by decide +kernel
theorem dX3_copyOwned_0 : decode cX3_copyOwned 0 = .ok (.iconst 0, 1) := by decide +kernel
theorem dX3_copyOwned_1 : decode cX3_copyOwned 1 = .ok (.istore 5, 2) := by decide +kernel
theorem dX3_copyOwned_3 : decode cX3_copyOwned 3 = .ok (.iload 5, 2) := by decide +kernel
theorem dX3_copyOwned_5 : decode cX3_copyOwned 5 = .ok (.bipush 16, 2) := by decide +kernel
theorem dX3_copyOwned_7 : decode cX3_copyOwned 7 = .ok (.if_icmp .ge 62, 3) := by decide +kernel
theorem dX3_copyOwned_10 : decode cX3_copyOwned 10 = .ok (.iload_n 2, 1) := by decide +kernel
theorem dX3_copyOwned_11 : decode cX3_copyOwned 11 = .ok (.iload 5, 2) := by decide +kernel
theorem dX3_copyOwned_13 : decode cX3_copyOwned 13 = .ok (.invokestatic 23, 3) := by decide +kernel
theorem dX3_copyOwned_16 : decode cX3_copyOwned 16 = .ok (.istore 6, 2) := by decide +kernel
theorem dX3_copyOwned_18 : decode cX3_copyOwned 18 = .ok (.iload 6, 2) := by decide +kernel
theorem dX3_copyOwned_20 : decode cX3_copyOwned 20 = .ok (.iconst (-1), 1) := by decide +kernel
theorem dX3_copyOwned_21 : decode cX3_copyOwned 21 = .ok (.if_icmp .eq 42, 3) := by decide +kernel
theorem dX3_copyOwned_24 : decode cX3_copyOwned 24 = .ok (.iload 5, 2) := by decide +kernel
theorem dX3_copyOwned_26 : decode cX3_copyOwned 26 = .ok (.iload 4, 2) := by decide +kernel
theorem dX3_copyOwned_28 : decode cX3_copyOwned 28 = .ok (.invokestatic 27, 3) := by decide +kernel
theorem dX3_copyOwned_31 : decode cX3_copyOwned 31 = .ok (.iload_n 3, 1) := by decide +kernel
theorem dX3_copyOwned_32 : decode cX3_copyOwned 32 = .ok (.if_icmp .ne 31, 3) := by decide +kernel
theorem dX3_copyOwned_35 : decode cX3_copyOwned 35 = .ok (.aload_n 0, 1) := by decide +kernel
theorem dX3_copyOwned_36 : decode cX3_copyOwned 36 = .ok (.getfield 9, 3) := by decide +kernel
theorem dX3_copyOwned_39 : decode cX3_copyOwned 39 = .ok (.iload 6, 2) := by decide +kernel
theorem dX3_copyOwned_41 : decode cX3_copyOwned 41 = .ok (.aload_n 1, 1) := by decide +kernel
theorem dX3_copyOwned_42 : decode cX3_copyOwned 42 = .ok (.getfield 9, 3) := by decide +kernel
theorem dX3_copyOwned_45 : decode cX3_copyOwned 45 = .ok (.iload 6, 2) := by decide +kernel
theorem dX3_copyOwned_47 : decode cX3_copyOwned 47 = .ok (.iaload, 1) := by decide +kernel
theorem dX3_copyOwned_48 : decode cX3_copyOwned 48 = .ok (.iastore, 1) := by decide +kernel
theorem dX3_copyOwned_49 : decode cX3_copyOwned 49 = .ok (.aload_n 0, 1) := by decide +kernel
theorem dX3_copyOwned_50 : decode cX3_copyOwned 50 = .ok (.getfield 15, 3) := by decide +kernel
theorem dX3_copyOwned_53 : decode cX3_copyOwned 53 = .ok (.iload 6, 2) := by decide +kernel
theorem dX3_copyOwned_55 : decode cX3_copyOwned 55 = .ok (.aload_n 1, 1) := by decide +kernel
theorem dX3_copyOwned_56 : decode cX3_copyOwned 56 = .ok (.getfield 15, 3) := by decide +kernel
theorem dX3_copyOwned_59 : decode cX3_copyOwned 59 = .ok (.iload 6, 2) := by decide +kernel
theorem dX3_copyOwned_61 : decode cX3_copyOwned 61 = .ok (.laload, 1) := by decide +kernel
theorem dX3_copyOwned_62 : decode cX3_copyOwned 62 = .ok (.lastore, 1) := by decide +kernel
theorem dX3_copyOwned_63 : decode cX3_copyOwned 63 = .ok (.iinc 5 1, 3) := by decide +kernel
theorem dX3_copyOwned_66 : decode cX3_copyOwned 66 = .ok (.goto (-63), 3) := by decide +kernel
theorem dX3_copyOwned_69 : decode cX3_copyOwned 69 = .ok (.return_, 1) := by decide +kernel
theorem dX3_copyAll_0 : decode cX3_copyAll 0 = .ok (.aload_n 1, 1) := by decide +kernel
theorem dX3_copyAll_1 : decode cX3_copyAll 1 = .ok (.getfield 9, 3) := by decide +kernel
theorem dX3_copyAll_4 : decode cX3_copyAll 4 = .ok (.iconst 0, 1) := by decide +kernel
theorem dX3_copyAll_5 : decode cX3_copyAll 5 = .ok (.aload_n 0, 1) := by decide +kernel
theorem dX3_copyAll_6 : decode cX3_copyAll 6 = .ok (.getfield 9, 3) := by decide +kernel
theorem dX3_copyAll_9 : decode cX3_copyAll 9 = .ok (.iconst 0, 1) := by decide +kernel
theorem dX3_copyAll_10 : decode cX3_copyAll 10 = .ok (.aload_n 0, 1) := by decide +kernel
theorem dX3_copyAll_11 : decode cX3_copyAll 11 = .ok (.getfield 9, 3) := by decide +kernel
theorem dX3_copyAll_14 : decode cX3_copyAll 14 = .ok (.arraylength, 1) := by decide +kernel
theorem dX3_copyAll_15 : decode cX3_copyAll 15 = .ok (.invokestatic 30, 3) := by decide +kernel
theorem dX3_copyAll_18 : decode cX3_copyAll 18 = .ok (.aload_n 1, 1) := by decide +kernel
theorem dX3_copyAll_19 : decode cX3_copyAll 19 = .ok (.getfield 15, 3) := by decide +kernel
theorem dX3_copyAll_22 : decode cX3_copyAll 22 = .ok (.iconst 0, 1) := by decide +kernel
theorem dX3_copyAll_23 : decode cX3_copyAll 23 = .ok (.aload_n 0, 1) := by decide +kernel
theorem dX3_copyAll_24 : decode cX3_copyAll 24 = .ok (.getfield 15, 3) := by decide +kernel
theorem dX3_copyAll_27 : decode cX3_copyAll 27 = .ok (.iconst 0, 1) := by decide +kernel
theorem dX3_copyAll_28 : decode cX3_copyAll 28 = .ok (.aload_n 0, 1) := by decide +kernel
theorem dX3_copyAll_29 : decode cX3_copyAll 29 = .ok (.getfield 15, 3) := by decide +kernel
theorem dX3_copyAll_32 : decode cX3_copyAll 32 = .ok (.arraylength, 1) := by decide +kernel
theorem dX3_copyAll_33 : decode cX3_copyAll 33 = .ok (.invokestatic 30, 3) := by decide +kernel
theorem dX3_copyAll_36 : decode cX3_copyAll 36 = .ok (.return_, 1) := by decide +kernel
theorem dX3_clear_0 : decode cX3_clear 0 = .ok (.aload_n 0, 1) := by decide +kernel
theorem dX3_clear_1 : decode cX3_clear 1 = .ok (.getfield 9, 3) := by decide +kernel
theorem dX3_clear_4 : decode cX3_clear 4 = .ok (.iconst 0, 1) := by decide +kernel
theorem dX3_clear_5 : decode cX3_clear 5 = .ok (.invokestatic 36, 3) := by decide +kernel
theorem dX3_clear_8 : decode cX3_clear 8 = .ok (.aload_n 0, 1) := by decide +kernel
theorem dX3_clear_9 : decode cX3_clear 9 = .ok (.getfield 15, 3) := by decide +kernel
theorem dX3_clear_12 : decode cX3_clear 12 = .ok (.lconst 0, 1) := by decide +kernel
theorem dX3_clear_13 : decode cX3_clear 13 = .ok (.invokestatic 42, 3) := by decide +kernel
theorem dX3_clear_16 : decode cX3_clear 16 = .ok (.return_, 1) := by decide +kernel
