theorem dX0_init_0 : decode cX0_init 0 = .ok (.aload_n 0, 1) := by decide +kernel
theorem dX0_init_1 : decode cX0_init 1 = .ok (.invokespecial 3, 3) := by decide +kernel
theorem dX0_init_4 : decode cX0_init 4 = .ok (.aload_n 0, 1) := by decide +kernel
theorem dX0_init_5 : decode cX0_init 5 = .ok (.iconst (-1), 1) := by decide +kernel
theorem dX0_init_6 : decode cX0_init 6 = .ok (.putfield 9, 3) := by decide +kernel
theorem dX0_init_9 : decode cX0_init 9 = .ok (.aload_n 0, 1) := by decide +kernel
theorem dX0_init_10 : decode cX0_init 10 = .ok (.iconst (-1), 1) := by decide +kernel
theorem dX0_init_11 : decode cX0_init 11 = .ok (.putfield 15, 3) := by decide +kernel
theorem dX0_init_14 : decode cX0_init 14 = .ok (.aload_n 0, 1) := by decide +kernel
theorem dX0_init_15 : decode cX0_init 15 = .ok (.iconst 0, 1) := by decide +kernel
theorem dX0_init_16 : decode cX0_init 16 = .ok (.putfield 18, 3) := by decide +kernel
theorem dX0_init_19 : decode cX0_init 19 = .ok (.aload_n 0, 1) := by decide +kernel
theorem dX0_init_20 : decode cX0_init 20 = .ok (.iconst (-1), 1) := by decide +kernel
theorem dX0_init_21 : decode cX0_init 21 = .ok (.putfield 21, 3) := by decide +kernel
theorem dX0_init_24 : decode cX0_init 24 = .ok (.aload_n 0, 1) := by decide +kernel
theorem dX0_init_25 : decode cX0_init 25 = .ok (.iconst 0, 1) := by decide +kernel
theorem dX0_init_26 : decode cX0_init 26 = .ok (.putfield 24, 3) := by decide +kernel
theorem dX0_init_29 : decode cX0_init 29 = .ok (.aload_n 0, 1) := by decide +kernel
theorem dX0_init_30 : decode cX0_init 30 = .ok (.iconst 0, 1) := by decide +kernel
theorem dX0_init_31 : decode cX0_init 31 = .ok (.putfield 28, 3) := by decide +kernel
theorem dX0_init_34 : decode cX0_init 34 = .ok (.aload_n 0, 1) := by decide +kernel
theorem dX0_init_35 : decode cX0_init 35 = .ok (.iload_n 1, 1) := by decide +kernel
theorem dX0_init_36 : decode cX0_init 36 = .ok (.putfield 31, 3) := by decide +kernel
theorem dX0_init_39 : decode cX0_init 39 = .ok (.aload_n 0, 1) := by decide +kernel
theorem dX0_init_40 : decode cX0_init 40 = .ok (.aload_n 2, 1) := by decide +kernel
theorem dX0_init_41 : decode cX0_init 41 = .ok (.putfield 34, 3) := by decide +kernel
theorem dX0_init_44 : decode cX0_init 44 = .ok (.return_, 1) := by decide +kernel
theorem dX0_rowBehind_0 : decode cX0_rowBehind 0 = .ok (.iload_n 1, 1) := by decide +kernel
theorem dX0_rowBehind_1 : decode cX0_rowBehind 1 = .ok (.ifCond .lt 21, 3) := by decide +kernel
theorem dX0_rowBehind_4 : decode cX0_rowBehind 4 = .ok (.iload_n 1, 1) := by decide +kernel
theorem dX0_rowBehind_5 : decode cX0_rowBehind 5 = .ok (.aload_n 0, 1) := by decide +kernel
theorem dX0_rowBehind_6 : decode cX0_rowBehind 6 = .ok (.getfield 34, 3) := by decide +kernel
theorem dX0_rowBehind_9 : decode cX0_rowBehind 9 = .ok (.arraylength, 1) := by decide +kernel
theorem dX0_rowBehind_10 : decode cX0_rowBehind 10 = .ok (.if_icmp .ge 12, 3) := by decide +kernel
theorem dX0_rowBehind_13 : decode cX0_rowBehind 13 = .ok (.aload_n 0, 1) := by decide +kernel
theorem dX0_rowBehind_14 : decode cX0_rowBehind 14 = .ok (.getfield 34, 3) := by decide +kernel
theorem dX0_rowBehind_17 : decode cX0_rowBehind 17 = .ok (.iload_n 1, 1) := by decide +kernel
theorem dX0_rowBehind_18 : decode cX0_rowBehind 18 = .ok (.iaload, 1) := by decide +kernel
theorem dX0_rowBehind_19 : decode cX0_rowBehind 19 = .ok (.goto 4, 3) := by decide +kernel
theorem dX0_rowBehind_22 : decode cX0_rowBehind 22 = .ok (.iconst (-1), 1) := by decide +kernel
theorem dX0_rowBehind_23 : decode cX0_rowBehind 23 = .ok (.ireturn, 1) := by decide +kernel
theorem dX0_rowAt_0 : decode cX0_rowAt 0 = .ok (.iload_n 1, 1) := by decide +kernel
theorem dX0_rowAt_1 : decode cX0_rowAt 1 = .ok (.ifCond .lt 11, 3) := by decide +kernel
theorem dX0_rowAt_4 : decode cX0_rowAt 4 = .ok (.iload_n 1, 1) := by decide +kernel
theorem dX0_rowAt_5 : decode cX0_rowAt 5 = .ok (.aload_n 0, 1) := by decide +kernel
theorem dX0_rowAt_6 : decode cX0_rowAt 6 = .ok (.getfield 18, 3) := by decide +kernel
theorem dX0_rowAt_9 : decode cX0_rowAt 9 = .ok (.if_icmp .lt 5, 3) := by decide +kernel
theorem dX0_rowAt_12 : decode cX0_rowAt 12 = .ok (.iconst (-1), 1) := by decide +kernel
theorem dX0_rowAt_13 : decode cX0_rowAt 13 = .ok (.ireturn, 1) := by decide +kernel
theorem dX0_rowAt_14 : decode cX0_rowAt 14 = .ok (.aload_n 0, 1) := by decide +kernel
theorem dX0_rowAt_15 : decode cX0_rowAt 15 = .ok (.getfield 9, 3) := by decide +kernel
theorem dX0_rowAt_18 : decode cX0_rowAt 18 = .ok (.istore_n 2, 1) := by decide +kernel
theorem dX0_rowAt_19 : decode cX0_rowAt 19 = .ok (.iconst 0, 1) := by decide +kernel
theorem dX0_rowAt_20 : decode cX0_rowAt 20 = .ok (.istore_n 3, 1) := by decide +kernel
theorem dX0_rowAt_21 : decode cX0_rowAt 21 = .ok (.iload_n 3, 1) := by decide +kernel
theorem dX0_rowAt_22 : decode cX0_rowAt 22 = .ok (.iload_n 1, 1) := by decide +kernel
theorem dX0_rowAt_23 : decode cX0_rowAt 23 = .ok (.if_icmp .ge 15, 3) := by decide +kernel
theorem dX0_rowAt_26 : decode cX0_rowAt 26 = .ok (.aload_n 0, 1) := by decide +kernel
theorem dX0_rowAt_27 : decode cX0_rowAt 27 = .ok (.iload_n 2, 1) := by decide +kernel
theorem dX0_rowAt_28 : decode cX0_rowAt 28 = .ok (.invokevirtual 38, 3) := by decide +kernel
theorem dX0_rowAt_31 : decode cX0_rowAt 31 = .ok (.istore_n 2, 1) := by decide +kernel
theorem dX0_rowAt_32 : decode cX0_rowAt 32 = .ok (.iinc 3 1, 3) := by decide +kernel
theorem dX0_rowAt_35 : decode cX0_rowAt 35 = .ok (.goto (-14), 3) := by decide +kernel
theorem dX0_rowAt_38 : decode cX0_rowAt 38 = .ok (.iload_n 2, 1) := by decide +kernel
theorem dX0_rowAt_39 : decode cX0_rowAt 39 = .ok (.ireturn, 1) := by decide +kernel
theorem dX0_hasRowInFront_0 : decode cX0_hasRowInFront 0 = .ok (.aload_n 0, 1) := by decide +kernel
theorem dX0_hasRowInFront_1 : decode cX0_hasRowInFront 1 = .ok (.getfield 18, 3) := by decide +kernel
theorem dX0_hasRowInFront_4 : decode cX0_hasRowInFront 4 = .ok (.ifCond .le 14, 3) := by decide +kernel
theorem dX0_hasRowInFront_7 : decode cX0_hasRowInFront 7 = .ok (.aload_n 0, 1) := by decide +kernel
theorem dX0_hasRowInFront_8 : decode cX0_hasRowInFront 8 = .ok (.getfield 21, 3) := by decide +kernel
theorem dX0_hasRowInFront_11 : decode cX0_hasRowInFront 11 = .ok (.ifCond .eq 7, 3) := by decide +kernel
theorem dX0_hasRowInFront_14 : decode cX0_hasRowInFront 14 = .ok (.iconst 1, 1) := by decide +kernel
theorem dX0_hasRowInFront_15 : decode cX0_hasRowInFront 15 = .ok (.goto 4, 3) := by decide +kernel
theorem dX0_hasRowInFront_18 : decode cX0_hasRowInFront 18 = .ok (.iconst 0, 1) := by decide +kernel
theorem dX0_hasRowInFront_19 : decode cX0_hasRowInFront 19 = .ok (.ireturn, 1) := by decide +kernel
theorem dX0_append_0 : decode cX0_append 0 = .ok (.iload_n 1, 1) := by decide +kernel
theorem dX0_append_1 : decode cX0_append 1 = .ok (.ifCond .lt 12, 3) := by decide +kernel
theorem dX0_append_4 : decode cX0_append 4 = .ok (.iload_n 1, 1) := by decide +kernel
theorem dX0_append_5 : decode cX0_append 5 = .ok (.aload_n 0, 1) := by decide +kernel
theorem dX0_append_6 : decode cX0_append 6 = .ok (.getfield 34, 3) := by decide +kernel
theorem dX0_append_9 : decode cX0_append 9 = .ok (.arraylength, 1) := by decide +kernel
theorem dX0_append_10 : decode cX0_append 10 = .ok (.if_icmp .lt 4, 3) := by decide +kernel
theorem dX0_append_13 : decode cX0_append 13 = .ok (.return_, 1) := by decide +kernel
theorem dX0_append_14 : decode cX0_append 14 = .ok (.aload_n 0, 1) := by decide +kernel
theorem dX0_append_15 : decode cX0_append 15 = .ok (.getfield 34, 3) := by decide +kernel
theorem dX0_append_18 : decode cX0_append 18 = .ok (.iload_n 1, 1) := by decide +kernel
theorem dX0_append_19 : decode cX0_append 19 = .ok (.iconst (-1), 1) := by decide +kernel
theorem dX0_append_20 : decode cX0_append 20 = .ok (.iastore, 1) := by decide +kernel
theorem dX0_append_21 : decode cX0_append 21 = .ok (.aload_n 0, 1) := by decide +kernel
theorem dX0_append_22 : decode cX0_append 22 = .ok (.getfield 15, 3) := by decide +kernel
theorem dX0_append_25 : decode cX0_append 25 = .ok (.ifCond .lt 28, 3) := by decide +kernel
theorem dX0_append_28 : decode cX0_append 28 = .ok (.aload_n 0, 1) := by decide +kernel
theorem dX0_append_29 : decode cX0_append 29 = .ok (.getfield 15, 3) := by decide +kernel
theorem dX0_append_32 : decode cX0_append 32 = .ok (.aload_n 0, 1) := by decide +kernel
theorem dX0_append_33 : decode cX0_append 33 = .ok (.getfield 34, 3) := by decide +kernel
theorem dX0_append_36 : decode cX0_append 36 = .ok (.arraylength, 1) := by decide +kernel
theorem dX0_append_37 : decode cX0_append 37 = .ok (.if_icmp .ge 16, 3) := by decide +kernel
theorem dX0_append_40 : decode cX0_append 40 = .ok (.aload_n 0, 1) := by decide +kernel
theorem dX0_append_41 : decode cX0_append 41 = .ok (.getfield 34, 3) := by decide +kernel
theorem dX0_append_44 : decode cX0_append 44 = .ok (.aload_n 0, 1) := by decide +kernel
theorem dX0_append_45 : decode cX0_append 45 = .ok (.getfield 15, 3) := by decide +kernel
theorem dX0_append_48 : decode cX0_append 48 = .ok (.iload_n 1, 1) := by decide +kernel
theorem dX0_append_49 : decode cX0_append 49 = .ok (.iastore, 1) := by decide +kernel
theorem dX0_append_50 : decode cX0_append 50 = .ok (.goto 8, 3) := by decide +kernel
theorem dX0_append_53 : decode cX0_append 53 = .ok (.aload_n 0, 1) := by decide +kernel
theorem dX0_append_54 : decode cX0_append 54 = .ok (.iload_n 1, 1) := by decide +kernel
theorem dX0_append_55 : decode cX0_append 55 = .ok (.putfield 9, 3) := by decide +kernel
theorem dX0_append_58 : decode cX0_append 58 = .ok (.aload_n 0, 1) := by decide +kernel
theorem dX0_append_59 : decode cX0_append 59 = .ok (.iload_n 1, 1) := by decide +kernel
theorem dX0_append_60 : decode cX0_append 60 = .ok (.putfield 15, 3) := by decide +kernel
theorem dX0_append_63 : decode cX0_append 63 = .ok (.aload_n 0, 1) := by decide +kernel
theorem dX0_append_64 : decode cX0_append 64 = .ok (.dup, 1) := by decide +kernel
theorem dX0_append_65 : decode cX0_append 65 = .ok (.getfield 18, 3) := by decide +kernel
theorem dX0_append_68 : decode cX0_append 68 = .ok (.iconst 1, 1) := by decide +kernel
theorem dX0_append_69 : decode cX0_append 69 = .ok (.iadd, 1) := by decide +kernel
theorem dX0_append_70 : decode cX0_append 70 = .ok (.putfield 18, 3) := by decide +kernel
theorem dX0_append_73 : decode cX0_append 73 = .ok (.return_, 1) := by decide +kernel
theorem dX0_removeFirst_0 : decode cX0_removeFirst 0 = .ok (.aload_n 0, 1) := by decide +kernel
theorem dX0_removeFirst_1 : decode cX0_removeFirst 1 = .ok (.getfield 9, 3) := by decide +kernel
theorem dX0_removeFirst_4 : decode cX0_removeFirst 4 = .ok (.istore_n 1, 1) := by decide +kernel
theorem dX0_removeFirst_5 : decode cX0_removeFirst 5 = .ok (.iload_n 1, 1) := by decide +kernel
theorem dX0_removeFirst_6 : decode cX0_removeFirst 6 = .ok (.iconst (-1), 1) := by decide +kernel
theorem dX0_removeFirst_7 : decode cX0_removeFirst 7 = .ok (.if_icmp .ne 5, 3) := by decide +kernel
theorem dX0_removeFirst_10 : decode cX0_removeFirst 10 = .ok (.iconst (-1), 1) := by decide +kernel
theorem dX0_removeFirst_11 : decode cX0_removeFirst 11 = .ok (.ireturn, 1) := by decide +kernel
theorem dX0_removeFirst_12 : decode cX0_removeFirst 12 = .ok (.aload_n 0, 1) := by decide +kernel
theorem dX0_removeFirst_13 : decode cX0_removeFirst 13 = .ok (.aload_n 0, 1) := by decide +kernel
theorem dX0_removeFirst_14 : decode cX0_removeFirst 14 = .ok (.iload_n 1, 1) := by decide +kernel
theorem dX0_removeFirst_15 : decode cX0_removeFirst 15 = .ok (.invokevirtual 38, 3) := by decide +kernel
theorem dX0_removeFirst_18 : decode cX0_removeFirst 18 = .ok (.putfield 9, 3) := by decide +kernel
theorem dX0_removeFirst_21 : decode cX0_removeFirst 21 = .ok (.aload_n 0, 1) := by decide +kernel
theorem dX0_removeFirst_22 : decode cX0_removeFirst 22 = .ok (.getfield 9, 3) := by decide +kernel
theorem dX0_removeFirst_25 : decode cX0_removeFirst 25 = .ok (.iconst (-1), 1) := by decide +kernel
theorem dX0_removeFirst_26 : decode cX0_removeFirst 26 = .ok (.if_icmp .ne 8, 3) := by decide +kernel
theorem dX0_removeFirst_29 : decode cX0_removeFirst 29 = .ok (.aload_n 0, 1) := by decide +kernel
theorem dX0_removeFirst_30 : decode cX0_removeFirst 30 = .ok (.iconst (-1), 1) := by decide +kernel
theorem dX0_removeFirst_31 : decode cX0_removeFirst 31 = .ok (.putfield 15, 3) := by decide +kernel
theorem dX0_removeFirst_34 : decode cX0_removeFirst 34 = .ok (.aload_n 0, 1) := by decide +kernel
theorem dX0_removeFirst_35 : decode cX0_removeFirst 35 = .ok (.dup, 1) := by decide +kernel
theorem dX0_removeFirst_36 : decode cX0_removeFirst 36 = .ok (.getfield 18, 3) := by decide +kernel
theorem dX0_removeFirst_39 : decode cX0_removeFirst 39 = .ok (.iconst 1, 1) := by decide +kernel
theorem dX0_removeFirst_40 : decode cX0_removeFirst 40 = .ok (.isub, 1) := by decide +kernel
theorem dX0_removeFirst_41 : decode cX0_removeFirst 41 = .ok (.putfield 18, 3) := by decide +kernel
theorem dX0_removeFirst_44 : decode cX0_removeFirst 44 = .ok (.aload_n 0, 1) := by decide +kernel
theorem dX0_removeFirst_45 : decode cX0_removeFirst 45 = .ok (.getfield 21, 3) := by decide +kernel
theorem dX0_removeFirst_48 : decode cX0_removeFirst 48 = .ok (.ifCond .le 13, 3) := by decide +kernel
theorem dX0_removeFirst_51 : decode cX0_removeFirst 51 = .ok (.aload_n 0, 1) := by decide +kernel
theorem dX0_removeFirst_52 : decode cX0_removeFirst 52 = .ok (.dup, 1) := by decide +kernel
theorem dX0_removeFirst_53 : decode cX0_removeFirst 53 = .ok (.getfield 21, 3) := by decide +kernel
theorem dX0_removeFirst_56 : decode cX0_removeFirst 56 = .ok (.iconst 1, 1) := by decide +kernel
theorem dX0_removeFirst_57 : decode cX0_removeFirst 57 = .ok (.isub, 1) := by decide +kernel
theorem dX0_removeFirst_58 : decode cX0_removeFirst 58 = .ok (.putfield 21, 3) := by decide +kernel
theorem dX0_removeFirst_61 : decode cX0_removeFirst 61 = .ok (.iload_n 1, 1) := by decide +kernel
theorem dX0_removeFirst_62 : decode cX0_removeFirst 62 = .ok (.ireturn, 1) := by decide +kernel
theorem dX0_empty_0 : decode cX0_empty 0 = .ok (.aload_n 0, 1) := by decide +kernel
theorem dX0_empty_1 : decode cX0_empty 1 = .ok (.iconst (-1), 1) := by decide +kernel
theorem dX0_empty_2 : decode cX0_empty 2 = .ok (.putfield 9, 3) := by decide +kernel
theorem dX0_empty_5 : decode cX0_empty 5 = .ok (.aload_n 0, 1) := by decide +kernel
theorem dX0_empty_6 : decode cX0_empty 6 = .ok (.iconst (-1), 1) := by decide +kernel
theorem dX0_empty_7 : decode cX0_empty 7 = .ok (.putfield 15, 3) := by decide +kernel
theorem dX0_empty_10 : decode cX0_empty 10 = .ok (.aload_n 0, 1) := by decide +kernel
theorem dX0_empty_11 : decode cX0_empty 11 = .ok (.iconst 0, 1) := by decide +kernel
theorem dX0_empty_12 : decode cX0_empty 12 = .ok (.putfield 18, 3) := by decide +kernel
theorem dX0_empty_15 : decode cX0_empty 15 = .ok (.return_, 1) := by decide +kernel
theorem dX0_forgetMark_0 : decode cX0_forgetMark 0 = .ok (.aload_n 0, 1) := by decide +kernel
theorem dX0_forgetMark_1 : decode cX0_forgetMark 1 = .ok (.iconst (-1), 1) := by decide +kernel
theorem dX0_forgetMark_2 : decode cX0_forgetMark 2 = .ok (.putfield 21, 3) := by decide +kernel
theorem dX0_forgetMark_5 : decode cX0_forgetMark 5 = .ok (.aload_n 0, 1) := by decide +kernel
theorem dX0_forgetMark_6 : decode cX0_forgetMark 6 = .ok (.iconst 0, 1) := by decide +kernel
theorem dX0_forgetMark_7 : decode cX0_forgetMark 7 = .ok (.putfield 24, 3) := by decide +kernel
theorem dX0_forgetMark_10 : decode cX0_forgetMark 10 = .ok (.aload_n 0, 1) := by decide +kernel
theorem dX0_forgetMark_11 : decode cX0_forgetMark 11 = .ok (.iconst 0, 1) := by decide +kernel
theorem dX0_forgetMark_12 : decode cX0_forgetMark 12 = .ok (.putfield 28, 3) := by decide +kernel
theorem dX0_forgetMark_15 : decode cX0_forgetMark 15 = .ok (.return_, 1) := by decide +kernel
