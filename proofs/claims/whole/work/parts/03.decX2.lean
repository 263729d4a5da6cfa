theorem dX2_init_0 : decode cX2_init 0 = .ok (.aload_n 0, 1) := by decide +kernel
theorem dX2_init_1 : decode cX2_init 1 = .ok (.invokespecial 3, 3) := by decide +kernel
theorem dX2_init_4 : decode cX2_init 4 = .ok (.aload_n 0, 1) := by decide +kernel
theorem dX2_init_5 : decode cX2_init 5 = .ok (.new 9, 3) := by decide +kernel
theorem dX2_init_8 : decode cX2_init 8 = .ok (.dup, 1) := by decide +kernel
theorem dX2_init_9 : decode cX2_init 9 = .ok (.invokespecial 11, 3) := by decide +kernel
theorem dX2_init_12 : decode cX2_init 12 = .ok (.putfield 12, 3) := by decide +kernel
theorem dX2_init_15 : decode cX2_init 15 = .ok (.aload_n 0, 1) := by decide +kernel
theorem dX2_init_16 : decode cX2_init 16 = .ok (.sipush 200, 3) := by decide +kernel
theorem dX2_init_19 : decode cX2_init 19 = .ok (.newarray .int, 2) := by decide +kernel
theorem dX2_init_21 : decode cX2_init 21 = .ok (.putfield 18, 3) := by decide +kernel
theorem dX2_init_24 : decode cX2_init 24 = .ok (.aload_n 0, 1) := by decide +kernel
theorem dX2_init_25 : decode cX2_init 25 = .ok (.sipush 200, 3) := by decide +kernel
theorem dX2_init_28 : decode cX2_init 28 = .ok (.newarray .int, 2) := by decide +kernel
theorem dX2_init_30 : decode cX2_init 30 = .ok (.putfield 22, 3) := by decide +kernel
theorem dX2_init_33 : decode cX2_init 33 = .ok (.aload_n 0, 1) := by decide +kernel
theorem dX2_init_34 : decode cX2_init 34 = .ok (.iconst 0, 1) := by decide +kernel
theorem dX2_init_35 : decode cX2_init 35 = .ok (.putfield 25, 3) := by decide +kernel
theorem dX2_init_38 : decode cX2_init 38 = .ok (.aload_n 0, 1) := by decide +kernel
theorem dX2_init_39 : decode cX2_init 39 = .ok (.iconst 0, 1) := by decide +kernel
theorem dX2_init_40 : decode cX2_init 40 = .ok (.putfield 29, 3) := by decide +kernel
theorem dX2_init_43 : decode cX2_init 43 = .ok (.aload_n 0, 1) := by decide +kernel
theorem dX2_init_44 : decode cX2_init 44 = .ok (.iconst 0, 1) := by decide +kernel
theorem dX2_init_45 : decode cX2_init 45 = .ok (.putfield 32, 3) := by decide +kernel
theorem dX2_init_48 : decode cX2_init 48 = .ok (.aload_n 0, 1) := by decide +kernel
theorem dX2_init_49 : decode cX2_init 49 = .ok (.iconst 0, 1) := by decide +kernel
theorem dX2_init_50 : decode cX2_init 50 = .ok (.putfield 35, 3) := by decide +kernel
theorem dX2_init_53 : decode cX2_init 53 = .ok (.aload_n 0, 1) := by decide +kernel
theorem dX2_init_54 : decode cX2_init 54 = .ok (.aload_n 1, 1) := by decide +kernel
theorem dX2_init_55 : decode cX2_init 55 = .ok (.iconst 4, 1) := by decide +kernel
theorem dX2_init_56 : decode cX2_init 56 = .ok (.invokestatic 38, 3) := by decide +kernel
theorem dX2_init_59 : decode cX2_init 59 = .ok (.putfield 44, 3) := by decide +kernel
theorem dX2_init_62 : decode cX2_init 62 = .ok (.aload_n 0, 1) := by decide +kernel
theorem dX2_init_63 : decode cX2_init 63 = .ok (.iload_n 2, 1) := by decide +kernel
theorem dX2_init_64 : decode cX2_init 64 = .ok (.putfield 47, 3) := by decide +kernel
theorem dX2_init_67 : decode cX2_init 67 = .ok (.return_, 1) := by decide +kernel
theorem dX2_widthOf_0 : decode cX2_widthOf 0 = .ok (.iload_n 1, 1) := by decide +kernel
theorem dX2_widthOf_1 : decode cX2_widthOf 1 = .ok (.ifCond .lt 21, 3) := by decide +kernel
theorem dX2_widthOf_4 : decode cX2_widthOf 4 = .ok (.iload_n 1, 1) := by decide +kernel
theorem dX2_widthOf_5 : decode cX2_widthOf 5 = .ok (.aload_n 0, 1) := by decide +kernel
theorem dX2_widthOf_6 : decode cX2_widthOf 6 = .ok (.getfield 44, 3) := by decide +kernel
theorem dX2_widthOf_9 : decode cX2_widthOf 9 = .ok (.arraylength, 1) := by decide +kernel
theorem dX2_widthOf_10 : decode cX2_widthOf 10 = .ok (.if_icmp .ge 12, 3) := by decide +kernel
theorem dX2_widthOf_13 : decode cX2_widthOf 13 = .ok (.aload_n 0, 1) := by decide +kernel
theorem dX2_widthOf_14 : decode cX2_widthOf 14 = .ok (.getfield 44, 3) := by decide +kernel
theorem dX2_widthOf_17 : decode cX2_widthOf 17 = .ok (.iload_n 1, 1) := by decide +kernel
theorem dX2_widthOf_18 : decode cX2_widthOf 18 = .ok (.iaload, 1) := by decide +kernel
theorem dX2_widthOf_19 : decode cX2_widthOf 19 = .ok (.goto 4, 3) := by decide +kernel
theorem dX2_widthOf_22 : decode cX2_widthOf 22 = .ok (.iconst 0, 1) := by decide +kernel
theorem dX2_widthOf_23 : decode cX2_widthOf 23 = .ok (.ireturn, 1) := by decide +kernel
theorem dX2_loosen_0 : decode cX2_loosen 0 = .ok (.aload_n 1, 1) := by decide +kernel
theorem dX2_loosen_1 : decode cX2_loosen 1 = .ok (.getfield 50, 3) := by decide +kernel
theorem dX2_loosen_4 : decode cX2_loosen 4 = .ok (.ifCond .ne 18, 3) := by decide +kernel
theorem dX2_loosen_7 : decode cX2_loosen 7 = .ok (.aload_n 1, 1) := by decide +kernel
theorem dX2_loosen_8 : decode cX2_loosen 8 = .ok (.iconst 1, 1) := by decide +kernel
theorem dX2_loosen_9 : decode cX2_loosen 9 = .ok (.putfield 50, 3) := by decide +kernel
theorem dX2_loosen_12 : decode cX2_loosen 12 = .ok (.aload_n 0, 1) := by decide +kernel
theorem dX2_loosen_13 : decode cX2_loosen 13 = .ok (.dup, 1) := by decide +kernel
theorem dX2_loosen_14 : decode cX2_loosen 14 = .ok (.getfield 29, 3) := by decide +kernel
theorem dX2_loosen_17 : decode cX2_loosen 17 = .ok (.iconst 1, 1) := by decide +kernel
theorem dX2_loosen_18 : decode cX2_loosen 18 = .ok (.iadd, 1) := by decide +kernel
theorem dX2_loosen_19 : decode cX2_loosen 19 = .ok (.putfield 29, 3) := by decide +kernel
theorem dX2_loosen_22 : decode cX2_loosen 22 = .ok (.return_, 1) := by decide +kernel
theorem dX2_keep_0 : decode cX2_keep 0 = .ok (.aload_n 0, 1) := by decide +kernel
theorem dX2_keep_1 : decode cX2_keep 1 = .ok (.getfield 25, 3) := by decide +kernel
theorem dX2_keep_4 : decode cX2_keep 4 = .ok (.iload_n 3, 1) := by decide +kernel
theorem dX2_keep_5 : decode cX2_keep 5 = .ok (.if_icmp .ge 15, 3) := by decide +kernel
theorem dX2_keep_8 : decode cX2_keep 8 = .ok (.aload_n 0, 1) := by decide +kernel
theorem dX2_keep_9 : decode cX2_keep 9 = .ok (.getfield 25, 3) := by decide +kernel
theorem dX2_keep_12 : decode cX2_keep 12 = .ok (.aload_n 0, 1) := by decide +kernel
theorem dX2_keep_13 : decode cX2_keep 13 = .ok (.getfield 18, 3) := by decide +kernel
theorem dX2_keep_16 : decode cX2_keep 16 = .ok (.arraylength, 1) := by decide +kernel
theorem dX2_keep_17 : decode cX2_keep 17 = .ok (.if_icmp .lt 5, 3) := by decide +kernel
theorem dX2_keep_20 : decode cX2_keep 20 = .ok (.iconst 0, 1) := by decide +kernel
theorem dX2_keep_21 : decode cX2_keep 21 = .ok (.ireturn, 1) := by decide +kernel
theorem dX2_keep_22 : decode cX2_keep 22 = .ok (.aload_n 0, 1) := by decide +kernel
theorem dX2_keep_23 : decode cX2_keep 23 = .ok (.getfield 18, 3) := by decide +kernel
theorem dX2_keep_26 : decode cX2_keep 26 = .ok (.aload_n 0, 1) := by decide +kernel
theorem dX2_keep_27 : decode cX2_keep 27 = .ok (.getfield 25, 3) := by decide +kernel
theorem dX2_keep_30 : decode cX2_keep 30 = .ok (.iload_n 2, 1) := by decide +kernel
theorem dX2_keep_31 : decode cX2_keep 31 = .ok (.iastore, 1) := by decide +kernel
theorem dX2_keep_32 : decode cX2_keep 32 = .ok (.aload_n 0, 1) := by decide +kernel
theorem dX2_keep_33 : decode cX2_keep 33 = .ok (.getfield 22, 3) := by decide +kernel
theorem dX2_keep_36 : decode cX2_keep 36 = .ok (.aload_n 0, 1) := by decide +kernel
theorem dX2_keep_37 : decode cX2_keep 37 = .ok (.getfield 25, 3) := by decide +kernel
theorem dX2_keep_40 : decode cX2_keep 40 = .ok (.aload_n 1, 1) := by decide +kernel
theorem dX2_keep_41 : decode cX2_keep 41 = .ok (.getfield 56, 3) := by decide +kernel
theorem dX2_keep_44 : decode cX2_keep 44 = .ok (.iastore, 1) := by decide +kernel
theorem dX2_keep_45 : decode cX2_keep 45 = .ok (.aload_n 0, 1) := by decide +kernel
theorem dX2_keep_46 : decode cX2_keep 46 = .ok (.dup, 1) := by decide +kernel
theorem dX2_keep_47 : decode cX2_keep 47 = .ok (.getfield 25, 3) := by decide +kernel
theorem dX2_keep_50 : decode cX2_keep 50 = .ok (.iconst 1, 1) := by decide +kernel
theorem dX2_keep_51 : decode cX2_keep 51 = .ok (.iadd, 1) := by decide +kernel
theorem dX2_keep_52 : decode cX2_keep 52 = .ok (.putfield 25, 3) := by decide +kernel
theorem dX2_keep_55 : decode cX2_keep 55 = .ok (.iconst 1, 1) := by decide +kernel
theorem dX2_keep_56 : decode cX2_keep 56 = .ok (.ireturn, 1) := by decide +kernel
theorem dX2_rowKept_0 : decode cX2_rowKept 0 = .ok (.iload_n 1, 1) := by decide +kernel
theorem dX2_rowKept_1 : decode cX2_rowKept 1 = .ok (.ifCond .lt 20, 3) := by decide +kernel
theorem dX2_rowKept_4 : decode cX2_rowKept 4 = .ok (.iload_n 1, 1) := by decide +kernel
theorem dX2_rowKept_5 : decode cX2_rowKept 5 = .ok (.aload_n 0, 1) := by decide +kernel
theorem dX2_rowKept_6 : decode cX2_rowKept 6 = .ok (.getfield 25, 3) := by decide +kernel
theorem dX2_rowKept_9 : decode cX2_rowKept 9 = .ok (.if_icmp .ge 12, 3) := by decide +kernel
theorem dX2_rowKept_12 : decode cX2_rowKept 12 = .ok (.aload_n 0, 1) := by decide +kernel
theorem dX2_rowKept_13 : decode cX2_rowKept 13 = .ok (.getfield 18, 3) := by decide +kernel
theorem dX2_rowKept_16 : decode cX2_rowKept 16 = .ok (.iload_n 1, 1) := by decide +kernel
theorem dX2_rowKept_17 : decode cX2_rowKept 17 = .ok (.iaload, 1) := by decide +kernel
theorem dX2_rowKept_18 : decode cX2_rowKept 18 = .ok (.goto 4, 3) := by decide +kernel
theorem dX2_rowKept_21 : decode cX2_rowKept 21 = .ok (.iconst (-1), 1) := by decide +kernel
theorem dX2_rowKept_22 : decode cX2_rowKept 22 = .ok (.ireturn, 1) := by decide +kernel
theorem dX2_channelKept_0 : decode cX2_channelKept 0 = .ok (.iload_n 1, 1) := by decide +kernel
theorem dX2_channelKept_1 : decode cX2_channelKept 1 = .ok (.ifCond .lt 20, 3) := by decide +kernel
theorem dX2_channelKept_4 : decode cX2_channelKept 4 = .ok (.iload_n 1, 1) := by decide +kernel
theorem dX2_channelKept_5 : decode cX2_channelKept 5 = .ok (.aload_n 0, 1) := by decide +kernel
theorem dX2_channelKept_6 : decode cX2_channelKept 6 = .ok (.getfield 25, 3) := by decide +kernel
theorem dX2_channelKept_9 : decode cX2_channelKept 9 = .ok (.if_icmp .ge 12, 3) := by decide +kernel
theorem dX2_channelKept_12 : decode cX2_channelKept 12 = .ok (.aload_n 0, 1) := by decide +kernel
theorem dX2_channelKept_13 : decode cX2_channelKept 13 = .ok (.getfield 22, 3) := by decide +kernel
theorem dX2_channelKept_16 : decode cX2_channelKept 16 = .ok (.iload_n 1, 1) := by decide +kernel
theorem dX2_channelKept_17 : decode cX2_channelKept 17 = .ok (.iaload, 1) := by decide +kernel
theorem dX2_channelKept_18 : decode cX2_channelKept 18 = .ok (.goto 4, 3) := by decide +kernel
theorem dX2_channelKept_21 : decode cX2_channelKept 21 = .ok (.iconst (-1), 1) := by decide +kernel
theorem dX2_channelKept_22 : decode cX2_channelKept 22 = .ok (.ireturn, 1) := by decide +kernel
theorem dX2_rowsFor_0 : decode cX2_rowsFor 0 = .ok (.iconst 0, 1) := by decide +kernel
theorem dX2_rowsFor_1 : decode cX2_rowsFor 1 = .ok (.istore_n 2, 1) := by decide +kernel
theorem dX2_rowsFor_2 : decode cX2_rowsFor 2 = .ok (.iconst 0, 1) := by decide +kernel
theorem dX2_rowsFor_3 : decode cX2_rowsFor 3 = .ok (.istore_n 3, 1) := by decide +kernel
theorem dX2_rowsFor_4 : decode cX2_rowsFor 4 = .ok (.iload_n 3, 1) := by decide +kernel
theorem dX2_rowsFor_5 : decode cX2_rowsFor 5 = .ok (.aload_n 0, 1) := by decide +kernel
theorem dX2_rowsFor_6 : decode cX2_rowsFor 6 = .ok (.getfield 25, 3) := by decide +kernel
theorem dX2_rowsFor_9 : decode cX2_rowsFor 9 = .ok (.if_icmp .ge 22, 3) := by decide +kernel
theorem dX2_rowsFor_12 : decode cX2_rowsFor 12 = .ok (.aload_n 0, 1) := by decide +kernel
theorem dX2_rowsFor_13 : decode cX2_rowsFor 13 = .ok (.getfield 22, 3) := by decide +kernel
theorem dX2_rowsFor_16 : decode cX2_rowsFor 16 = .ok (.iload_n 3, 1) := by decide +kernel
theorem dX2_rowsFor_17 : decode cX2_rowsFor 17 = .ok (.iaload, 1) := by decide +kernel
theorem dX2_rowsFor_18 : decode cX2_rowsFor 18 = .ok (.iload_n 1, 1) := by decide +kernel
theorem dX2_rowsFor_19 : decode cX2_rowsFor 19 = .ok (.if_icmp .ne 6, 3) := by decide +kernel
theorem dX2_rowsFor_22 : decode cX2_rowsFor 22 = .ok (.iinc 2 1, 3) := by decide +kernel
theorem dX2_rowsFor_25 : decode cX2_rowsFor 25 = .ok (.iinc 3 1, 3) := by decide +kernel
theorem dX2_rowsFor_28 : decode cX2_rowsFor 28 = .ok (.goto (-24), 3) := by decide +kernel
theorem dX2_rowsFor_31 : decode cX2_rowsFor 31 = .ok (.iload_n 2, 1) := by decide +kernel
theorem dX2_rowsFor_32 : decode cX2_rowsFor 32 = .ok (.ireturn, 1) := by decide +kernel
theorem dX2_rowFor_0 : decode cX2_rowFor 0 = .ok (.iload_n 2, 1) := by decide +kernel
theorem dX2_rowFor_1 : decode cX2_rowFor 1 = .ok (.ifCond .ge 5, 3) := by decide +kernel
theorem dX2_rowFor_4 : decode cX2_rowFor 4 = .ok (.iconst (-1), 1) := by decide +kernel
theorem dX2_rowFor_5 : decode cX2_rowFor 5 = .ok (.ireturn, 1) := by decide +kernel
theorem dX2_rowFor_6 : decode cX2_rowFor 6 = .ok (.iload_n 2, 1) := by decide +kernel
theorem dX2_rowFor_7 : decode cX2_rowFor 7 = .ok (.istore_n 3, 1) := by decide +kernel
theorem dX2_rowFor_8 : decode cX2_rowFor 8 = .ok (.iconst 0, 1) := by decide +kernel
theorem dX2_rowFor_9 : decode cX2_rowFor 9 = .ok (.istore 4, 2) := by decide +kernel
theorem dX2_rowFor_11 : decode cX2_rowFor 11 = .ok (.iload 4, 2) := by decide +kernel
theorem dX2_rowFor_13 : decode cX2_rowFor 13 = .ok (.aload_n 0, 1) := by decide +kernel
theorem dX2_rowFor_14 : decode cX2_rowFor 14 = .ok (.getfield 25, 3) := by decide +kernel
theorem dX2_rowFor_17 : decode cX2_rowFor 17 = .ok (.if_icmp .ge 35, 3) := by decide +kernel
theorem dX2_rowFor_20 : decode cX2_rowFor 20 = .ok (.aload_n 0, 1) := by decide +kernel
theorem dX2_rowFor_21 : decode cX2_rowFor 21 = .ok (.getfield 22, 3) := by decide +kernel
theorem dX2_rowFor_24 : decode cX2_rowFor 24 = .ok (.iload 4, 2) := by decide +kernel
theorem dX2_rowFor_26 : decode cX2_rowFor 26 = .ok (.iaload, 1) := by decide +kernel
theorem dX2_rowFor_27 : decode cX2_rowFor 27 = .ok (.iload_n 1, 1) := by decide +kernel
theorem dX2_rowFor_28 : decode cX2_rowFor 28 = .ok (.if_icmp .ne 18, 3) := by decide +kernel
theorem dX2_rowFor_31 : decode cX2_rowFor 31 = .ok (.iload_n 3, 1) := by decide +kernel
theorem dX2_rowFor_32 : decode cX2_rowFor 32 = .ok (.ifCond .ne 11, 3) := by decide +kernel
theorem dX2_rowFor_35 : decode cX2_rowFor 35 = .ok (.aload_n 0, 1) := by decide +kernel
theorem dX2_rowFor_36 : decode cX2_rowFor 36 = .ok (.getfield 18, 3) := by decide +kernel
theorem dX2_rowFor_39 : decode cX2_rowFor 39 = .ok (.iload 4, 2) := by decide +kernel
theorem dX2_rowFor_41 : decode cX2_rowFor 41 = .ok (.iaload, 1) := by decide +kernel
theorem dX2_rowFor_42 : decode cX2_rowFor 42 = .ok (.ireturn, 1) := by decide +kernel
theorem dX2_rowFor_43 : decode cX2_rowFor 43 = .ok (.iinc 3 (-1), 3) := by decide +kernel
theorem dX2_rowFor_46 : decode cX2_rowFor 46 = .ok (.iinc 4 1, 3) := by decide +kernel
theorem dX2_rowFor_49 : decode cX2_rowFor 49 = .ok (.goto (-38), 3) := by decide +kernel
theorem dX2_rowFor_52 : decode cX2_rowFor 52 = .ok (.iconst (-1), 1) := by decide +kernel
theorem dX2_rowFor_53 : decode cX2_rowFor 53 = .ok (.ireturn, 1) := by decide +kernel
