theorem dX1_init_0 : decode cX1_init 0 = .ok (.aload_n 0, 1) := by decide +kernel
theorem dX1_init_1 : decode cX1_init 1 = .ok (.invokespecial 3, 3) := by decide +kernel
theorem dX1_init_4 : decode cX1_init 4 = .ok (.aload_n 0, 1) := by decide +kernel
theorem dX1_init_5 : decode cX1_init 5 = .ok (.sipush 200, 3) := by decide +kernel
theorem dX1_init_8 : decode cX1_init 8 = .ok (.newarray .int, 2) := by decide +kernel
theorem dX1_init_10 : decode cX1_init 10 = .ok (.putfield 9, 3) := by decide +kernel
theorem dX1_init_13 : decode cX1_init 13 = .ok (.aload_n 0, 1) := by decide +kernel
theorem dX1_init_14 : decode cX1_init 14 = .ok (.sipush 200, 3) := by decide +kernel
theorem dX1_init_17 : decode cX1_init 17 = .ok (.newarray .long, 2) := by decide +kernel
theorem dX1_init_19 : decode cX1_init 19 = .ok (.putfield 15, 3) := by decide +kernel
theorem dX1_init_22 : decode cX1_init 22 = .ok (.aload_n 0, 1) := by decide +kernel
theorem dX1_init_23 : decode cX1_init 23 = .ok (.bipush 16, 2) := by decide +kernel
theorem dX1_init_25 : decode cX1_init 25 = .ok (.newarray .int, 2) := by decide +kernel
theorem dX1_init_27 : decode cX1_init 27 = .ok (.putfield 19, 3) := by decide +kernel
theorem dX1_init_30 : decode cX1_init 30 = .ok (.aload_n 0, 1) := by decide +kernel
theorem dX1_init_31 : decode cX1_init 31 = .ok (.iconst 0, 1) := by decide +kernel
theorem dX1_init_32 : decode cX1_init 32 = .ok (.putfield 22, 3) := by decide +kernel
theorem dX1_init_35 : decode cX1_init 35 = .ok (.aload_n 0, 1) := by decide +kernel
theorem dX1_init_36 : decode cX1_init 36 = .ok (.getfield 19, 3) := by decide +kernel
theorem dX1_init_39 : decode cX1_init 39 = .ok (.iconst (-1), 1) := by decide +kernel
theorem dX1_init_40 : decode cX1_init 40 = .ok (.invokestatic 26, 3) := by decide +kernel
theorem dX1_init_43 : decode cX1_init 43 = .ok (.return_, 1) := by decide +kernel
theorem dX1_append_0 : decode cX1_append 0 = .ok (.aload_n 0, 1) := by decide +kernel
theorem dX1_append_1 : decode cX1_append 1 = .ok (.getfield 22, 3) := by decide +kernel
theorem dX1_append_4 : decode cX1_append 4 = .ok (.sipush 200, 3) := by decide +kernel
theorem dX1_append_7 : decode cX1_append 7 = .ok (.if_icmp .lt 6, 3) := by decide +kernel
theorem dX1_append_10 : decode cX1_append 10 = .ok (.bipush (-104), 2) := by decide +kernel
theorem dX1_append_12 : decode cX1_append 12 = .ok (.ireturn, 1) := by decide +kernel
theorem dX1_append_13 : decode cX1_append 13 = .ok (.iload_n 1, 1) := by decide +kernel
theorem dX1_append_14 : decode cX1_append 14 = .ok (.invokestatic 32, 3) := by decide +kernel
theorem dX1_append_17 : decode cX1_append 17 = .ok (.ifCond .ne 6, 3) := by decide +kernel
theorem dX1_append_20 : decode cX1_append 20 = .ok (.bipush (-102), 2) := by decide +kernel
theorem dX1_append_22 : decode cX1_append 22 = .ok (.ireturn, 1) := by decide +kernel
theorem dX1_append_23 : decode cX1_append 23 = .ok (.aload_n 0, 1) := by decide +kernel
theorem dX1_append_24 : decode cX1_append 24 = .ok (.getfield 22, 3) := by decide +kernel
theorem dX1_append_27 : decode cX1_append 27 = .ok (.istore 4, 2) := by decide +kernel
theorem dX1_append_29 : decode cX1_append 29 = .ok (.aload_n 0, 1) := by decide +kernel
theorem dX1_append_30 : decode cX1_append 30 = .ok (.getfield 9, 3) := by decide +kernel
theorem dX1_append_33 : decode cX1_append 33 = .ok (.iload 4, 2) := by decide +kernel
theorem dX1_append_35 : decode cX1_append 35 = .ok (.iload_n 1, 1) := by decide +kernel
theorem dX1_append_36 : decode cX1_append 36 = .ok (.iastore, 1) := by decide +kernel
theorem dX1_append_37 : decode cX1_append 37 = .ok (.aload_n 0, 1) := by decide +kernel
theorem dX1_append_38 : decode cX1_append 38 = .ok (.getfield 15, 3) := by decide +kernel
theorem dX1_append_41 : decode cX1_append 41 = .ok (.iload 4, 2) := by decide +kernel
theorem dX1_append_43 : decode cX1_append 43 = .ok (.lload_n 2, 1) := by decide +kernel
theorem dX1_append_44 : decode cX1_append 44 = .ok (.lastore, 1) := by decide +kernel
theorem dX1_append_45 : decode cX1_append 45 = .ok (.aload_n 0, 1) := by decide +kernel
theorem dX1_append_46 : decode cX1_append 46 = .ok (.dup, 1) := by decide +kernel
theorem dX1_append_47 : decode cX1_append 47 = .ok (.getfield 22, 3) := by decide +kernel
theorem dX1_append_50 : decode cX1_append 50 = .ok (.iconst 1, 1) := by decide +kernel
theorem dX1_append_51 : decode cX1_append 51 = .ok (.iadd, 1) := by decide +kernel
theorem dX1_append_52 : decode cX1_append 52 = .ok (.putfield 22, 3) := by decide +kernel
theorem dX1_append_55 : decode cX1_append 55 = .ok (.aload_n 0, 1) := by decide +kernel
theorem dX1_append_56 : decode cX1_append 56 = .ok (.getfield 19, 3) := by decide +kernel
theorem dX1_append_59 : decode cX1_append 59 = .ok (.iload_n 1, 1) := by decide +kernel
theorem dX1_append_60 : decode cX1_append 60 = .ok (.iaload, 1) := by decide +kernel
theorem dX1_append_61 : decode cX1_append 61 = .ok (.iconst (-1), 1) := by decide +kernel
theorem dX1_append_62 : decode cX1_append 62 = .ok (.if_icmp .ne 11, 3) := by decide +kernel
theorem dX1_append_65 : decode cX1_append 65 = .ok (.aload_n 0, 1) := by decide +kernel
theorem dX1_append_66 : decode cX1_append 66 = .ok (.getfield 19, 3) := by decide +kernel
theorem dX1_append_69 : decode cX1_append 69 = .ok (.iload_n 1, 1) := by decide +kernel
theorem dX1_append_70 : decode cX1_append 70 = .ok (.iload 4, 2) := by decide +kernel
theorem dX1_append_72 : decode cX1_append 72 = .ok (.iastore, 1) := by decide +kernel
theorem dX1_append_73 : decode cX1_append 73 = .ok (.iload 4, 2) := by decide +kernel
theorem dX1_append_75 : decode cX1_append 75 = .ok (.ireturn, 1) := by decide +kernel
theorem dX1_keyOf_0 : decode cX1_keyOf 0 = .ok (.iload_n 1, 1) := by decide +kernel
theorem dX1_keyOf_1 : decode cX1_keyOf 1 = .ok (.invokestatic 36, 3) := by decide +kernel
theorem dX1_keyOf_4 : decode cX1_keyOf 4 = .ok (.ifCond .eq 20, 3) := by decide +kernel
theorem dX1_keyOf_7 : decode cX1_keyOf 7 = .ok (.iload_n 1, 1) := by decide +kernel
theorem dX1_keyOf_8 : decode cX1_keyOf 8 = .ok (.aload_n 0, 1) := by decide +kernel
theorem dX1_keyOf_9 : decode cX1_keyOf 9 = .ok (.getfield 22, 3) := by decide +kernel
theorem dX1_keyOf_12 : decode cX1_keyOf 12 = .ok (.if_icmp .ge 12, 3) := by decide +kernel
theorem dX1_keyOf_15 : decode cX1_keyOf 15 = .ok (.aload_n 0, 1) := by decide +kernel
theorem dX1_keyOf_16 : decode cX1_keyOf 16 = .ok (.getfield 9, 3) := by decide +kernel
theorem dX1_keyOf_19 : decode cX1_keyOf 19 = .ok (.iload_n 1, 1) := by decide +kernel
theorem dX1_keyOf_20 : decode cX1_keyOf 20 = .ok (.iaload, 1) := by decide +kernel
theorem dX1_keyOf_21 : decode cX1_keyOf 21 = .ok (.goto 4, 3) := by decide +kernel
theorem dX1_keyOf_24 : decode cX1_keyOf 24 = .ok (.iconst (-1), 1) := by decide +kernel
theorem dX1_keyOf_25 : decode cX1_keyOf 25 = .ok (.ireturn, 1) := by decide +kernel
theorem dX1_valueOf_0 : decode cX1_valueOf 0 = .ok (.iload_n 1, 1) := by decide +kernel
theorem dX1_valueOf_1 : decode cX1_valueOf 1 = .ok (.invokestatic 36, 3) := by decide +kernel
theorem dX1_valueOf_4 : decode cX1_valueOf 4 = .ok (.ifCond .eq 20, 3) := by decide +kernel
theorem dX1_valueOf_7 : decode cX1_valueOf 7 = .ok (.iload_n 1, 1) := by decide +kernel
theorem dX1_valueOf_8 : decode cX1_valueOf 8 = .ok (.aload_n 0, 1) := by decide +kernel
theorem dX1_valueOf_9 : decode cX1_valueOf 9 = .ok (.getfield 22, 3) := by decide +kernel
theorem dX1_valueOf_12 : decode cX1_valueOf 12 = .ok (.if_icmp .ge 12, 3) := by decide +kernel
theorem dX1_valueOf_15 : decode cX1_valueOf 15 = .ok (.aload_n 0, 1) := by decide +kernel
theorem dX1_valueOf_16 : decode cX1_valueOf 16 = .ok (.getfield 15, 3) := by decide +kernel
theorem dX1_valueOf_19 : decode cX1_valueOf 19 = .ok (.iload_n 1, 1) := by decide +kernel
theorem dX1_valueOf_20 : decode cX1_valueOf 20 = .ok (.laload, 1) := by decide +kernel
theorem dX1_valueOf_21 : decode cX1_valueOf 21 = .ok (.goto 4, 3) := by decide +kernel
theorem dX1_valueOf_24 : decode cX1_valueOf 24 = .ok (.lconst 0, 1) := by decide +kernel
theorem dX1_valueOf_25 : decode cX1_valueOf 25 = .ok (.lreturn, 1) := by decide +kernel
theorem dX1_firstUnread_0 : decode cX1_firstUnread 0 = .ok (.iconst (-1), 1) := by decide +kernel
theorem dX1_firstUnread_1 : decode cX1_firstUnread 1 = .ok (.istore_n 3, 1) := by decide +kernel
theorem dX1_firstUnread_2 : decode cX1_firstUnread 2 = .ok (.iconst 0, 1) := by decide +kernel
theorem dX1_firstUnread_3 : decode cX1_firstUnread 3 = .ok (.istore 4, 2) := by decide +kernel
theorem dX1_firstUnread_5 : decode cX1_firstUnread 5 = .ok (.iload 4, 2) := by decide +kernel
theorem dX1_firstUnread_7 : decode cX1_firstUnread 7 = .ok (.bipush 16, 2) := by decide +kernel
theorem dX1_firstUnread_9 : decode cX1_firstUnread 9 = .ok (.if_icmp .ge 48, 3) := by decide +kernel
theorem dX1_firstUnread_12 : decode cX1_firstUnread 12 = .ok (.aload_n 0, 1) := by decide +kernel
theorem dX1_firstUnread_13 : decode cX1_firstUnread 13 = .ok (.getfield 19, 3) := by decide +kernel
theorem dX1_firstUnread_16 : decode cX1_firstUnread 16 = .ok (.iload 4, 2) := by decide +kernel
theorem dX1_firstUnread_18 : decode cX1_firstUnread 18 = .ok (.iaload, 1) := by decide +kernel
theorem dX1_firstUnread_19 : decode cX1_firstUnread 19 = .ok (.istore 5, 2) := by decide +kernel
theorem dX1_firstUnread_21 : decode cX1_firstUnread 21 = .ok (.iload 5, 2) := by decide +kernel
theorem dX1_firstUnread_23 : decode cX1_firstUnread 23 = .ok (.iconst (-1), 1) := by decide +kernel
theorem dX1_firstUnread_24 : decode cX1_firstUnread 24 = .ok (.if_icmp .eq 27, 3) := by decide +kernel
theorem dX1_firstUnread_27 : decode cX1_firstUnread 27 = .ok (.iload 4, 2) := by decide +kernel
theorem dX1_firstUnread_29 : decode cX1_firstUnread 29 = .ok (.iload_n 2, 1) := by decide +kernel
theorem dX1_firstUnread_30 : decode cX1_firstUnread 30 = .ok (.invokestatic 39, 3) := by decide +kernel
theorem dX1_firstUnread_33 : decode cX1_firstUnread 33 = .ok (.iload_n 1, 1) := by decide +kernel
theorem dX1_firstUnread_34 : decode cX1_firstUnread 34 = .ok (.if_icmp .ne 17, 3) := by decide +kernel
theorem dX1_firstUnread_37 : decode cX1_firstUnread 37 = .ok (.iload_n 3, 1) := by decide +kernel
theorem dX1_firstUnread_38 : decode cX1_firstUnread 38 = .ok (.iconst (-1), 1) := by decide +kernel
theorem dX1_firstUnread_39 : decode cX1_firstUnread 39 = .ok (.if_icmp .eq 9, 3) := by decide +kernel
theorem dX1_firstUnread_42 : decode cX1_firstUnread 42 = .ok (.iload 5, 2) := by decide +kernel
theorem dX1_firstUnread_44 : decode cX1_firstUnread 44 = .ok (.iload_n 3, 1) := by decide +kernel
theorem dX1_firstUnread_45 : decode cX1_firstUnread 45 = .ok (.if_icmp .ge 6, 3) := by decide +kernel
theorem dX1_firstUnread_48 : decode cX1_firstUnread 48 = .ok (.iload 5, 2) := by decide +kernel
theorem dX1_firstUnread_50 : decode cX1_firstUnread 50 = .ok (.istore_n 3, 1) := by decide +kernel
theorem dX1_firstUnread_51 : decode cX1_firstUnread 51 = .ok (.iinc 4 1, 3) := by decide +kernel
theorem dX1_firstUnread_54 : decode cX1_firstUnread 54 = .ok (.goto (-49), 3) := by decide +kernel
theorem dX1_firstUnread_57 : decode cX1_firstUnread 57 = .ok (.iload_n 3, 1) := by decide +kernel
theorem dX1_firstUnread_58 : decode cX1_firstUnread 58 = .ok (.ireturn, 1) := by decide +kernel
theorem dX1_read_0 : decode cX1_read 0 = .ok (.aload_n 0, 1) := by decide +kernel
theorem dX1_read_1 : decode cX1_read 1 = .ok (.iload_n 1, 1) := by decide +kernel
theorem dX1_read_2 : decode cX1_read 2 = .ok (.invokevirtual 43, 3) := by decide +kernel
theorem dX1_read_5 : decode cX1_read 5 = .ok (.istore_n 2, 1) := by decide +kernel
theorem dX1_read_6 : decode cX1_read 6 = .ok (.iload_n 2, 1) := by decide +kernel
theorem dX1_read_7 : decode cX1_read 7 = .ok (.invokestatic 32, 3) := by decide +kernel
theorem dX1_read_10 : decode cX1_read 10 = .ok (.ifCond .eq 17, 3) := by decide +kernel
theorem dX1_read_13 : decode cX1_read 13 = .ok (.aload_n 0, 1) := by decide +kernel
theorem dX1_read_14 : decode cX1_read 14 = .ok (.getfield 19, 3) := by decide +kernel
theorem dX1_read_17 : decode cX1_read 17 = .ok (.iload_n 2, 1) := by decide +kernel
theorem dX1_read_18 : decode cX1_read 18 = .ok (.aload_n 0, 1) := by decide +kernel
theorem dX1_read_19 : decode cX1_read 19 = .ok (.iload_n 2, 1) := by decide +kernel
theorem dX1_read_20 : decode cX1_read 20 = .ok (.iload_n 1, 1) := by decide +kernel
theorem dX1_read_21 : decode cX1_read 21 = .ok (.iconst 1, 1) := by decide +kernel
theorem dX1_read_22 : decode cX1_read 22 = .ok (.iadd, 1) := by decide +kernel
theorem dX1_read_23 : decode cX1_read 23 = .ok (.invokevirtual 47, 3) := by decide +kernel
theorem dX1_read_26 : decode cX1_read 26 = .ok (.iastore, 1) := by decide +kernel
theorem dX1_read_27 : decode cX1_read 27 = .ok (.return_, 1) := by decide +kernel
theorem dX1_nextOf_0 : decode cX1_nextOf 0 = .ok (.iload_n 2, 1) := by decide +kernel
theorem dX1_nextOf_1 : decode cX1_nextOf 1 = .ok (.istore_n 3, 1) := by decide +kernel
theorem dX1_nextOf_2 : decode cX1_nextOf 2 = .ok (.iload_n 3, 1) := by decide +kernel
theorem dX1_nextOf_3 : decode cX1_nextOf 3 = .ok (.aload_n 0, 1) := by decide +kernel
theorem dX1_nextOf_4 : decode cX1_nextOf 4 = .ok (.getfield 22, 3) := by decide +kernel
theorem dX1_nextOf_7 : decode cX1_nextOf 7 = .ok (.if_icmp .ge 20, 3) := by decide +kernel
theorem dX1_nextOf_10 : decode cX1_nextOf 10 = .ok (.aload_n 0, 1) := by decide +kernel
theorem dX1_nextOf_11 : decode cX1_nextOf 11 = .ok (.iload_n 3, 1) := by decide +kernel
theorem dX1_nextOf_12 : decode cX1_nextOf 12 = .ok (.invokevirtual 43, 3) := by decide +kernel
theorem dX1_nextOf_15 : decode cX1_nextOf 15 = .ok (.iload_n 1, 1) := by decide +kernel
theorem dX1_nextOf_16 : decode cX1_nextOf 16 = .ok (.if_icmp .ne 5, 3) := by decide +kernel
theorem dX1_nextOf_19 : decode cX1_nextOf 19 = .ok (.iload_n 3, 1) := by decide +kernel
theorem dX1_nextOf_20 : decode cX1_nextOf 20 = .ok (.ireturn, 1) := by decide +kernel
theorem dX1_nextOf_21 : decode cX1_nextOf 21 = .ok (.iinc 3 1, 3) := by decide +kernel
theorem dX1_nextOf_24 : decode cX1_nextOf 24 = .ok (.goto (-22), 3) := by decide +kernel
theorem dX1_nextOf_27 : decode cX1_nextOf 27 = .ok (.iconst (-1), 1) := by decide +kernel
theorem dX1_nextOf_28 : decode cX1_nextOf 28 = .ok (.ireturn, 1) := by decide +kernel
theorem dX1_rewind_0 : decode cX1_rewind 0 = .ok (.iconst 0, 1) := by decide +kernel
theorem dX1_rewind_1 : decode cX1_rewind 1 = .ok (.istore_n 2, 1) := by decide +kernel
theorem dX1_rewind_2 : decode cX1_rewind 2 = .ok (.iload_n 2, 1) := by decide +kernel
theorem dX1_rewind_3 : decode cX1_rewind 3 = .ok (.bipush 16, 2) := by decide +kernel
theorem dX1_rewind_5 : decode cX1_rewind 5 = .ok (.if_icmp .ge 72, 3) := by decide +kernel
theorem dX1_rewind_8 : decode cX1_rewind 8 = .ok (.aload_n 0, 1) := by decide +kernel
theorem dX1_rewind_9 : decode cX1_rewind 9 = .ok (.getfield 19, 3) := by decide +kernel
theorem dX1_rewind_12 : decode cX1_rewind 12 = .ok (.iload_n 2, 1) := by decide +kernel
theorem dX1_rewind_13 : decode cX1_rewind 13 = .ok (.aload_n 0, 1) := by decide +kernel
theorem dX1_rewind_14 : decode cX1_rewind 14 = .ok (.iload_n 2, 1) := by decide +kernel
theorem dX1_rewind_15 : decode cX1_rewind 15 = .ok (.iconst 0, 1) := by decide +kernel
theorem dX1_rewind_16 : decode cX1_rewind 16 = .ok (.invokevirtual 47, 3) := by decide +kernel
theorem dX1_rewind_19 : decode cX1_rewind 19 = .ok (.iastore, 1) := by decide +kernel
theorem dX1_rewind_20 : decode cX1_rewind 20 = .ok (.aload_n 1, 1) := by decide +kernel
theorem dX1_rewind_21 : decode cX1_rewind 21 = .ok (.iconst 0, 1) := by decide +kernel
theorem dX1_rewind_22 : decode cX1_rewind 22 = .ok (.iload_n 2, 1) := by decide +kernel
theorem dX1_rewind_23 : decode cX1_rewind 23 = .ok (.invokevirtual 50, 3) := by decide +kernel
theorem dX1_rewind_26 : decode cX1_rewind 26 = .ok (.istore_n 3, 1) := by decide +kernel
theorem dX1_rewind_27 : decode cX1_rewind 27 = .ok (.iconst 0, 1) := by decide +kernel
theorem dX1_rewind_28 : decode cX1_rewind 28 = .ok (.istore 4, 2) := by decide +kernel
theorem dX1_rewind_30 : decode cX1_rewind 30 = .ok (.iload 4, 2) := by decide +kernel
theorem dX1_rewind_32 : decode cX1_rewind 32 = .ok (.iload_n 3, 1) := by decide +kernel
theorem dX1_rewind_33 : decode cX1_rewind 33 = .ok (.if_icmp .ge 38, 3) := by decide +kernel
theorem dX1_rewind_36 : decode cX1_rewind 36 = .ok (.aload_n 0, 1) := by decide +kernel
theorem dX1_rewind_37 : decode cX1_rewind 37 = .ok (.getfield 19, 3) := by decide +kernel
theorem dX1_rewind_40 : decode cX1_rewind 40 = .ok (.iload_n 2, 1) := by decide +kernel
theorem dX1_rewind_41 : decode cX1_rewind 41 = .ok (.iaload, 1) := by decide +kernel
theorem dX1_rewind_42 : decode cX1_rewind 42 = .ok (.iconst (-1), 1) := by decide +kernel
theorem dX1_rewind_43 : decode cX1_rewind 43 = .ok (.if_icmp .eq 28, 3) := by decide +kernel
theorem dX1_rewind_46 : decode cX1_rewind 46 = .ok (.aload_n 0, 1) := by decide +kernel
theorem dX1_rewind_47 : decode cX1_rewind 47 = .ok (.getfield 19, 3) := by decide +kernel
theorem dX1_rewind_50 : decode cX1_rewind 50 = .ok (.iload_n 2, 1) := by decide +kernel
theorem dX1_rewind_51 : decode cX1_rewind 51 = .ok (.aload_n 0, 1) := by decide +kernel
theorem dX1_rewind_52 : decode cX1_rewind 52 = .ok (.iload_n 2, 1) := by decide +kernel
theorem dX1_rewind_53 : decode cX1_rewind 53 = .ok (.aload_n 0, 1) := by decide +kernel
theorem dX1_rewind_54 : decode cX1_rewind 54 = .ok (.getfield 19, 3) := by decide +kernel
theorem dX1_rewind_57 : decode cX1_rewind 57 = .ok (.iload_n 2, 1) := by decide +kernel
theorem dX1_rewind_58 : decode cX1_rewind 58 = .ok (.iaload, 1) := by decide +kernel
theorem dX1_rewind_59 : decode cX1_rewind 59 = .ok (.iconst 1, 1) := by decide +kernel
theorem dX1_rewind_60 : decode cX1_rewind 60 = .ok (.iadd, 1) := by decide +kernel
theorem dX1_rewind_61 : decode cX1_rewind 61 = .ok (.invokevirtual 47, 3) := by decide +kernel
theorem dX1_rewind_64 : decode cX1_rewind 64 = .ok (.iastore, 1) := by decide +kernel
theorem dX1_rewind_65 : decode cX1_rewind 65 = .ok (.iinc 4 1, 3) := by decide +kernel
theorem dX1_rewind_68 : decode cX1_rewind 68 = .ok (.goto (-38), 3) := by decide +kernel
theorem dX1_rewind_71 : decode cX1_rewind 71 = .ok (.iinc 2 1, 3) := by decide +kernel
theorem dX1_rewind_74 : decode cX1_rewind 74 = .ok (.goto (-72), 3) := by decide +kernel
theorem dX1_rewind_77 : decode cX1_rewind 77 = .ok (.return_, 1) := by decide +kernel
theorem dX1_startsWith_0 : decode cX1_startsWith 0 = .ok (.iload_n 2, 1) := by decide +kernel
theorem dX1_startsWith_1 : decode cX1_startsWith 1 = .ok (.istore 5, 2) := by decide +kernel
theorem dX1_startsWith_3 : decode cX1_startsWith 3 = .ok (.lload_n 3, 1) := by decide +kernel
theorem dX1_startsWith_4 : decode cX1_startsWith 4 = .ok (.lstore 6, 2) := by decide +kernel
theorem dX1_startsWith_6 : decode cX1_startsWith 6 = .ok (.iconst 0, 1) := by decide +kernel
theorem dX1_startsWith_7 : decode cX1_startsWith 7 = .ok (.istore 8, 2) := by decide +kernel
theorem dX1_startsWith_9 : decode cX1_startsWith 9 = .ok (.iload 8, 2) := by decide +kernel
theorem dX1_startsWith_11 : decode cX1_startsWith 11 = .ok (.aload_n 0, 1) := by decide +kernel
theorem dX1_startsWith_12 : decode cX1_startsWith 12 = .ok (.getfield 22, 3) := by decide +kernel
theorem dX1_startsWith_15 : decode cX1_startsWith 15 = .ok (.if_icmp .ge 38, 3) := by decide +kernel
theorem dX1_startsWith_18 : decode cX1_startsWith 18 = .ok (.iload 5, 2) := by decide +kernel
theorem dX1_startsWith_20 : decode cX1_startsWith 20 = .ok (.ifCond .le 33, 3) := by decide +kernel
theorem dX1_startsWith_23 : decode cX1_startsWith 23 = .ok (.aload_n 0, 1) := by decide +kernel
theorem dX1_startsWith_24 : decode cX1_startsWith 24 = .ok (.iload 8, 2) := by decide +kernel
theorem dX1_startsWith_26 : decode cX1_startsWith 26 = .ok (.invokevirtual 43, 3) := by decide +kernel
theorem dX1_startsWith_29 : decode cX1_startsWith 29 = .ok (.iload_n 1, 1) := by decide +kernel
theorem dX1_startsWith_30 : decode cX1_startsWith 30 = .ok (.if_icmp .ne 17, 3) := by decide +kernel
theorem dX1_startsWith_33 : decode cX1_startsWith 33 = .ok (.iinc 5 (-1), 3) := by decide +kernel
theorem dX1_startsWith_36 : decode cX1_startsWith 36 = .ok (.lload 6, 2) := by decide +kernel
theorem dX1_startsWith_38 : decode cX1_startsWith 38 = .ok (.aload_n 0, 1) := by decide +kernel
theorem dX1_startsWith_39 : decode cX1_startsWith 39 = .ok (.iload 8, 2) := by decide +kernel
theorem dX1_startsWith_41 : decode cX1_startsWith 41 = .ok (.invokevirtual 55, 3) := by decide +kernel
theorem dX1_startsWith_44 : decode cX1_startsWith 44 = .ok (.lsub, 1) := by decide +kernel
theorem dX1_startsWith_45 : decode cX1_startsWith 45 = .ok (.lstore 6, 2) := by decide +kernel
theorem dX1_startsWith_47 : decode cX1_startsWith 47 = .ok (.iinc 8 1, 3) := by decide +kernel
theorem dX1_startsWith_50 : decode cX1_startsWith 50 = .ok (.goto (-41), 3) := by decide +kernel
theorem dX1_startsWith_53 : decode cX1_startsWith 53 = .ok (.iload 5, 2) := by decide +kernel
theorem dX1_startsWith_55 : decode cX1_startsWith 55 = .ok (.ifCond .ne 14, 3) := by decide +kernel
theorem dX1_startsWith_58 : decode cX1_startsWith 58 = .ok (.lload 6, 2) := by decide +kernel
theorem dX1_startsWith_60 : decode cX1_startsWith 60 = .ok (.lconst 0, 1) := by decide +kernel
theorem dX1_startsWith_61 : decode cX1_startsWith 61 = .ok (.lcmp, 1) := by decide +kernel
theorem dX1_startsWith_62 : decode cX1_startsWith 62 = .ok (.ifCond .ne 7, 3) := by decide +kernel
theorem dX1_startsWith_65 : decode cX1_startsWith 65 = .ok (.iconst 1, 1) := by decide +kernel
theorem dX1_startsWith_66 : decode cX1_startsWith 66 = .ok (.goto 4, 3) := by decide +kernel
theorem dX1_startsWith_69 : decode cX1_startsWith 69 = .ok (.iconst 0, 1) := by decide +kernel
theorem dX1_startsWith_70 : decode cX1_startsWith 70 = .ok (.ireturn, 1) := by decide +kernel
