theorem dX4_init_0 : decode cX4_init 0 = .ok (.aload_n 0, 1) := by decide +kernel
theorem dX4_init_1 : decode cX4_init 1 = .ok (.invokespecial 1, 3) := by decide +kernel
theorem dX4_init_4 : decode cX4_init 4 = .ok (.aload_n 0, 1) := by decide +kernel
theorem dX4_init_5 : decode cX4_init 5 = .ok (.iconst 0, 1) := by decide +kernel
theorem dX4_init_6 : decode cX4_init 6 = .ok (.putfield 7, 3) := by decide +kernel
theorem dX4_init_9 : decode cX4_init 9 = .ok (.aload_n 0, 1) := by decide +kernel
theorem dX4_init_10 : decode cX4_init 10 = .ok (.iconst 0, 1) := by decide +kernel
theorem dX4_init_11 : decode cX4_init 11 = .ok (.putfield 13, 3) := by decide +kernel
theorem dX4_init_14 : decode cX4_init 14 = .ok (.aload_n 0, 1) := by decide +kernel
theorem dX4_init_15 : decode cX4_init 15 = .ok (.iconst 0, 1) := by decide +kernel
theorem dX4_init_16 : decode cX4_init 16 = .ok (.putfield 17, 3) := by decide +kernel
theorem dX4_init_19 : decode cX4_init 19 = .ok (.aload_n 0, 1) := by decide +kernel
theorem dX4_init_20 : decode cX4_init 20 = .ok (.iconst 0, 1) := by decide +kernel
theorem dX4_init_21 : decode cX4_init 21 = .ok (.putfield 20, 3) := by decide +kernel
theorem dX4_init_24 : decode cX4_init 24 = .ok (.return_, 1) := by decide +kernel
theorem dX4_isWaiting_0 : decode cX4_isWaiting 0 = .ok (.aload_n 0, 1) := by decide +kernel
theorem dX4_isWaiting_1 : decode cX4_isWaiting 1 = .ok (.getfield 13, 3) := by decide +kernel
theorem dX4_isWaiting_4 : decode cX4_isWaiting 4 = .ok (.ifCond .le 14, 3) := by decide +kernel
theorem dX4_isWaiting_7 : decode cX4_isWaiting 7 = .ok (.aload_n 0, 1) := by decide +kernel
theorem dX4_isWaiting_8 : decode cX4_isWaiting 8 = .ok (.getfield 7, 3) := by decide +kernel
theorem dX4_isWaiting_11 : decode cX4_isWaiting 11 = .ok (.ifCond .ne 7, 3) := by decide +kernel
theorem dX4_isWaiting_14 : decode cX4_isWaiting 14 = .ok (.iconst 1, 1) := by decide +kernel
theorem dX4_isWaiting_15 : decode cX4_isWaiting 15 = .ok (.goto 4, 3) := by decide +kernel
theorem dX4_isWaiting_18 : decode cX4_isWaiting 18 = .ok (.iconst 0, 1) := by decide +kernel
theorem dX4_isWaiting_19 : decode cX4_isWaiting 19 = .ok (.ireturn, 1) := by decide +kernel
theorem dX4_barrierCame_0 : decode cX4_barrierCame 0 = .ok (.aload_n 0, 1) := by decide +kernel
theorem dX4_barrierCame_1 : decode cX4_barrierCame 1 = .ok (.getfield 13, 3) := by decide +kernel
theorem dX4_barrierCame_4 : decode cX4_barrierCame 4 = .ok (.ifCond .ne 8, 3) := by decide +kernel
theorem dX4_barrierCame_7 : decode cX4_barrierCame 7 = .ok (.aload_n 0, 1) := by decide +kernel
theorem dX4_barrierCame_8 : decode cX4_barrierCame 8 = .ok (.iload_n 1, 1) := by decide +kernel
theorem dX4_barrierCame_9 : decode cX4_barrierCame 9 = .ok (.putfield 17, 3) := by decide +kernel
theorem dX4_barrierCame_12 : decode cX4_barrierCame 12 = .ok (.aload_n 0, 1) := by decide +kernel
theorem dX4_barrierCame_13 : decode cX4_barrierCame 13 = .ok (.dup, 1) := by decide +kernel
theorem dX4_barrierCame_14 : decode cX4_barrierCame 14 = .ok (.getfield 13, 3) := by decide +kernel
theorem dX4_barrierCame_17 : decode cX4_barrierCame 17 = .ok (.iconst 1, 1) := by decide +kernel
theorem dX4_barrierCame_18 : decode cX4_barrierCame 18 = .ok (.iadd, 1) := by decide +kernel
theorem dX4_barrierCame_19 : decode cX4_barrierCame 19 = .ok (.putfield 13, 3) := by decide +kernel
theorem dX4_barrierCame_22 : decode cX4_barrierCame 22 = .ok (.return_, 1) := by decide +kernel
theorem dX4_forgetMark_0 : decode cX4_forgetMark 0 = .ok (.aload_n 0, 1) := by decide +kernel
theorem dX4_forgetMark_1 : decode cX4_forgetMark 1 = .ok (.iconst 0, 1) := by decide +kernel
theorem dX4_forgetMark_2 : decode cX4_forgetMark 2 = .ok (.putfield 7, 3) := by decide +kernel
theorem dX4_forgetMark_5 : decode cX4_forgetMark 5 = .ok (.aload_n 0, 1) := by decide +kernel
theorem dX4_forgetMark_6 : decode cX4_forgetMark 6 = .ok (.iconst 0, 1) := by decide +kernel
theorem dX4_forgetMark_7 : decode cX4_forgetMark 7 = .ok (.putfield 13, 3) := by decide +kernel
theorem dX4_forgetMark_10 : decode cX4_forgetMark 10 = .ok (.aload_n 0, 1) := by decide +kernel
theorem dX4_forgetMark_11 : decode cX4_forgetMark 11 = .ok (.iconst 0, 1) := by decide +kernel
theorem dX4_forgetMark_12 : decode cX4_forgetMark 12 = .ok (.putfield 17, 3) := by decide +kernel
theorem dX4_forgetMark_15 : decode cX4_forgetMark 15 = .ok (.return_, 1) := by decide +kernel
