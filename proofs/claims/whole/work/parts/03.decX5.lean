theorem dX5_init_0 : decode cX5_init 0 = .ok (.aload_n 0, 1) := by decide +kernel
theorem dX5_init_1 : decode cX5_init 1 = .ok (.invokespecial 3, 3) := by decide +kernel
theorem dX5_init_4 : decode cX5_init 4 = .ok (.aload_n 0, 1) := by decide +kernel
theorem dX5_init_5 : decode cX5_init 5 = .ok (.iconst 4, 1) := by decide +kernel
theorem dX5_init_6 : decode cX5_init 6 = .ok (.newarray .int, 2) := by decide +kernel
theorem dX5_init_8 : decode cX5_init 8 = .ok (.putfield 9, 3) := by decide +kernel
theorem dX5_init_11 : decode cX5_init 11 = .ok (.aload_n 0, 1) := by decide +kernel
theorem dX5_init_12 : decode cX5_init 12 = .ok (.new 13, 3) := by decide +kernel
theorem dX5_init_15 : decode cX5_init 15 = .ok (.dup, 1) := by decide +kernel
theorem dX5_init_16 : decode cX5_init 16 = .ok (.invokespecial 15, 3) := by decide +kernel
theorem dX5_init_19 : decode cX5_init 19 = .ok (.putfield 16, 3) := by decide +kernel
theorem dX5_init_22 : decode cX5_init 22 = .ok (.aload_n 0, 1) := by decide +kernel
theorem dX5_init_23 : decode cX5_init 23 = .ok (.new 20, 3) := by decide +kernel
theorem dX5_init_26 : decode cX5_init 26 = .ok (.dup, 1) := by decide +kernel
theorem dX5_init_27 : decode cX5_init 27 = .ok (.invokespecial 22, 3) := by decide +kernel
theorem dX5_init_30 : decode cX5_init 30 = .ok (.putfield 23, 3) := by decide +kernel
theorem dX5_init_33 : decode cX5_init 33 = .ok (.aload_n 0, 1) := by decide +kernel
theorem dX5_init_34 : decode cX5_init 34 = .ok (.bipush 8, 2) := by decide +kernel
theorem dX5_init_36 : decode cX5_init 36 = .ok (.anewarray 27, 3) := by decide +kernel
theorem dX5_init_39 : decode cX5_init 39 = .ok (.putfield 29, 3) := by decide +kernel
theorem dX5_init_42 : decode cX5_init 42 = .ok (.aload_n 0, 1) := by decide +kernel
theorem dX5_init_43 : decode cX5_init 43 = .ok (.new 20, 3) := by decide +kernel
theorem dX5_init_46 : decode cX5_init 46 = .ok (.dup, 1) := by decide +kernel
theorem dX5_init_47 : decode cX5_init 47 = .ok (.invokespecial 22, 3) := by decide +kernel
theorem dX5_init_50 : decode cX5_init 50 = .ok (.putfield 33, 3) := by decide +kernel
theorem dX5_init_53 : decode cX5_init 53 = .ok (.aload_n 0, 1) := by decide +kernel
theorem dX5_init_54 : decode cX5_init 54 = .ok (.iconst 0, 1) := by decide +kernel
theorem dX5_init_55 : decode cX5_init 55 = .ok (.putfield 36, 3) := by decide +kernel
theorem dX5_init_58 : decode cX5_init 58 = .ok (.aload_n 0, 1) := by decide +kernel
theorem dX5_init_59 : decode cX5_init 59 = .ok (.iconst (-1), 1) := by decide +kernel
theorem dX5_init_60 : decode cX5_init 60 = .ok (.putfield 40, 3) := by decide +kernel
theorem dX5_init_63 : decode cX5_init 63 = .ok (.aload_n 0, 1) := by decide +kernel
theorem dX5_init_64 : decode cX5_init 64 = .ok (.iconst 0, 1) := by decide +kernel
theorem dX5_init_65 : decode cX5_init 65 = .ok (.putfield 43, 3) := by decide +kernel
theorem dX5_init_68 : decode cX5_init 68 = .ok (.aload_n 0, 1) := by decide +kernel
theorem dX5_init_69 : decode cX5_init 69 = .ok (.iconst 5, 1) := by decide +kernel
theorem dX5_init_70 : decode cX5_init 70 = .ok (.putfield 46, 3) := by decide +kernel
theorem dX5_init_73 : decode cX5_init 73 = .ok (.aload_n 0, 1) := by decide +kernel
theorem dX5_init_74 : decode cX5_init 74 = .ok (.iconst 0, 1) := by decide +kernel
theorem dX5_init_75 : decode cX5_init 75 = .ok (.putfield 49, 3) := by decide +kernel
theorem dX5_init_78 : decode cX5_init 78 = .ok (.aload_n 0, 1) := by decide +kernel
theorem dX5_init_79 : decode cX5_init 79 = .ok (.sipush 200, 3) := by decide +kernel
theorem dX5_init_82 : decode cX5_init 82 = .ok (.putfield 52, 3) := by decide +kernel
theorem dX5_init_85 : decode cX5_init 85 = .ok (.aload_n 0, 1) := by decide +kernel
theorem dX5_init_86 : decode cX5_init 86 = .ok (.iconst 2, 1) := by decide +kernel
theorem dX5_init_87 : decode cX5_init 87 = .ok (.iconst 4, 1) := by decide +kernel
theorem dX5_init_88 : decode cX5_init 88 = .ok (.iload_n 1, 1) := by decide +kernel
theorem dX5_init_89 : decode cX5_init 89 = .ok (.invokestatic 55, 3) := by decide +kernel
theorem dX5_init_92 : decode cX5_init 92 = .ok (.invokestatic 61, 3) := by decide +kernel
theorem dX5_init_95 : decode cX5_init 95 = .ok (.putfield 64, 3) := by decide +kernel
theorem dX5_init_98 : decode cX5_init 98 = .ok (.aload_n 0, 1) := by decide +kernel
theorem dX5_init_99 : decode cX5_init 99 = .ok (.getfield 9, 3) := by decide +kernel
theorem dX5_init_102 : decode cX5_init 102 = .ok (.iconst 1, 1) := by decide +kernel
theorem dX5_init_103 : decode cX5_init 103 = .ok (.invokestatic 67, 3) := by decide +kernel
theorem dX5_init_106 : decode cX5_init 106 = .ok (.sipush 200, 3) := by decide +kernel
theorem dX5_init_109 : decode cX5_init 109 = .ok (.newarray .int, 2) := by decide +kernel
theorem dX5_init_111 : decode cX5_init 111 = .ok (.astore_n 2, 1) := by decide +kernel
theorem dX5_init_112 : decode cX5_init 112 = .ok (.aload_n 0, 1) := by decide +kernel
theorem dX5_init_113 : decode cX5_init 113 = .ok (.aload_n 0, 1) := by decide +kernel
theorem dX5_init_114 : decode cX5_init 114 = .ok (.getfield 64, 3) := by decide +kernel
theorem dX5_init_117 : decode cX5_init 117 = .ok (.iconst 1, 1) := by decide +kernel
theorem dX5_init_118 : decode cX5_init 118 = .ok (.isub, 1) := by decide +kernel
theorem dX5_init_119 : decode cX5_init 119 = .ok (.bipush 16, 2) := by decide +kernel
theorem dX5_init_121 : decode cX5_init 121 = .ok (.imul, 1) := by decide +kernel
theorem dX5_init_122 : decode cX5_init 122 = .ok (.anewarray 73, 3) := by decide +kernel
theorem dX5_init_125 : decode cX5_init 125 = .ok (.putfield 75, 3) := by decide +kernel
theorem dX5_init_128 : decode cX5_init 128 = .ok (.iconst 0, 1) := by decide +kernel
theorem dX5_init_129 : decode cX5_init 129 = .ok (.istore_n 3, 1) := by decide +kernel
theorem dX5_init_130 : decode cX5_init 130 = .ok (.iload_n 3, 1) := by decide +kernel
theorem dX5_init_131 : decode cX5_init 131 = .ok (.aload_n 0, 1) := by decide +kernel
theorem dX5_init_132 : decode cX5_init 132 = .ok (.getfield 75, 3) := by decide +kernel
theorem dX5_init_135 : decode cX5_init 135 = .ok (.arraylength, 1) := by decide +kernel
theorem dX5_init_136 : decode cX5_init 136 = .ok (.if_icmp .ge 24, 3) := by decide +kernel
theorem dX5_init_139 : decode cX5_init 139 = .ok (.aload_n 0, 1) := by decide +kernel
theorem dX5_init_140 : decode cX5_init 140 = .ok (.getfield 75, 3) := by decide +kernel
theorem dX5_init_143 : decode cX5_init 143 = .ok (.iload_n 3, 1) := by decide +kernel
theorem dX5_init_144 : decode cX5_init 144 = .ok (.new 73, 3) := by decide +kernel
theorem dX5_init_147 : decode cX5_init 147 = .ok (.dup, 1) := by decide +kernel
theorem dX5_init_148 : decode cX5_init 148 = .ok (.iload_n 3, 1) := by decide +kernel
theorem dX5_init_149 : decode cX5_init 149 = .ok (.aload_n 2, 1) := by decide +kernel
theorem dX5_init_150 : decode cX5_init 150 = .ok (.invokespecial 79, 3) := by decide +kernel
theorem dX5_init_153 : decode cX5_init 153 = .ok (.aastore, 1) := by decide +kernel
theorem dX5_init_154 : decode cX5_init 154 = .ok (.iinc 3 1, 3) := by decide +kernel
theorem dX5_init_157 : decode cX5_init 157 = .ok (.goto (-27), 3) := by decide +kernel
theorem dX5_init_160 : decode cX5_init 160 = .ok (.aload_n 0, 1) := by decide +kernel
theorem dX5_init_161 : decode cX5_init 161 = .ok (.aload_n 0, 1) := by decide +kernel
theorem dX5_init_162 : decode cX5_init 162 = .ok (.getfield 64, 3) := by decide +kernel
theorem dX5_init_165 : decode cX5_init 165 = .ok (.iconst 4, 1) := by decide +kernel
theorem dX5_init_166 : decode cX5_init 166 = .ok (.imul, 1) := by decide +kernel
theorem dX5_init_167 : decode cX5_init 167 = .ok (.anewarray 82, 3) := by decide +kernel
theorem dX5_init_170 : decode cX5_init 170 = .ok (.putfield 84, 3) := by decide +kernel
theorem dX5_init_173 : decode cX5_init 173 = .ok (.iconst 0, 1) := by decide +kernel
theorem dX5_init_174 : decode cX5_init 174 = .ok (.istore_n 3, 1) := by decide +kernel
theorem dX5_init_175 : decode cX5_init 175 = .ok (.iload_n 3, 1) := by decide +kernel
theorem dX5_init_176 : decode cX5_init 176 = .ok (.aload_n 0, 1) := by decide +kernel
theorem dX5_init_177 : decode cX5_init 177 = .ok (.getfield 84, 3) := by decide +kernel
theorem dX5_init_180 : decode cX5_init 180 = .ok (.arraylength, 1) := by decide +kernel
theorem dX5_init_181 : decode cX5_init 181 = .ok (.if_icmp .ge 22, 3) := by decide +kernel
theorem dX5_init_184 : decode cX5_init 184 = .ok (.aload_n 0, 1) := by decide +kernel
theorem dX5_init_185 : decode cX5_init 185 = .ok (.getfield 84, 3) := by decide +kernel
theorem dX5_init_188 : decode cX5_init 188 = .ok (.iload_n 3, 1) := by decide +kernel
theorem dX5_init_189 : decode cX5_init 189 = .ok (.new 82, 3) := by decide +kernel
theorem dX5_init_192 : decode cX5_init 192 = .ok (.dup, 1) := by decide +kernel
theorem dX5_init_193 : decode cX5_init 193 = .ok (.invokespecial 88, 3) := by decide +kernel
theorem dX5_init_196 : decode cX5_init 196 = .ok (.aastore, 1) := by decide +kernel
theorem dX5_init_197 : decode cX5_init 197 = .ok (.iinc 3 1, 3) := by decide +kernel
theorem dX5_init_200 : decode cX5_init 200 = .ok (.goto (-25), 3) := by decide +kernel
theorem dX5_init_203 : decode cX5_init 203 = .ok (.return_, 1) := by decide +kernel
theorem dX5_wide_0 : decode cX5_wide 0 = .ok (.aload_n 0, 1) := by decide +kernel
theorem dX5_wide_1 : decode cX5_wide 1 = .ok (.iload_n 1, 1) := by decide +kernel
theorem dX5_wide_2 : decode cX5_wide 2 = .ok (.invokevirtual 89, 3) := by decide +kernel
theorem dX5_wide_5 : decode cX5_wide 5 = .ok (.ifCond .ne 6, 3) := by decide +kernel
theorem dX5_wide_8 : decode cX5_wide 8 = .ok (.bipush (-101), 2) := by decide +kernel
theorem dX5_wide_10 : decode cX5_wide 10 = .ok (.ireturn, 1) := by decide +kernel
theorem dX5_wide_11 : decode cX5_wide 11 = .ok (.iload_n 2, 1) := by decide +kernel
theorem dX5_wide_12 : decode cX5_wide 12 = .ok (.invokestatic 93, 3) := by decide +kernel
theorem dX5_wide_15 : decode cX5_wide 15 = .ok (.ifCond .ne 6, 3) := by decide +kernel
theorem dX5_wide_18 : decode cX5_wide 18 = .ok (.bipush (-102), 2) := by decide +kernel
theorem dX5_wide_20 : decode cX5_wide 20 = .ok (.ireturn, 1) := by decide +kernel
theorem dX5_wide_21 : decode cX5_wide 21 = .ok (.aload_n 0, 1) := by decide +kernel
theorem dX5_wide_22 : decode cX5_wide 22 = .ok (.getfield 43, 3) := by decide +kernel
theorem dX5_wide_25 : decode cX5_wide 25 = .ok (.ifCond .gt 10, 3) := by decide +kernel
theorem dX5_wide_28 : decode cX5_wide 28 = .ok (.aload_n 0, 1) := by decide +kernel
theorem dX5_wide_29 : decode cX5_wide 29 = .ok (.getfield 36, 3) := by decide +kernel
theorem dX5_wide_32 : decode cX5_wide 32 = .ok (.ifCond .le 6, 3) := by decide +kernel
theorem dX5_wide_35 : decode cX5_wide 35 = .ok (.bipush (-103), 2) := by decide +kernel
theorem dX5_wide_37 : decode cX5_wide 37 = .ok (.ireturn, 1) := by decide +kernel
theorem dX5_wide_38 : decode cX5_wide 38 = .ok (.aload_n 0, 1) := by decide +kernel
theorem dX5_wide_39 : decode cX5_wide 39 = .ok (.getfield 9, 3) := by decide +kernel
theorem dX5_wide_42 : decode cX5_wide 42 = .ok (.iload_n 1, 1) := by decide +kernel
theorem dX5_wide_43 : decode cX5_wide 43 = .ok (.iaload, 1) := by decide +kernel
theorem dX5_wide_44 : decode cX5_wide 44 = .ok (.istore_n 3, 1) := by decide +kernel
theorem dX5_wide_45 : decode cX5_wide 45 = .ok (.aload_n 0, 1) := by decide +kernel
theorem dX5_wide_46 : decode cX5_wide 46 = .ok (.getfield 9, 3) := by decide +kernel
theorem dX5_wide_49 : decode cX5_wide 49 = .ok (.iload_n 1, 1) := by decide +kernel
theorem dX5_wide_50 : decode cX5_wide 50 = .ok (.iload_n 2, 1) := by decide +kernel
theorem dX5_wide_51 : decode cX5_wide 51 = .ok (.iastore, 1) := by decide +kernel
theorem dX5_wide_52 : decode cX5_wide 52 = .ok (.iload_n 3, 1) := by decide +kernel
theorem dX5_wide_53 : decode cX5_wide 53 = .ok (.ireturn, 1) := by decide +kernel
theorem dX5_capacity_0 : decode cX5_capacity 0 = .ok (.iload_n 1, 1) := by decide +kernel
theorem dX5_capacity_1 : decode cX5_capacity 1 = .ok (.iconst 1, 1) := by decide +kernel
theorem dX5_capacity_2 : decode cX5_capacity 2 = .ok (.if_icmp .lt 9, 3) := by decide +kernel
theorem dX5_capacity_5 : decode cX5_capacity 5 = .ok (.iload_n 1, 1) := by decide +kernel
theorem dX5_capacity_6 : decode cX5_capacity 6 = .ok (.bipush 20, 2) := by decide +kernel
theorem dX5_capacity_8 : decode cX5_capacity 8 = .ok (.if_icmp .le 6, 3) := by decide +kernel
theorem dX5_capacity_11 : decode cX5_capacity 11 = .ok (.bipush (-102), 2) := by decide +kernel
theorem dX5_capacity_13 : decode cX5_capacity 13 = .ok (.ireturn, 1) := by decide +kernel
theorem dX5_capacity_14 : decode cX5_capacity 14 = .ok (.aload_n 0, 1) := by decide +kernel
theorem dX5_capacity_15 : decode cX5_capacity 15 = .ok (.getfield 46, 3) := by decide +kernel
theorem dX5_capacity_18 : decode cX5_capacity 18 = .ok (.istore_n 2, 1) := by decide +kernel
theorem dX5_capacity_19 : decode cX5_capacity 19 = .ok (.aload_n 0, 1) := by decide +kernel
theorem dX5_capacity_20 : decode cX5_capacity 20 = .ok (.iload_n 1, 1) := by decide +kernel
theorem dX5_capacity_21 : decode cX5_capacity 21 = .ok (.putfield 46, 3) := by decide +kernel
theorem dX5_capacity_24 : decode cX5_capacity 24 = .ok (.iload_n 2, 1) := by decide +kernel
theorem dX5_capacity_25 : decode cX5_capacity 25 = .ok (.ireturn, 1) := by decide +kernel
theorem dX5_bound_0 : decode cX5_bound 0 = .ok (.iload_n 1, 1) := by decide +kernel
theorem dX5_bound_1 : decode cX5_bound 1 = .ok (.iconst (-1), 1) := by decide +kernel
theorem dX5_bound_2 : decode cX5_bound 2 = .ok (.if_icmp .lt 10, 3) := by decide +kernel
theorem dX5_bound_5 : decode cX5_bound 5 = .ok (.iload_n 1, 1) := by decide +kernel
theorem dX5_bound_6 : decode cX5_bound 6 = .ok (.sipush 1000, 3) := by decide +kernel
theorem dX5_bound_9 : decode cX5_bound 9 = .ok (.if_icmp .le 6, 3) := by decide +kernel
theorem dX5_bound_12 : decode cX5_bound 12 = .ok (.bipush (-102), 2) := by decide +kernel
theorem dX5_bound_14 : decode cX5_bound 14 = .ok (.ireturn, 1) := by decide +kernel
theorem dX5_bound_15 : decode cX5_bound 15 = .ok (.aload_n 0, 1) := by decide +kernel
theorem dX5_bound_16 : decode cX5_bound 16 = .ok (.getfield 40, 3) := by decide +kernel
theorem dX5_bound_19 : decode cX5_bound 19 = .ok (.iconst (-1), 1) := by decide +kernel
theorem dX5_bound_20 : decode cX5_bound 20 = .ok (.if_icmp .eq 6, 3) := by decide +kernel
theorem dX5_bound_23 : decode cX5_bound 23 = .ok (.bipush (-103), 2) := by decide +kernel
theorem dX5_bound_25 : decode cX5_bound 25 = .ok (.ireturn, 1) := by decide +kernel
theorem dX5_bound_26 : decode cX5_bound 26 = .ok (.aload_n 0, 1) := by decide +kernel
theorem dX5_bound_27 : decode cX5_bound 27 = .ok (.getfield 49, 3) := by decide +kernel
theorem dX5_bound_30 : decode cX5_bound 30 = .ok (.istore_n 2, 1) := by decide +kernel
theorem dX5_bound_31 : decode cX5_bound 31 = .ok (.aload_n 0, 1) := by decide +kernel
theorem dX5_bound_32 : decode cX5_bound 32 = .ok (.iload_n 1, 1) := by decide +kernel
theorem dX5_bound_33 : decode cX5_bound 33 = .ok (.putfield 49, 3) := by decide +kernel
theorem dX5_bound_36 : decode cX5_bound 36 = .ok (.iload_n 2, 1) := by decide +kernel
theorem dX5_bound_37 : decode cX5_bound 37 = .ok (.ireturn, 1) := by decide +kernel
theorem dX5_limit_0 : decode cX5_limit 0 = .ok (.iload_n 1, 1) := by decide +kernel
theorem dX5_limit_1 : decode cX5_limit 1 = .ok (.ifCond .lt 10, 3) := by decide +kernel
theorem dX5_limit_4 : decode cX5_limit 4 = .ok (.iload_n 1, 1) := by decide +kernel
theorem dX5_limit_5 : decode cX5_limit 5 = .ok (.sipush 200, 3) := by decide +kernel
theorem dX5_limit_8 : decode cX5_limit 8 = .ok (.if_icmp .le 6, 3) := by decide +kernel
theorem dX5_limit_11 : decode cX5_limit 11 = .ok (.bipush (-102), 2) := by decide +kernel
theorem dX5_limit_13 : decode cX5_limit 13 = .ok (.ireturn, 1) := by decide +kernel
theorem dX5_limit_14 : decode cX5_limit 14 = .ok (.aload_n 0, 1) := by decide +kernel
theorem dX5_limit_15 : decode cX5_limit 15 = .ok (.getfield 52, 3) := by decide +kernel
theorem dX5_limit_18 : decode cX5_limit 18 = .ok (.istore_n 2, 1) := by decide +kernel
theorem dX5_limit_19 : decode cX5_limit 19 = .ok (.aload_n 0, 1) := by decide +kernel
theorem dX5_limit_20 : decode cX5_limit 20 = .ok (.iload_n 1, 1) := by decide +kernel
theorem dX5_limit_21 : decode cX5_limit 21 = .ok (.putfield 52, 3) := by decide +kernel
theorem dX5_limit_24 : decode cX5_limit 24 = .ok (.iload_n 2, 1) := by decide +kernel
theorem dX5_limit_25 : decode cX5_limit 25 = .ok (.ireturn, 1) := by decide +kernel
theorem dX5_feed_0 : decode cX5_feed 0 = .ok (.iload_n 1, 1) := by decide +kernel
theorem dX5_feed_1 : decode cX5_feed 1 = .ok (.invokestatic 96, 3) := by decide +kernel
theorem dX5_feed_4 : decode cX5_feed 4 = .ok (.ifCond .ne 6, 3) := by decide +kernel
theorem dX5_feed_7 : decode cX5_feed 7 = .ok (.bipush (-102), 2) := by decide +kernel
theorem dX5_feed_9 : decode cX5_feed 9 = .ok (.ireturn, 1) := by decide +kernel
theorem dX5_feed_10 : decode cX5_feed 10 = .ok (.aload_n 0, 1) := by decide +kernel
theorem dX5_feed_11 : decode cX5_feed 11 = .ok (.getfield 16, 3) := by decide +kernel
theorem dX5_feed_14 : decode cX5_feed 14 = .ok (.iload_n 1, 1) := by decide +kernel
theorem dX5_feed_15 : decode cX5_feed 15 = .ok (.lload_n 2, 1) := by decide +kernel
theorem dX5_feed_16 : decode cX5_feed 16 = .ok (.invokevirtual 99, 3) := by decide +kernel
theorem dX5_feed_19 : decode cX5_feed 19 = .ok (.ireturn, 1) := by decide +kernel
theorem dX5_turn_0 : decode cX5_turn 0 = .ok (.aload_n 0, 1) := by decide +kernel
theorem dX5_turn_1 : decode cX5_turn 1 = .ok (.iload_n 1, 1) := by decide +kernel
theorem dX5_turn_2 : decode cX5_turn 2 = .ok (.iload_n 2, 1) := by decide +kernel
theorem dX5_turn_3 : decode cX5_turn 3 = .ok (.invokevirtual 103, 3) := by decide +kernel
theorem dX5_turn_6 : decode cX5_turn 6 = .ok (.ifnonnull 6, 3) := by decide +kernel
theorem dX5_turn_9 : decode cX5_turn 9 = .ok (.bipush (-101), 2) := by decide +kernel
theorem dX5_turn_11 : decode cX5_turn 11 = .ok (.ireturn, 1) := by decide +kernel
theorem dX5_turn_12 : decode cX5_turn 12 = .ok (.aload_n 0, 1) := by decide +kernel
theorem dX5_turn_13 : decode cX5_turn 13 = .ok (.iload_n 1, 1) := by decide +kernel
theorem dX5_turn_14 : decode cX5_turn 14 = .ok (.iload_n 2, 1) := by decide +kernel
theorem dX5_turn_15 : decode cX5_turn 15 = .ok (.invokevirtual 107, 3) := by decide +kernel
theorem dX5_turn_18 : decode cX5_turn 18 = .ok (.ireturn, 1) := by decide +kernel
theorem dX5_run_0 : decode cX5_run 0 = .ok (.iload_n 1, 1) := by decide +kernel
theorem dX5_run_1 : decode cX5_run 1 = .ok (.iconst 1, 1) := by decide +kernel
theorem dX5_run_2 : decode cX5_run 2 = .ok (.if_icmp .lt 9, 3) := by decide +kernel
theorem dX5_run_5 : decode cX5_run 5 = .ok (.iload_n 1, 1) := by decide +kernel
theorem dX5_run_6 : decode cX5_run 6 = .ok (.bipush 50, 2) := by decide +kernel
theorem dX5_run_8 : decode cX5_run 8 = .ok (.if_icmp .le 6, 3) := by decide +kernel
theorem dX5_run_11 : decode cX5_run 11 = .ok (.bipush (-102), 2) := by decide +kernel
theorem dX5_run_13 : decode cX5_run 13 = .ok (.ireturn, 1) := by decide +kernel
theorem dX5_run_14 : decode cX5_run 14 = .ok (.iconst 0, 1) := by decide +kernel
theorem dX5_run_15 : decode cX5_run 15 = .ok (.istore_n 2, 1) := by decide +kernel
theorem dX5_run_16 : decode cX5_run 16 = .ok (.iconst 0, 1) := by decide +kernel
theorem dX5_run_17 : decode cX5_run 17 = .ok (.istore_n 3, 1) := by decide +kernel
theorem dX5_run_18 : decode cX5_run 18 = .ok (.iload_n 3, 1) := by decide +kernel
theorem dX5_run_19 : decode cX5_run 19 = .ok (.iload_n 1, 1) := by decide +kernel
theorem dX5_run_20 : decode cX5_run 20 = .ok (.if_icmp .ge 61, 3) := by decide +kernel
theorem dX5_run_23 : decode cX5_run 23 = .ok (.iconst 0, 1) := by decide +kernel
theorem dX5_run_24 : decode cX5_run 24 = .ok (.istore 4, 2) := by decide +kernel
theorem dX5_run_26 : decode cX5_run 26 = .ok (.iload 4, 2) := by decide +kernel
theorem dX5_run_28 : decode cX5_run 28 = .ok (.aload_n 0, 1) := by decide +kernel
theorem dX5_run_29 : decode cX5_run 29 = .ok (.getfield 64, 3) := by decide +kernel
theorem dX5_run_32 : decode cX5_run 32 = .ok (.if_icmp .ge 43, 3) := by decide +kernel
theorem dX5_run_35 : decode cX5_run 35 = .ok (.iconst 0, 1) := by decide +kernel
theorem dX5_run_36 : decode cX5_run 36 = .ok (.istore 5, 2) := by decide +kernel
theorem dX5_run_38 : decode cX5_run 38 = .ok (.iload 5, 2) := by decide +kernel
theorem dX5_run_40 : decode cX5_run 40 = .ok (.aload_n 0, 1) := by decide +kernel
theorem dX5_run_41 : decode cX5_run 41 = .ok (.iload 4, 2) := by decide +kernel
theorem dX5_run_43 : decode cX5_run 43 = .ok (.invokevirtual 110, 3) := by decide +kernel
theorem dX5_run_46 : decode cX5_run 46 = .ok (.if_icmp .ge 23, 3) := by decide +kernel
theorem dX5_run_49 : decode cX5_run 49 = .ok (.aload_n 0, 1) := by decide +kernel
theorem dX5_run_50 : decode cX5_run 50 = .ok (.iload 4, 2) := by decide +kernel
theorem dX5_run_52 : decode cX5_run 52 = .ok (.iload 5, 2) := by decide +kernel
theorem dX5_run_54 : decode cX5_run 54 = .ok (.invokevirtual 107, 3) := by decide +kernel
theorem dX5_run_57 : decode cX5_run 57 = .ok (.ifCond .eq 6, 3) := by decide +kernel
theorem dX5_run_60 : decode cX5_run 60 = .ok (.iinc 2 1, 3) := by decide +kernel
theorem dX5_run_63 : decode cX5_run 63 = .ok (.iinc 5 1, 3) := by decide +kernel
theorem dX5_run_66 : decode cX5_run 66 = .ok (.goto (-28), 3) := by decide +kernel
theorem dX5_run_69 : decode cX5_run 69 = .ok (.iinc 4 1, 3) := by decide +kernel
theorem dX5_run_72 : decode cX5_run 72 = .ok (.goto (-46), 3) := by decide +kernel
theorem dX5_run_75 : decode cX5_run 75 = .ok (.iinc 3 1, 3) := by decide +kernel
theorem dX5_run_78 : decode cX5_run 78 = .ok (.goto (-60), 3) := by decide +kernel
theorem dX5_run_81 : decode cX5_run 81 = .ok (.iload_n 2, 1) := by decide +kernel
theorem dX5_run_82 : decode cX5_run 82 = .ok (.ireturn, 1) := by decide +kernel
theorem dX5_mark_0 : decode cX5_mark 0 = .ok (.aload_n 0, 1) := by decide +kernel
theorem dX5_mark_1 : decode cX5_mark 1 = .ok (.getfield 40, 3) := by decide +kernel
theorem dX5_mark_4 : decode cX5_mark 4 = .ok (.iconst (-1), 1) := by decide +kernel
theorem dX5_mark_5 : decode cX5_mark 5 = .ok (.if_icmp .eq 6, 3) := by decide +kernel
theorem dX5_mark_8 : decode cX5_mark 8 = .ok (.bipush (-103), 2) := by decide +kernel
theorem dX5_mark_10 : decode cX5_mark 10 = .ok (.ireturn, 1) := by decide +kernel
theorem dX5_mark_11 : decode cX5_mark 11 = .ok (.aload_n 0, 1) := by decide +kernel
theorem dX5_mark_12 : decode cX5_mark 12 = .ok (.getfield 36, 3) := by decide +kernel
theorem dX5_mark_15 : decode cX5_mark 15 = .ok (.aload_n 0, 1) := by decide +kernel
theorem dX5_mark_16 : decode cX5_mark 16 = .ok (.getfield 29, 3) := by decide +kernel
theorem dX5_mark_19 : decode cX5_mark 19 = .ok (.arraylength, 1) := by decide +kernel
theorem dX5_mark_20 : decode cX5_mark 20 = .ok (.if_icmp .lt 6, 3) := by decide +kernel
theorem dX5_mark_23 : decode cX5_mark 23 = .ok (.bipush (-104), 2) := by decide +kernel
theorem dX5_mark_25 : decode cX5_mark 25 = .ok (.ireturn, 1) := by decide +kernel
theorem dX5_mark_26 : decode cX5_mark 26 = .ok (.aload_n 0, 1) := by decide +kernel
theorem dX5_mark_27 : decode cX5_mark 27 = .ok (.getfield 36, 3) := by decide +kernel
theorem dX5_mark_30 : decode cX5_mark 30 = .ok (.istore_n 1, 1) := by decide +kernel
theorem dX5_mark_31 : decode cX5_mark 31 = .ok (.aload_n 0, 1) := by decide +kernel
theorem dX5_mark_32 : decode cX5_mark 32 = .ok (.getfield 29, 3) := by decide +kernel
theorem dX5_mark_35 : decode cX5_mark 35 = .ok (.iload_n 1, 1) := by decide +kernel
theorem dX5_mark_36 : decode cX5_mark 36 = .ok (.new 27, 3) := by decide +kernel
theorem dX5_mark_39 : decode cX5_mark 39 = .ok (.dup, 1) := by decide +kernel
theorem dX5_mark_40 : decode cX5_mark 40 = .ok (.aload_n 0, 1) := by decide +kernel
theorem dX5_mark_41 : decode cX5_mark 41 = .ok (.getfield 9, 3) := by decide +kernel
theorem dX5_mark_44 : decode cX5_mark 44 = .ok (.aload_n 0, 1) := by decide +kernel
theorem dX5_mark_45 : decode cX5_mark 45 = .ok (.getfield 43, 3) := by decide +kernel
theorem dX5_mark_48 : decode cX5_mark 48 = .ok (.invokespecial 114, 3) := by decide +kernel
theorem dX5_mark_51 : decode cX5_mark 51 = .ok (.aastore, 1) := by decide +kernel
theorem dX5_mark_52 : decode cX5_mark 52 = .ok (.aload_n 0, 1) := by decide +kernel
theorem dX5_mark_53 : decode cX5_mark 53 = .ok (.dup, 1) := by decide +kernel
theorem dX5_mark_54 : decode cX5_mark 54 = .ok (.getfield 36, 3) := by decide +kernel
theorem dX5_mark_57 : decode cX5_mark 57 = .ok (.iconst 1, 1) := by decide +kernel
theorem dX5_mark_58 : decode cX5_mark 58 = .ok (.iadd, 1) := by decide +kernel
theorem dX5_mark_59 : decode cX5_mark 59 = .ok (.putfield 36, 3) := by decide +kernel
theorem dX5_mark_62 : decode cX5_mark 62 = .ok (.aload_n 0, 1) := by decide +kernel
theorem dX5_mark_63 : decode cX5_mark 63 = .ok (.iload_n 1, 1) := by decide +kernel
theorem dX5_mark_64 : decode cX5_mark 64 = .ok (.putfield 40, 3) := by decide +kernel
theorem dX5_mark_67 : decode cX5_mark 67 = .ok (.iconst 0, 1) := by decide +kernel
theorem dX5_mark_68 : decode cX5_mark 68 = .ok (.istore_n 2, 1) := by decide +kernel
theorem dX5_mark_69 : decode cX5_mark 69 = .ok (.iload_n 2, 1) := by decide +kernel
theorem dX5_mark_70 : decode cX5_mark 70 = .ok (.aload_n 0, 1) := by decide +kernel
theorem dX5_mark_71 : decode cX5_mark 71 = .ok (.iconst 0, 1) := by decide +kernel
theorem dX5_mark_72 : decode cX5_mark 72 = .ok (.invokevirtual 110, 3) := by decide +kernel
theorem dX5_mark_75 : decode cX5_mark 75 = .ok (.if_icmp .ge 35, 3) := by decide +kernel
theorem dX5_mark_78 : decode cX5_mark 78 = .ok (.aload_n 0, 1) := by decide +kernel
theorem dX5_mark_79 : decode cX5_mark 79 = .ok (.getfield 40, 3) := by decide +kernel
theorem dX5_mark_82 : decode cX5_mark 82 = .ok (.iconst (-1), 1) := by decide +kernel
theorem dX5_mark_83 : decode cX5_mark 83 = .ok (.if_icmp .eq 27, 3) := by decide +kernel
theorem dX5_mark_86 : decode cX5_mark 86 = .ok (.aload_n 0, 1) := by decide +kernel
theorem dX5_mark_87 : decode cX5_mark 87 = .ok (.iconst 0, 1) := by decide +kernel
theorem dX5_mark_88 : decode cX5_mark 88 = .ok (.iload_n 2, 1) := by decide +kernel
theorem dX5_mark_89 : decode cX5_mark 89 = .ok (.aload_n 0, 1) := by decide +kernel
theorem dX5_mark_90 : decode cX5_mark 90 = .ok (.getfield 49, 3) := by decide +kernel
theorem dX5_mark_93 : decode cX5_mark 93 = .ok (.ifCond .ne 7, 3) := by decide +kernel
theorem dX5_mark_96 : decode cX5_mark 96 = .ok (.iconst 1, 1) := by decide +kernel
theorem dX5_mark_97 : decode cX5_mark 97 = .ok (.goto 4, 3) := by decide +kernel
theorem dX5_mark_100 : decode cX5_mark 100 = .ok (.iconst 0, 1) := by decide +kernel
theorem dX5_mark_101 : decode cX5_mark 101 = .ok (.invokevirtual 116, 3) := by decide +kernel
theorem dX5_mark_104 : decode cX5_mark 104 = .ok (.iinc 2 1, 3) := by decide +kernel
theorem dX5_mark_107 : decode cX5_mark 107 = .ok (.goto (-38), 3) := by decide +kernel
theorem dX5_mark_110 : decode cX5_mark 110 = .ok (.iload_n 1, 1) := by decide +kernel
theorem dX5_mark_111 : decode cX5_mark 111 = .ok (.ireturn, 1) := by decide +kernel
theorem dX5_giveUp_0 : decode cX5_giveUp 0 = .ok (.aload_n 0, 1) := by decide +kernel
theorem dX5_giveUp_1 : decode cX5_giveUp 1 = .ok (.getfield 40, 3) := by decide +kernel
theorem dX5_giveUp_4 : decode cX5_giveUp 4 = .ok (.iconst (-1), 1) := by decide +kernel
theorem dX5_giveUp_5 : decode cX5_giveUp 5 = .ok (.if_icmp .ne 6, 3) := by decide +kernel
theorem dX5_giveUp_8 : decode cX5_giveUp 8 = .ok (.bipush (-103), 2) := by decide +kernel
theorem dX5_giveUp_10 : decode cX5_giveUp 10 = .ok (.ireturn, 1) := by decide +kernel
theorem dX5_giveUp_11 : decode cX5_giveUp 11 = .ok (.aload_n 0, 1) := by decide +kernel
theorem dX5_giveUp_12 : decode cX5_giveUp 12 = .ok (.getfield 40, 3) := by decide +kernel
theorem dX5_giveUp_15 : decode cX5_giveUp 15 = .ok (.istore_n 1, 1) := by decide +kernel
theorem dX5_giveUp_16 : decode cX5_giveUp 16 = .ok (.aload_n 0, 1) := by decide +kernel
theorem dX5_giveUp_17 : decode cX5_giveUp 17 = .ok (.iconst 3, 1) := by decide +kernel
theorem dX5_giveUp_18 : decode cX5_giveUp 18 = .ok (.invokevirtual 120, 3) := by decide +kernel
theorem dX5_giveUp_21 : decode cX5_giveUp 21 = .ok (.iload_n 1, 1) := by decide +kernel
theorem dX5_giveUp_22 : decode cX5_giveUp 22 = .ok (.ireturn, 1) := by decide +kernel
theorem dX5_restore_0 : decode cX5_restore 0 = .ok (.aload_n 0, 1) := by decide +kernel
theorem dX5_restore_1 : decode cX5_restore 1 = .ok (.iload_n 1, 1) := by decide +kernel
theorem dX5_restore_2 : decode cX5_restore 2 = .ok (.invokevirtual 124, 3) := by decide +kernel
theorem dX5_restore_5 : decode cX5_restore 5 = .ok (.astore 6, 2) := by decide +kernel
theorem dX5_restore_7 : decode cX5_restore 7 = .ok (.aload 6, 2) := by decide +kernel
theorem dX5_restore_9 : decode cX5_restore 9 = .ok (.ifnonnull 6, 3) := by decide +kernel
theorem dX5_restore_12 : decode cX5_restore 12 = .ok (.bipush (-101), 2) := by decide +kernel
theorem dX5_restore_14 : decode cX5_restore 14 = .ok (.ireturn, 1) := by decide +kernel
theorem dX5_restore_15 : decode cX5_restore 15 = .ok (.aload_n 0, 1) := by decide +kernel
theorem dX5_restore_16 : decode cX5_restore 16 = .ok (.iload_n 2, 1) := by decide +kernel
theorem dX5_restore_17 : decode cX5_restore 17 = .ok (.iload_n 3, 1) := by decide +kernel
theorem dX5_restore_18 : decode cX5_restore 18 = .ok (.iload 4, 2) := by decide +kernel
theorem dX5_restore_20 : decode cX5_restore 20 = .ok (.iload 5, 2) := by decide +kernel
theorem dX5_restore_22 : decode cX5_restore 22 = .ok (.invokevirtual 128, 3) := by decide +kernel
theorem dX5_restore_25 : decode cX5_restore 25 = .ok (.ifCond .ne 6, 3) := by decide +kernel
theorem dX5_restore_28 : decode cX5_restore 28 = .ok (.bipush (-102), 2) := by decide +kernel
theorem dX5_restore_30 : decode cX5_restore 30 = .ok (.ireturn, 1) := by decide +kernel
theorem dX5_restore_31 : decode cX5_restore 31 = .ok (.aload 6, 2) := by decide +kernel
theorem dX5_restore_33 : decode cX5_restore 33 = .ok (.getfield 132, 3) := by decide +kernel
theorem dX5_restore_36 : decode cX5_restore 36 = .ok (.iconst 1, 1) := by decide +kernel
theorem dX5_restore_37 : decode cX5_restore 37 = .ok (.if_icmp .eq 6, 3) := by decide +kernel
theorem dX5_restore_40 : decode cX5_restore 40 = .ok (.bipush (-103), 2) := by decide +kernel
theorem dX5_restore_42 : decode cX5_restore 42 = .ok (.ireturn, 1) := by decide +kernel
theorem dX5_restore_43 : decode cX5_restore 43 = .ok (.aload_n 0, 1) := by decide +kernel
theorem dX5_restore_44 : decode cX5_restore 44 = .ok (.iconst 2, 1) := by decide +kernel
theorem dX5_restore_45 : decode cX5_restore 45 = .ok (.invokevirtual 120, 3) := by decide +kernel
theorem dX5_restore_48 : decode cX5_restore 48 = .ok (.aload_n 0, 1) := by decide +kernel
theorem dX5_restore_49 : decode cX5_restore 49 = .ok (.iload_n 2, 1) := by decide +kernel
theorem dX5_restore_50 : decode cX5_restore 50 = .ok (.iload_n 3, 1) := by decide +kernel
theorem dX5_restore_51 : decode cX5_restore 51 = .ok (.iload 4, 2) := by decide +kernel
theorem dX5_restore_53 : decode cX5_restore 53 = .ok (.iload 5, 2) := by decide +kernel
theorem dX5_restore_55 : decode cX5_restore 55 = .ok (.invokevirtual 135, 3) := by decide +kernel
theorem dX5_restore_58 : decode cX5_restore 58 = .ok (.aload_n 0, 1) := by decide +kernel
theorem dX5_restore_59 : decode cX5_restore 59 = .ok (.getfield 23, 3) := by decide +kernel
theorem dX5_restore_62 : decode cX5_restore 62 = .ok (.aload 6, 2) := by decide +kernel
theorem dX5_restore_64 : decode cX5_restore 64 = .ok (.getfield 139, 3) := by decide +kernel
theorem dX5_restore_67 : decode cX5_restore 67 = .ok (.invokevirtual 140, 3) := by decide +kernel
theorem dX5_restore_70 : decode cX5_restore 70 = .ok (.aload_n 0, 1) := by decide +kernel
theorem dX5_restore_71 : decode cX5_restore 71 = .ok (.getfield 16, 3) := by decide +kernel
theorem dX5_restore_74 : decode cX5_restore 74 = .ok (.aload_n 0, 1) := by decide +kernel
theorem dX5_restore_75 : decode cX5_restore 75 = .ok (.getfield 23, 3) := by decide +kernel
theorem dX5_restore_78 : decode cX5_restore 78 = .ok (.invokevirtual 144, 3) := by decide +kernel
theorem dX5_restore_81 : decode cX5_restore 81 = .ok (.iconst 0, 1) := by decide +kernel
theorem dX5_restore_82 : decode cX5_restore 82 = .ok (.istore 7, 2) := by decide +kernel
theorem dX5_restore_84 : decode cX5_restore 84 = .ok (.iload 7, 2) := by decide +kernel
theorem dX5_restore_86 : decode cX5_restore 86 = .ok (.aload_n 0, 1) := by decide +kernel
theorem dX5_restore_87 : decode cX5_restore 87 = .ok (.getfield 75, 3) := by decide +kernel
theorem dX5_restore_90 : decode cX5_restore 90 = .ok (.arraylength, 1) := by decide +kernel
theorem dX5_restore_91 : decode cX5_restore 91 = .ok (.if_icmp .ge 19, 3) := by decide +kernel
theorem dX5_restore_94 : decode cX5_restore 94 = .ok (.aload_n 0, 1) := by decide +kernel
theorem dX5_restore_95 : decode cX5_restore 95 = .ok (.getfield 75, 3) := by decide +kernel
theorem dX5_restore_98 : decode cX5_restore 98 = .ok (.iload 7, 2) := by decide +kernel
theorem dX5_restore_100 : decode cX5_restore 100 = .ok (.aaload, 1) := by decide +kernel
theorem dX5_restore_101 : decode cX5_restore 101 = .ok (.invokevirtual 147, 3) := by decide +kernel
theorem dX5_restore_104 : decode cX5_restore 104 = .ok (.iinc 7 1, 3) := by decide +kernel
theorem dX5_restore_107 : decode cX5_restore 107 = .ok (.goto (-23), 3) := by decide +kernel
theorem dX5_restore_110 : decode cX5_restore 110 = .ok (.iconst 0, 1) := by decide +kernel
theorem dX5_restore_111 : decode cX5_restore 111 = .ok (.istore 7, 2) := by decide +kernel
theorem dX5_restore_113 : decode cX5_restore 113 = .ok (.iload 7, 2) := by decide +kernel
theorem dX5_restore_115 : decode cX5_restore 115 = .ok (.aload_n 0, 1) := by decide +kernel
theorem dX5_restore_116 : decode cX5_restore 116 = .ok (.getfield 84, 3) := by decide +kernel
theorem dX5_restore_119 : decode cX5_restore 119 = .ok (.arraylength, 1) := by decide +kernel
theorem dX5_restore_120 : decode cX5_restore 120 = .ok (.if_icmp .ge 20, 3) := by decide +kernel
theorem dX5_restore_123 : decode cX5_restore 123 = .ok (.aload_n 0, 1) := by decide +kernel
theorem dX5_restore_124 : decode cX5_restore 124 = .ok (.getfield 84, 3) := by decide +kernel
theorem dX5_restore_127 : decode cX5_restore 127 = .ok (.iload 7, 2) := by decide +kernel
theorem dX5_restore_129 : decode cX5_restore 129 = .ok (.aaload, 1) := by decide +kernel
theorem dX5_restore_130 : decode cX5_restore 130 = .ok (.iconst 0, 1) := by decide +kernel
theorem dX5_restore_131 : decode cX5_restore 131 = .ok (.putfield 150, 3) := by decide +kernel
theorem dX5_restore_134 : decode cX5_restore 134 = .ok (.iinc 7 1, 3) := by decide +kernel
theorem dX5_restore_137 : decode cX5_restore 137 = .ok (.goto (-24), 3) := by decide +kernel
theorem dX5_restore_140 : decode cX5_restore 140 = .ok (.aload_n 0, 1) := by decide +kernel
theorem dX5_restore_141 : decode cX5_restore 141 = .ok (.aload 6, 2) := by decide +kernel
theorem dX5_restore_143 : decode cX5_restore 143 = .ok (.invokevirtual 153, 3) := by decide +kernel
theorem dX5_restore_146 : decode cX5_restore 146 = .ok (.ireturn, 1) := by decide +kernel
theorem dX5_about_0 : decode cX5_about 0 = .ok (.iload_n 1, 1) := by decide +kernel
theorem dX5_about_1 : decode cX5_about 1 = .ok (.bipush 10, 2) := by decide +kernel
theorem dX5_about_3 : decode cX5_about 3 = .ok (.if_icmp .lt 28, 3) := by decide +kernel
theorem dX5_about_6 : decode cX5_about 6 = .ok (.aload_n 0, 1) := by decide +kernel
theorem dX5_about_7 : decode cX5_about 7 = .ok (.iload_n 1, 1) := by decide +kernel
theorem dX5_about_8 : decode cX5_about 8 = .ok (.bipush 10, 2) := by decide +kernel
theorem dX5_about_10 : decode cX5_about 10 = .ok (.isub, 1) := by decide +kernel
theorem dX5_about_11 : decode cX5_about 11 = .ok (.invokevirtual 89, 3) := by decide +kernel
theorem dX5_about_14 : decode cX5_about 14 = .ok (.ifCond .eq 14, 3) := by decide +kernel
theorem dX5_about_17 : decode cX5_about 17 = .ok (.aload_n 0, 1) := by decide +kernel
theorem dX5_about_18 : decode cX5_about 18 = .ok (.iload_n 1, 1) := by decide +kernel
theorem dX5_about_19 : decode cX5_about 19 = .ok (.bipush 10, 2) := by decide +kernel
theorem dX5_about_21 : decode cX5_about 21 = .ok (.isub, 1) := by decide +kernel
theorem dX5_about_22 : decode cX5_about 22 = .ok (.invokevirtual 110, 3) := by decide +kernel
theorem dX5_about_25 : decode cX5_about 25 = .ok (.goto 5, 3) := by decide +kernel
theorem dX5_about_28 : decode cX5_about 28 = .ok (.bipush (-102), 2) := by decide +kernel
theorem dX5_about_30 : decode cX5_about 30 = .ok (.ireturn, 1) := by decide +kernel
theorem dX5_about_31 : decode cX5_about 31 = .ok (.iload_n 1, 1) := by decide +kernel
theorem dX5_about_32 : decode cX5_about 32 = .ok (.tableswitch 109 0 9 #[56, 61, 69, 74, 79, 84, 89, 94, 99, 104], 56) := by decide +kernel
theorem dX5_about_88 : decode cX5_about 88 = .ok (.aload_n 0, 1) := by decide +kernel
theorem dX5_about_89 : decode cX5_about 89 = .ok (.getfield 64, 3) := by decide +kernel
theorem dX5_about_92 : decode cX5_about 92 = .ok (.ireturn, 1) := by decide +kernel
theorem dX5_about_93 : decode cX5_about 93 = .ok (.aload_n 0, 1) := by decide +kernel
theorem dX5_about_94 : decode cX5_about 94 = .ok (.getfield 16, 3) := by decide +kernel
theorem dX5_about_97 : decode cX5_about 97 = .ok (.getfield 157, 3) := by decide +kernel
theorem dX5_about_100 : decode cX5_about 100 = .ok (.ireturn, 1) := by decide +kernel
theorem dX5_about_101 : decode cX5_about 101 = .ok (.aload_n 0, 1) := by decide +kernel
theorem dX5_about_102 : decode cX5_about 102 = .ok (.invokevirtual 160, 3) := by decide +kernel
theorem dX5_about_105 : decode cX5_about 105 = .ok (.ireturn, 1) := by decide +kernel
theorem dX5_about_106 : decode cX5_about 106 = .ok (.aload_n 0, 1) := by decide +kernel
theorem dX5_about_107 : decode cX5_about 107 = .ok (.getfield 43, 3) := by decide +kernel
theorem dX5_about_110 : decode cX5_about 110 = .ok (.ireturn, 1) := by decide +kernel
theorem dX5_about_111 : decode cX5_about 111 = .ok (.aload_n 0, 1) := by decide +kernel
theorem dX5_about_112 : decode cX5_about 112 = .ok (.getfield 36, 3) := by decide +kernel
theorem dX5_about_115 : decode cX5_about 115 = .ok (.ireturn, 1) := by decide +kernel
theorem dX5_about_116 : decode cX5_about 116 = .ok (.aload_n 0, 1) := by decide +kernel
theorem dX5_about_117 : decode cX5_about 117 = .ok (.getfield 40, 3) := by decide +kernel
theorem dX5_about_120 : decode cX5_about 120 = .ok (.ireturn, 1) := by decide +kernel
theorem dX5_about_121 : decode cX5_about 121 = .ok (.aload_n 0, 1) := by decide +kernel
theorem dX5_about_122 : decode cX5_about 122 = .ok (.invokevirtual 164, 3) := by decide +kernel
theorem dX5_about_125 : decode cX5_about 125 = .ok (.ireturn, 1) := by decide +kernel
theorem dX5_about_126 : decode cX5_about 126 = .ok (.aload_n 0, 1) := by decide +kernel
theorem dX5_about_127 : decode cX5_about 127 = .ok (.getfield 46, 3) := by decide +kernel
theorem dX5_about_130 : decode cX5_about 130 = .ok (.ireturn, 1) := by decide +kernel
theorem dX5_about_131 : decode cX5_about 131 = .ok (.aload_n 0, 1) := by decide +kernel
theorem dX5_about_132 : decode cX5_about 132 = .ok (.getfield 49, 3) := by decide +kernel
theorem dX5_about_135 : decode cX5_about 135 = .ok (.ireturn, 1) := by decide +kernel
theorem dX5_about_136 : decode cX5_about 136 = .ok (.aload_n 0, 1) := by decide +kernel
theorem dX5_about_137 : decode cX5_about 137 = .ok (.getfield 52, 3) := by decide +kernel
theorem dX5_about_140 : decode cX5_about 140 = .ok (.ireturn, 1) := by decide +kernel
theorem dX5_about_141 : decode cX5_about 141 = .ok (.bipush (-102), 2) := by decide +kernel
theorem dX5_about_143 : decode cX5_about 143 = .ok (.ireturn, 1) := by decide +kernel
theorem dX5_many_0 : decode cX5_many 0 = .ok (.aload_n 0, 1) := by decide +kernel
theorem dX5_many_1 : decode cX5_many 1 = .ok (.iload_n 1, 1) := by decide +kernel
theorem dX5_many_2 : decode cX5_many 2 = .ok (.invokevirtual 89, 3) := by decide +kernel
theorem dX5_many_5 : decode cX5_many 5 = .ok (.ifCond .ne 6, 3) := by decide +kernel
theorem dX5_many_8 : decode cX5_many 8 = .ok (.bipush (-101), 2) := by decide +kernel
theorem dX5_many_10 : decode cX5_many 10 = .ok (.ireturn, 1) := by decide +kernel
theorem dX5_many_11 : decode cX5_many 11 = .ok (.iload_n 2, 1) := by decide +kernel
theorem dX5_many_12 : decode cX5_many 12 = .ok (.invokestatic 96, 3) := by decide +kernel
theorem dX5_many_15 : decode cX5_many 15 = .ok (.ifCond .eq 15, 3) := by decide +kernel
theorem dX5_many_18 : decode cX5_many 18 = .ok (.aload_n 0, 1) := by decide +kernel
theorem dX5_many_19 : decode cX5_many 19 = .ok (.getfield 23, 3) := by decide +kernel
theorem dX5_many_22 : decode cX5_many 22 = .ok (.iload_n 1, 1) := by decide +kernel
theorem dX5_many_23 : decode cX5_many 23 = .ok (.iload_n 2, 1) := by decide +kernel
theorem dX5_many_24 : decode cX5_many 24 = .ok (.invokevirtual 167, 3) := by decide +kernel
theorem dX5_many_27 : decode cX5_many 27 = .ok (.goto 5, 3) := by decide +kernel
theorem dX5_many_30 : decode cX5_many 30 = .ok (.bipush (-102), 2) := by decide +kernel
theorem dX5_many_32 : decode cX5_many 32 = .ok (.ireturn, 1) := by decide +kernel
theorem dX5_sum_0 : decode cX5_sum 0 = .ok (.aload_n 0, 1) := by decide +kernel
theorem dX5_sum_1 : decode cX5_sum 1 = .ok (.iload_n 1, 1) := by decide +kernel
theorem dX5_sum_2 : decode cX5_sum 2 = .ok (.invokevirtual 89, 3) := by decide +kernel
theorem dX5_sum_5 : decode cX5_sum 5 = .ok (.ifCond .eq 22, 3) := by decide +kernel
theorem dX5_sum_8 : decode cX5_sum 8 = .ok (.iload_n 2, 1) := by decide +kernel
theorem dX5_sum_9 : decode cX5_sum 9 = .ok (.invokestatic 96, 3) := by decide +kernel
theorem dX5_sum_12 : decode cX5_sum 12 = .ok (.ifCond .eq 15, 3) := by decide +kernel
theorem dX5_sum_15 : decode cX5_sum 15 = .ok (.aload_n 0, 1) := by decide +kernel
theorem dX5_sum_16 : decode cX5_sum 16 = .ok (.getfield 23, 3) := by decide +kernel
theorem dX5_sum_19 : decode cX5_sum 19 = .ok (.iload_n 1, 1) := by decide +kernel
theorem dX5_sum_20 : decode cX5_sum 20 = .ok (.iload_n 2, 1) := by decide +kernel
theorem dX5_sum_21 : decode cX5_sum 21 = .ok (.invokevirtual 170, 3) := by decide +kernel
theorem dX5_sum_24 : decode cX5_sum 24 = .ok (.goto 4, 3) := by decide +kernel
theorem dX5_sum_27 : decode cX5_sum 27 = .ok (.lconst 0, 1) := by decide +kernel
theorem dX5_sum_28 : decode cX5_sum 28 = .ok (.lreturn, 1) := by decide +kernel
theorem dX5_task_0 : decode cX5_task 0 = .ok (.aload_n 0, 1) := by decide +kernel
theorem dX5_task_1 : decode cX5_task 1 = .ok (.iload_n 1, 1) := by decide +kernel
theorem dX5_task_2 : decode cX5_task 2 = .ok (.iload_n 2, 1) := by decide +kernel
theorem dX5_task_3 : decode cX5_task 3 = .ok (.invokevirtual 103, 3) := by decide +kernel
theorem dX5_task_6 : decode cX5_task 6 = .ok (.astore 4, 2) := by decide +kernel
theorem dX5_task_8 : decode cX5_task 8 = .ok (.aload 4, 2) := by decide +kernel
theorem dX5_task_10 : decode cX5_task 10 = .ok (.ifnonnull 6, 3) := by decide +kernel
theorem dX5_task_13 : decode cX5_task 13 = .ok (.bipush (-101), 2) := by decide +kernel
theorem dX5_task_15 : decode cX5_task 15 = .ok (.ireturn, 1) := by decide +kernel
theorem dX5_task_16 : decode cX5_task 16 = .ok (.iload_n 3, 1) := by decide +kernel
theorem dX5_task_17 : decode cX5_task 17 = .ok (.tableswitch 79 0 3 #[31, 45, 59, 65], 31) := by decide +kernel
theorem dX5_task_48 : decode cX5_task 48 = .ok (.aload 4, 2) := by decide +kernel
theorem dX5_task_50 : decode cX5_task 50 = .ok (.getfield 174, 3) := by decide +kernel
theorem dX5_task_53 : decode cX5_task 53 = .ok (.ifCond .eq 7, 3) := by decide +kernel
theorem dX5_task_56 : decode cX5_task 56 = .ok (.iconst 1, 1) := by decide +kernel
theorem dX5_task_57 : decode cX5_task 57 = .ok (.goto 4, 3) := by decide +kernel
theorem dX5_task_60 : decode cX5_task 60 = .ok (.iconst 0, 1) := by decide +kernel
theorem dX5_task_61 : decode cX5_task 61 = .ok (.ireturn, 1) := by decide +kernel
theorem dX5_task_62 : decode cX5_task 62 = .ok (.aload 4, 2) := by decide +kernel
theorem dX5_task_64 : decode cX5_task 64 = .ok (.invokevirtual 178, 3) := by decide +kernel
theorem dX5_task_67 : decode cX5_task 67 = .ok (.ifCond .eq 7, 3) := by decide +kernel
theorem dX5_task_70 : decode cX5_task 70 = .ok (.iconst 1, 1) := by decide +kernel
theorem dX5_task_71 : decode cX5_task 71 = .ok (.goto 4, 3) := by decide +kernel
theorem dX5_task_74 : decode cX5_task 74 = .ok (.iconst 0, 1) := by decide +kernel
theorem dX5_task_75 : decode cX5_task 75 = .ok (.ireturn, 1) := by decide +kernel
theorem dX5_task_76 : decode cX5_task 76 = .ok (.aload 4, 2) := by decide +kernel
theorem dX5_task_78 : decode cX5_task 78 = .ok (.getfield 182, 3) := by decide +kernel
theorem dX5_task_81 : decode cX5_task 81 = .ok (.ireturn, 1) := by decide +kernel
theorem dX5_task_82 : decode cX5_task 82 = .ok (.iload_n 1, 1) := by decide +kernel
theorem dX5_task_83 : decode cX5_task 83 = .ok (.ifCond .ne 7, 3) := by decide +kernel
theorem dX5_task_86 : decode cX5_task 86 = .ok (.iconst (-1), 1) := by decide +kernel
theorem dX5_task_87 : decode cX5_task 87 = .ok (.goto 8, 3) := by decide +kernel
theorem dX5_task_90 : decode cX5_task 90 = .ok (.aload 4, 2) := by decide +kernel
theorem dX5_task_92 : decode cX5_task 92 = .ok (.getfield 150, 3) := by decide +kernel
theorem dX5_task_95 : decode cX5_task 95 = .ok (.ireturn, 1) := by decide +kernel
theorem dX5_task_96 : decode cX5_task 96 = .ok (.bipush (-102), 2) := by decide +kernel
theorem dX5_task_98 : decode cX5_task 98 = .ok (.ireturn, 1) := by decide +kernel
theorem dX5_channel_0 : decode cX5_channel 0 = .ok (.aload_n 0, 1) := by decide +kernel
theorem dX5_channel_1 : decode cX5_channel 1 = .ok (.iload_n 1, 1) := by decide +kernel
theorem dX5_channel_2 : decode cX5_channel 2 = .ok (.iload_n 2, 1) := by decide +kernel
theorem dX5_channel_3 : decode cX5_channel 3 = .ok (.iload_n 3, 1) := by decide +kernel
theorem dX5_channel_4 : decode cX5_channel 4 = .ok (.invokevirtual 185, 3) := by decide +kernel
theorem dX5_channel_7 : decode cX5_channel 7 = .ok (.astore 5, 2) := by decide +kernel
theorem dX5_channel_9 : decode cX5_channel 9 = .ok (.aload 5, 2) := by decide +kernel
theorem dX5_channel_11 : decode cX5_channel 11 = .ok (.ifnonnull 6, 3) := by decide +kernel
theorem dX5_channel_14 : decode cX5_channel 14 = .ok (.bipush (-101), 2) := by decide +kernel
theorem dX5_channel_16 : decode cX5_channel 16 = .ok (.ireturn, 1) := by decide +kernel
theorem dX5_channel_17 : decode cX5_channel 17 = .ok (.iload 4, 2) := by decide +kernel
theorem dX5_channel_19 : decode cX5_channel 19 = .ok (.tableswitch 77 0 3 #[29, 35, 41, 55], 29) := by decide +kernel
theorem dX5_channel_48 : decode cX5_channel 48 = .ok (.aload 5, 2) := by decide +kernel
theorem dX5_channel_50 : decode cX5_channel 50 = .ok (.getfield 189, 3) := by decide +kernel
theorem dX5_channel_53 : decode cX5_channel 53 = .ok (.ireturn, 1) := by decide +kernel
theorem dX5_channel_54 : decode cX5_channel 54 = .ok (.aload 5, 2) := by decide +kernel
theorem dX5_channel_56 : decode cX5_channel 56 = .ok (.getfield 192, 3) := by decide +kernel
theorem dX5_channel_59 : decode cX5_channel 59 = .ok (.ireturn, 1) := by decide +kernel
theorem dX5_channel_60 : decode cX5_channel 60 = .ok (.aload 5, 2) := by decide +kernel
theorem dX5_channel_62 : decode cX5_channel 62 = .ok (.getfield 195, 3) := by decide +kernel
theorem dX5_channel_65 : decode cX5_channel 65 = .ok (.ifCond .eq 7, 3) := by decide +kernel
theorem dX5_channel_68 : decode cX5_channel 68 = .ok (.iconst 1, 1) := by decide +kernel
theorem dX5_channel_69 : decode cX5_channel 69 = .ok (.goto 4, 3) := by decide +kernel
theorem dX5_channel_72 : decode cX5_channel 72 = .ok (.iconst 0, 1) := by decide +kernel
theorem dX5_channel_73 : decode cX5_channel 73 = .ok (.ireturn, 1) := by decide +kernel
theorem dX5_channel_74 : decode cX5_channel 74 = .ok (.aload 5, 2) := by decide +kernel
theorem dX5_channel_76 : decode cX5_channel 76 = .ok (.aload_n 0, 1) := by decide +kernel
theorem dX5_channel_77 : decode cX5_channel 77 = .ok (.iload_n 1, 1) := by decide +kernel
theorem dX5_channel_78 : decode cX5_channel 78 = .ok (.iconst 1, 1) := by decide +kernel
theorem dX5_channel_79 : decode cX5_channel 79 = .ok (.iadd, 1) := by decide +kernel
theorem dX5_channel_80 : decode cX5_channel 80 = .ok (.iload_n 3, 1) := by decide +kernel
theorem dX5_channel_81 : decode cX5_channel 81 = .ok (.invokevirtual 103, 3) := by decide +kernel
theorem dX5_channel_84 : decode cX5_channel 84 = .ok (.invokestatic 197, 3) := by decide +kernel
theorem dX5_channel_87 : decode cX5_channel 87 = .ok (.ifCond .eq 7, 3) := by decide +kernel
theorem dX5_channel_90 : decode cX5_channel 90 = .ok (.iconst 1, 1) := by decide +kernel
theorem dX5_channel_91 : decode cX5_channel 91 = .ok (.goto 4, 3) := by decide +kernel
theorem dX5_channel_94 : decode cX5_channel 94 = .ok (.iconst 0, 1) := by decide +kernel
theorem dX5_channel_95 : decode cX5_channel 95 = .ok (.ireturn, 1) := by decide +kernel
theorem dX5_channel_96 : decode cX5_channel 96 = .ok (.bipush (-102), 2) := by decide +kernel
theorem dX5_channel_98 : decode cX5_channel 98 = .ok (.ireturn, 1) := by decide +kernel
theorem dX5_key_0 : decode cX5_key 0 = .ok (.aload_n 0, 1) := by decide +kernel
theorem dX5_key_1 : decode cX5_key 1 = .ok (.iload_n 1, 1) := by decide +kernel
theorem dX5_key_2 : decode cX5_key 2 = .ok (.iload_n 2, 1) := by decide +kernel
theorem dX5_key_3 : decode cX5_key 3 = .ok (.iload_n 3, 1) := by decide +kernel
theorem dX5_key_4 : decode cX5_key 4 = .ok (.invokevirtual 185, 3) := by decide +kernel
theorem dX5_key_7 : decode cX5_key 7 = .ok (.astore 5, 2) := by decide +kernel
theorem dX5_key_9 : decode cX5_key 9 = .ok (.aload 5, 2) := by decide +kernel
theorem dX5_key_11 : decode cX5_key 11 = .ok (.ifnonnull 8, 3) := by decide +kernel
theorem dX5_key_14 : decode cX5_key 14 = .ok (.bipush (-101), 2) := by decide +kernel
theorem dX5_key_16 : decode cX5_key 16 = .ok (.goto 17, 3) := by decide +kernel
theorem dX5_key_19 : decode cX5_key 19 = .ok (.aload_n 0, 1) := by decide +kernel
theorem dX5_key_20 : decode cX5_key 20 = .ok (.getfield 16, 3) := by decide +kernel
theorem dX5_key_23 : decode cX5_key 23 = .ok (.aload 5, 2) := by decide +kernel
theorem dX5_key_25 : decode cX5_key 25 = .ok (.iload 4, 2) := by decide +kernel
theorem dX5_key_27 : decode cX5_key 27 = .ok (.invokevirtual 201, 3) := by decide +kernel
theorem dX5_key_30 : decode cX5_key 30 = .ok (.invokevirtual 204, 3) := by decide +kernel
theorem dX5_key_33 : decode cX5_key 33 = .ok (.ireturn, 1) := by decide +kernel
theorem dX5_value_0 : decode cX5_value 0 = .ok (.aload_n 0, 1) := by decide +kernel
theorem dX5_value_1 : decode cX5_value 1 = .ok (.iload_n 1, 1) := by decide +kernel
theorem dX5_value_2 : decode cX5_value 2 = .ok (.iload_n 2, 1) := by decide +kernel
theorem dX5_value_3 : decode cX5_value 3 = .ok (.iload_n 3, 1) := by decide +kernel
theorem dX5_value_4 : decode cX5_value 4 = .ok (.invokevirtual 185, 3) := by decide +kernel
theorem dX5_value_7 : decode cX5_value 7 = .ok (.astore 5, 2) := by decide +kernel
theorem dX5_value_9 : decode cX5_value 9 = .ok (.aload 5, 2) := by decide +kernel
theorem dX5_value_11 : decode cX5_value 11 = .ok (.ifnonnull 7, 3) := by decide +kernel
theorem dX5_value_14 : decode cX5_value 14 = .ok (.lconst 0, 1) := by decide +kernel
theorem dX5_value_15 : decode cX5_value 15 = .ok (.goto 17, 3) := by decide +kernel
theorem dX5_value_18 : decode cX5_value 18 = .ok (.aload_n 0, 1) := by decide +kernel
theorem dX5_value_19 : decode cX5_value 19 = .ok (.getfield 16, 3) := by decide +kernel
theorem dX5_value_22 : decode cX5_value 22 = .ok (.aload 5, 2) := by decide +kernel
theorem dX5_value_24 : decode cX5_value 24 = .ok (.iload 4, 2) := by decide +kernel
theorem dX5_value_26 : decode cX5_value 26 = .ok (.invokevirtual 201, 3) := by decide +kernel
theorem dX5_value_29 : decode cX5_value 29 = .ok (.invokevirtual 207, 3) := by decide +kernel
theorem dX5_value_32 : decode cX5_value 32 = .ok (.lreturn, 1) := by decide +kernel
theorem dX5_marked_0 : decode cX5_marked 0 = .ok (.aload_n 0, 1) := by decide +kernel
theorem dX5_marked_1 : decode cX5_marked 1 = .ok (.iload_n 1, 1) := by decide +kernel
theorem dX5_marked_2 : decode cX5_marked 2 = .ok (.invokevirtual 124, 3) := by decide +kernel
theorem dX5_marked_5 : decode cX5_marked 5 = .ok (.astore_n 3, 1) := by decide +kernel
theorem dX5_marked_6 : decode cX5_marked 6 = .ok (.aload_n 3, 1) := by decide +kernel
theorem dX5_marked_7 : decode cX5_marked 7 = .ok (.ifnonnull 6, 3) := by decide +kernel
theorem dX5_marked_10 : decode cX5_marked 10 = .ok (.bipush (-101), 2) := by decide +kernel
theorem dX5_marked_12 : decode cX5_marked 12 = .ok (.ireturn, 1) := by decide +kernel
theorem dX5_marked_13 : decode cX5_marked 13 = .ok (.iload_n 2, 1) := by decide +kernel
theorem dX5_marked_14 : decode cX5_marked 14 = .ok (.bipush 10, 2) := by decide +kernel
theorem dX5_marked_16 : decode cX5_marked 16 = .ok (.if_icmp .lt 30, 3) := by decide +kernel
theorem dX5_marked_19 : decode cX5_marked 19 = .ok (.iload_n 2, 1) := by decide +kernel
theorem dX5_marked_20 : decode cX5_marked 20 = .ok (.bipush 10, 2) := by decide +kernel
theorem dX5_marked_22 : decode cX5_marked 22 = .ok (.isub, 1) := by decide +kernel
theorem dX5_marked_23 : decode cX5_marked 23 = .ok (.istore 4, 2) := by decide +kernel
theorem dX5_marked_25 : decode cX5_marked 25 = .ok (.aload_n 0, 1) := by decide +kernel
theorem dX5_marked_26 : decode cX5_marked 26 = .ok (.iload 4, 2) := by decide +kernel
theorem dX5_marked_28 : decode cX5_marked 28 = .ok (.invokevirtual 89, 3) := by decide +kernel
theorem dX5_marked_31 : decode cX5_marked 31 = .ok (.ifCond .eq 12, 3) := by decide +kernel
theorem dX5_marked_34 : decode cX5_marked 34 = .ok (.aload_n 3, 1) := by decide +kernel
theorem dX5_marked_35 : decode cX5_marked 35 = .ok (.iload 4, 2) := by decide +kernel
theorem dX5_marked_37 : decode cX5_marked 37 = .ok (.invokevirtual 211, 3) := by decide +kernel
theorem dX5_marked_40 : decode cX5_marked 40 = .ok (.goto 5, 3) := by decide +kernel
theorem dX5_marked_43 : decode cX5_marked 43 = .ok (.bipush (-102), 2) := by decide +kernel
theorem dX5_marked_45 : decode cX5_marked 45 = .ok (.ireturn, 1) := by decide +kernel
theorem dX5_marked_46 : decode cX5_marked 46 = .ok (.iload_n 2, 1) := by decide +kernel
theorem dX5_marked_47 : decode cX5_marked 47 = .ok (.tableswitch 68 0 3 #[29, 34, 39, 44], 29) := by decide +kernel
theorem dX5_marked_76 : decode cX5_marked 76 = .ok (.aload_n 3, 1) := by decide +kernel
theorem dX5_marked_77 : decode cX5_marked 77 = .ok (.getfield 132, 3) := by decide +kernel
theorem dX5_marked_80 : decode cX5_marked 80 = .ok (.ireturn, 1) := by decide +kernel
theorem dX5_marked_81 : decode cX5_marked 81 = .ok (.aload_n 3, 1) := by decide +kernel
theorem dX5_marked_82 : decode cX5_marked 82 = .ok (.getfield 212, 3) := by decide +kernel
theorem dX5_marked_85 : decode cX5_marked 85 = .ok (.ireturn, 1) := by decide +kernel
theorem dX5_marked_86 : decode cX5_marked 86 = .ok (.aload_n 3, 1) := by decide +kernel
theorem dX5_marked_87 : decode cX5_marked 87 = .ok (.getfield 215, 3) := by decide +kernel
theorem dX5_marked_90 : decode cX5_marked 90 = .ok (.ireturn, 1) := by decide +kernel
theorem dX5_marked_91 : decode cX5_marked 91 = .ok (.aload_n 3, 1) := by decide +kernel
theorem dX5_marked_92 : decode cX5_marked 92 = .ok (.getfield 132, 3) := by decide +kernel
theorem dX5_marked_95 : decode cX5_marked 95 = .ok (.ifCond .ne 10, 3) := by decide +kernel
theorem dX5_marked_98 : decode cX5_marked 98 = .ok (.aload_n 0, 1) := by decide +kernel
theorem dX5_marked_99 : decode cX5_marked 99 = .ok (.getfield 43, 3) := by decide +kernel
theorem dX5_marked_102 : decode cX5_marked 102 = .ok (.goto 7, 3) := by decide +kernel
theorem dX5_marked_105 : decode cX5_marked 105 = .ok (.aload_n 3, 1) := by decide +kernel
theorem dX5_marked_106 : decode cX5_marked 106 = .ok (.getfield 218, 3) := by decide +kernel
theorem dX5_marked_109 : decode cX5_marked 109 = .ok (.aload_n 3, 1) := by decide +kernel
theorem dX5_marked_110 : decode cX5_marked 110 = .ok (.getfield 221, 3) := by decide +kernel
theorem dX5_marked_113 : decode cX5_marked 113 = .ok (.isub, 1) := by decide +kernel
theorem dX5_marked_114 : decode cX5_marked 114 = .ok (.ireturn, 1) := by decide +kernel
theorem dX5_marked_115 : decode cX5_marked 115 = .ok (.bipush (-102), 2) := by decide +kernel
theorem dX5_marked_117 : decode cX5_marked 117 = .ok (.ireturn, 1) := by decide +kernel
theorem dX5_keptMany_0 : decode cX5_keptMany 0 = .ok (.aload_n 0, 1) := by decide +kernel
theorem dX5_keptMany_1 : decode cX5_keptMany 1 = .ok (.iload_n 1, 1) := by decide +kernel
theorem dX5_keptMany_2 : decode cX5_keptMany 2 = .ok (.invokevirtual 124, 3) := by decide +kernel
theorem dX5_keptMany_5 : decode cX5_keptMany 5 = .ok (.astore 4, 2) := by decide +kernel
theorem dX5_keptMany_7 : decode cX5_keptMany 7 = .ok (.aload 4, 2) := by decide +kernel
theorem dX5_keptMany_9 : decode cX5_keptMany 9 = .ok (.ifnull 11, 3) := by decide +kernel
theorem dX5_keptMany_12 : decode cX5_keptMany 12 = .ok (.aload_n 0, 1) := by decide +kernel
theorem dX5_keptMany_13 : decode cX5_keptMany 13 = .ok (.iload_n 2, 1) := by decide +kernel
theorem dX5_keptMany_14 : decode cX5_keptMany 14 = .ok (.invokevirtual 89, 3) := by decide +kernel
theorem dX5_keptMany_17 : decode cX5_keptMany 17 = .ok (.ifCond .ne 6, 3) := by decide +kernel
theorem dX5_keptMany_20 : decode cX5_keptMany 20 = .ok (.bipush (-101), 2) := by decide +kernel
theorem dX5_keptMany_22 : decode cX5_keptMany 22 = .ok (.ireturn, 1) := by decide +kernel
theorem dX5_keptMany_23 : decode cX5_keptMany 23 = .ok (.iload_n 3, 1) := by decide +kernel
theorem dX5_keptMany_24 : decode cX5_keptMany 24 = .ok (.invokestatic 96, 3) := by decide +kernel
theorem dX5_keptMany_27 : decode cX5_keptMany 27 = .ok (.ifCond .eq 16, 3) := by decide +kernel
theorem dX5_keptMany_30 : decode cX5_keptMany 30 = .ok (.aload 4, 2) := by decide +kernel
theorem dX5_keptMany_32 : decode cX5_keptMany 32 = .ok (.getfield 139, 3) := by decide +kernel
theorem dX5_keptMany_35 : decode cX5_keptMany 35 = .ok (.iload_n 2, 1) := by decide +kernel
theorem dX5_keptMany_36 : decode cX5_keptMany 36 = .ok (.iload_n 3, 1) := by decide +kernel
theorem dX5_keptMany_37 : decode cX5_keptMany 37 = .ok (.invokevirtual 167, 3) := by decide +kernel
theorem dX5_keptMany_40 : decode cX5_keptMany 40 = .ok (.goto 5, 3) := by decide +kernel
theorem dX5_keptMany_43 : decode cX5_keptMany 43 = .ok (.bipush (-102), 2) := by decide +kernel
theorem dX5_keptMany_45 : decode cX5_keptMany 45 = .ok (.ireturn, 1) := by decide +kernel
theorem dX5_keptSum_0 : decode cX5_keptSum 0 = .ok (.aload_n 0, 1) := by decide +kernel
theorem dX5_keptSum_1 : decode cX5_keptSum 1 = .ok (.iload_n 1, 1) := by decide +kernel
theorem dX5_keptSum_2 : decode cX5_keptSum 2 = .ok (.invokevirtual 124, 3) := by decide +kernel
theorem dX5_keptSum_5 : decode cX5_keptSum 5 = .ok (.astore 4, 2) := by decide +kernel
theorem dX5_keptSum_7 : decode cX5_keptSum 7 = .ok (.aload 4, 2) := by decide +kernel
theorem dX5_keptSum_9 : decode cX5_keptSum 9 = .ok (.ifnull 18, 3) := by decide +kernel
theorem dX5_keptSum_12 : decode cX5_keptSum 12 = .ok (.aload_n 0, 1) := by decide +kernel
theorem dX5_keptSum_13 : decode cX5_keptSum 13 = .ok (.iload_n 2, 1) := by decide +kernel
theorem dX5_keptSum_14 : decode cX5_keptSum 14 = .ok (.invokevirtual 89, 3) := by decide +kernel
theorem dX5_keptSum_17 : decode cX5_keptSum 17 = .ok (.ifCond .eq 10, 3) := by decide +kernel
theorem dX5_keptSum_20 : decode cX5_keptSum 20 = .ok (.iload_n 3, 1) := by decide +kernel
theorem dX5_keptSum_21 : decode cX5_keptSum 21 = .ok (.invokestatic 96, 3) := by decide +kernel
theorem dX5_keptSum_24 : decode cX5_keptSum 24 = .ok (.ifCond .ne 5, 3) := by decide +kernel
theorem dX5_keptSum_27 : decode cX5_keptSum 27 = .ok (.lconst 0, 1) := by decide +kernel
theorem dX5_keptSum_28 : decode cX5_keptSum 28 = .ok (.lreturn, 1) := by decide +kernel
theorem dX5_keptSum_29 : decode cX5_keptSum 29 = .ok (.aload 4, 2) := by decide +kernel
theorem dX5_keptSum_31 : decode cX5_keptSum 31 = .ok (.getfield 139, 3) := by decide +kernel
theorem dX5_keptSum_34 : decode cX5_keptSum 34 = .ok (.iload_n 2, 1) := by decide +kernel
theorem dX5_keptSum_35 : decode cX5_keptSum 35 = .ok (.iload_n 3, 1) := by decide +kernel
theorem dX5_keptSum_36 : decode cX5_keptSum 36 = .ok (.invokevirtual 170, 3) := by decide +kernel
theorem dX5_keptSum_39 : decode cX5_keptSum 39 = .ok (.lreturn, 1) := by decide +kernel
theorem dX5_kept_0 : decode cX5_kept 0 = .ok (.aload_n 0, 1) := by decide +kernel
theorem dX5_kept_1 : decode cX5_kept 1 = .ok (.iload_n 1, 1) := by decide +kernel
theorem dX5_kept_2 : decode cX5_kept 2 = .ok (.invokevirtual 124, 3) := by decide +kernel
theorem dX5_kept_5 : decode cX5_kept 5 = .ok (.astore 5, 2) := by decide +kernel
theorem dX5_kept_7 : decode cX5_kept 7 = .ok (.aload_n 0, 1) := by decide +kernel
theorem dX5_kept_8 : decode cX5_kept 8 = .ok (.aload 5, 2) := by decide +kernel
theorem dX5_kept_10 : decode cX5_kept 10 = .ok (.iload_n 2, 1) := by decide +kernel
theorem dX5_kept_11 : decode cX5_kept 11 = .ok (.iload_n 3, 1) := by decide +kernel
theorem dX5_kept_12 : decode cX5_kept 12 = .ok (.iload 4, 2) := by decide +kernel
theorem dX5_kept_14 : decode cX5_kept 14 = .ok (.invokevirtual 224, 3) := by decide +kernel
theorem dX5_kept_17 : decode cX5_kept 17 = .ok (.istore 6, 2) := by decide +kernel
theorem dX5_kept_19 : decode cX5_kept 19 = .ok (.aload 5, 2) := by decide +kernel
theorem dX5_kept_21 : decode cX5_kept 21 = .ok (.ifnull 9, 3) := by decide +kernel
theorem dX5_kept_24 : decode cX5_kept 24 = .ok (.iload 6, 2) := by decide +kernel
theorem dX5_kept_26 : decode cX5_kept 26 = .ok (.iconst (-1), 1) := by decide +kernel
theorem dX5_kept_27 : decode cX5_kept 27 = .ok (.if_icmp .ne 8, 3) := by decide +kernel
theorem dX5_kept_30 : decode cX5_kept 30 = .ok (.bipush (-101), 2) := by decide +kernel
theorem dX5_kept_32 : decode cX5_kept 32 = .ok (.goto 10, 3) := by decide +kernel
theorem dX5_kept_35 : decode cX5_kept 35 = .ok (.aload 5, 2) := by decide +kernel
theorem dX5_kept_37 : decode cX5_kept 37 = .ok (.iload 6, 2) := by decide +kernel
theorem dX5_kept_39 : decode cX5_kept 39 = .ok (.invokevirtual 228, 3) := by decide +kernel
theorem dX5_kept_42 : decode cX5_kept 42 = .ok (.ireturn, 1) := by decide +kernel
theorem dX5_keptKey_0 : decode cX5_keptKey 0 = .ok (.aload_n 0, 1) := by decide +kernel
theorem dX5_keptKey_1 : decode cX5_keptKey 1 = .ok (.iload_n 1, 1) := by decide +kernel
theorem dX5_keptKey_2 : decode cX5_keptKey 2 = .ok (.invokevirtual 124, 3) := by decide +kernel
theorem dX5_keptKey_5 : decode cX5_keptKey 5 = .ok (.astore 6, 2) := by decide +kernel
theorem dX5_keptKey_7 : decode cX5_keptKey 7 = .ok (.aload_n 0, 1) := by decide +kernel
theorem dX5_keptKey_8 : decode cX5_keptKey 8 = .ok (.aload 6, 2) := by decide +kernel
theorem dX5_keptKey_10 : decode cX5_keptKey 10 = .ok (.iload_n 2, 1) := by decide +kernel
theorem dX5_keptKey_11 : decode cX5_keptKey 11 = .ok (.iload_n 3, 1) := by decide +kernel
theorem dX5_keptKey_12 : decode cX5_keptKey 12 = .ok (.iload 4, 2) := by decide +kernel
theorem dX5_keptKey_14 : decode cX5_keptKey 14 = .ok (.invokevirtual 224, 3) := by decide +kernel
theorem dX5_keptKey_17 : decode cX5_keptKey 17 = .ok (.istore 7, 2) := by decide +kernel
theorem dX5_keptKey_19 : decode cX5_keptKey 19 = .ok (.aload 6, 2) := by decide +kernel
theorem dX5_keptKey_21 : decode cX5_keptKey 21 = .ok (.ifnull 9, 3) := by decide +kernel
theorem dX5_keptKey_24 : decode cX5_keptKey 24 = .ok (.iload 7, 2) := by decide +kernel
theorem dX5_keptKey_26 : decode cX5_keptKey 26 = .ok (.iconst (-1), 1) := by decide +kernel
theorem dX5_keptKey_27 : decode cX5_keptKey 27 = .ok (.if_icmp .ne 8, 3) := by decide +kernel
theorem dX5_keptKey_30 : decode cX5_keptKey 30 = .ok (.bipush (-101), 2) := by decide +kernel
theorem dX5_keptKey_32 : decode cX5_keptKey 32 = .ok (.goto 19, 3) := by decide +kernel
theorem dX5_keptKey_35 : decode cX5_keptKey 35 = .ok (.aload_n 0, 1) := by decide +kernel
theorem dX5_keptKey_36 : decode cX5_keptKey 36 = .ok (.getfield 16, 3) := by decide +kernel
theorem dX5_keptKey_39 : decode cX5_keptKey 39 = .ok (.aload 6, 2) := by decide +kernel
theorem dX5_keptKey_41 : decode cX5_keptKey 41 = .ok (.iload 7, 2) := by decide +kernel
theorem dX5_keptKey_43 : decode cX5_keptKey 43 = .ok (.iload 5, 2) := by decide +kernel
theorem dX5_keptKey_45 : decode cX5_keptKey 45 = .ok (.invokevirtual 231, 3) := by decide +kernel
theorem dX5_keptKey_48 : decode cX5_keptKey 48 = .ok (.invokevirtual 204, 3) := by decide +kernel
theorem dX5_keptKey_51 : decode cX5_keptKey 51 = .ok (.ireturn, 1) := by decide +kernel
theorem dX5_keptValue_0 : decode cX5_keptValue 0 = .ok (.aload_n 0, 1) := by decide +kernel
theorem dX5_keptValue_1 : decode cX5_keptValue 1 = .ok (.iload_n 1, 1) := by decide +kernel
theorem dX5_keptValue_2 : decode cX5_keptValue 2 = .ok (.invokevirtual 124, 3) := by decide +kernel
theorem dX5_keptValue_5 : decode cX5_keptValue 5 = .ok (.astore 6, 2) := by decide +kernel
theorem dX5_keptValue_7 : decode cX5_keptValue 7 = .ok (.aload_n 0, 1) := by decide +kernel
theorem dX5_keptValue_8 : decode cX5_keptValue 8 = .ok (.aload 6, 2) := by decide +kernel
theorem dX5_keptValue_10 : decode cX5_keptValue 10 = .ok (.iload_n 2, 1) := by decide +kernel
theorem dX5_keptValue_11 : decode cX5_keptValue 11 = .ok (.iload_n 3, 1) := by decide +kernel
theorem dX5_keptValue_12 : decode cX5_keptValue 12 = .ok (.iload 4, 2) := by decide +kernel
theorem dX5_keptValue_14 : decode cX5_keptValue 14 = .ok (.invokevirtual 224, 3) := by decide +kernel
theorem dX5_keptValue_17 : decode cX5_keptValue 17 = .ok (.istore 7, 2) := by decide +kernel
theorem dX5_keptValue_19 : decode cX5_keptValue 19 = .ok (.aload 6, 2) := by decide +kernel
theorem dX5_keptValue_21 : decode cX5_keptValue 21 = .ok (.ifnull 9, 3) := by decide +kernel
theorem dX5_keptValue_24 : decode cX5_keptValue 24 = .ok (.iload 7, 2) := by decide +kernel
theorem dX5_keptValue_26 : decode cX5_keptValue 26 = .ok (.iconst (-1), 1) := by decide +kernel
theorem dX5_keptValue_27 : decode cX5_keptValue 27 = .ok (.if_icmp .ne 7, 3) := by decide +kernel
theorem dX5_keptValue_30 : decode cX5_keptValue 30 = .ok (.lconst 0, 1) := by decide +kernel
theorem dX5_keptValue_31 : decode cX5_keptValue 31 = .ok (.goto 19, 3) := by decide +kernel
theorem dX5_keptValue_34 : decode cX5_keptValue 34 = .ok (.aload_n 0, 1) := by decide +kernel
theorem dX5_keptValue_35 : decode cX5_keptValue 35 = .ok (.getfield 16, 3) := by decide +kernel
theorem dX5_keptValue_38 : decode cX5_keptValue 38 = .ok (.aload 6, 2) := by decide +kernel
theorem dX5_keptValue_40 : decode cX5_keptValue 40 = .ok (.iload 7, 2) := by decide +kernel
theorem dX5_keptValue_42 : decode cX5_keptValue 42 = .ok (.iload 5, 2) := by decide +kernel
theorem dX5_keptValue_44 : decode cX5_keptValue 44 = .ok (.invokevirtual 231, 3) := by decide +kernel
theorem dX5_keptValue_47 : decode cX5_keptValue 47 = .ok (.invokevirtual 207, 3) := by decide +kernel
theorem dX5_keptValue_50 : decode cX5_keptValue 50 = .ok (.lreturn, 1) := by decide +kernel
theorem dX5_audit_0 : decode cX5_audit 0 = .ok (.aload_n 0, 1) := by decide +kernel
theorem dX5_audit_1 : decode cX5_audit 1 = .ok (.getfield 33, 3) := by decide +kernel
theorem dX5_audit_4 : decode cX5_audit 4 = .ok (.invokevirtual 234, 3) := by decide +kernel
theorem dX5_audit_7 : decode cX5_audit 7 = .ok (.iconst 0, 1) := by decide +kernel
theorem dX5_audit_8 : decode cX5_audit 8 = .ok (.istore_n 1, 1) := by decide +kernel
theorem dX5_audit_9 : decode cX5_audit 9 = .ok (.iload_n 1, 1) := by decide +kernel
theorem dX5_audit_10 : decode cX5_audit 10 = .ok (.aload_n 0, 1) := by decide +kernel
theorem dX5_audit_11 : decode cX5_audit 11 = .ok (.getfield 75, 3) := by decide +kernel
theorem dX5_audit_14 : decode cX5_audit 14 = .ok (.arraylength, 1) := by decide +kernel
theorem dX5_audit_15 : decode cX5_audit 15 = .ok (.if_icmp .ge 19, 3) := by decide +kernel
theorem dX5_audit_18 : decode cX5_audit 18 = .ok (.aload_n 0, 1) := by decide +kernel
theorem dX5_audit_19 : decode cX5_audit 19 = .ok (.aload_n 0, 1) := by decide +kernel
theorem dX5_audit_20 : decode cX5_audit 20 = .ok (.getfield 75, 3) := by decide +kernel
theorem dX5_audit_23 : decode cX5_audit 23 = .ok (.iload_n 1, 1) := by decide +kernel
theorem dX5_audit_24 : decode cX5_audit 24 = .ok (.aaload, 1) := by decide +kernel
theorem dX5_audit_25 : decode cX5_audit 25 = .ok (.invokevirtual 237, 3) := by decide +kernel
theorem dX5_audit_28 : decode cX5_audit 28 = .ok (.iinc 1 1, 3) := by decide +kernel
theorem dX5_audit_31 : decode cX5_audit 31 = .ok (.goto (-22), 3) := by decide +kernel
theorem dX5_audit_34 : decode cX5_audit 34 = .ok (.aload_n 0, 1) := by decide +kernel
theorem dX5_audit_35 : decode cX5_audit 35 = .ok (.aload_n 0, 1) := by decide +kernel
theorem dX5_audit_36 : decode cX5_audit 36 = .ok (.getfield 23, 3) := by decide +kernel
theorem dX5_audit_39 : decode cX5_audit 39 = .ok (.invokevirtual 241, 3) := by decide +kernel
theorem dX5_audit_42 : decode cX5_audit 42 = .ok (.aload_n 0, 1) := by decide +kernel
theorem dX5_audit_43 : decode cX5_audit 43 = .ok (.invokevirtual 245, 3) := by decide +kernel
theorem dX5_audit_46 : decode cX5_audit 46 = .ok (.iadd, 1) := by decide +kernel
theorem dX5_audit_47 : decode cX5_audit 47 = .ok (.istore_n 1, 1) := by decide +kernel
theorem dX5_audit_48 : decode cX5_audit 48 = .ok (.iconst 0, 1) := by decide +kernel
theorem dX5_audit_49 : decode cX5_audit 49 = .ok (.istore_n 2, 1) := by decide +kernel
theorem dX5_audit_50 : decode cX5_audit 50 = .ok (.iload_n 2, 1) := by decide +kernel
theorem dX5_audit_51 : decode cX5_audit 51 = .ok (.aload_n 0, 1) := by decide +kernel
theorem dX5_audit_52 : decode cX5_audit 52 = .ok (.getfield 36, 3) := by decide +kernel
theorem dX5_audit_55 : decode cX5_audit 55 = .ok (.if_icmp .ge 50, 3) := by decide +kernel
theorem dX5_audit_58 : decode cX5_audit 58 = .ok (.aload_n 0, 1) := by decide +kernel
theorem dX5_audit_59 : decode cX5_audit 59 = .ok (.iload_n 2, 1) := by decide +kernel
theorem dX5_audit_60 : decode cX5_audit 60 = .ok (.invokevirtual 124, 3) := by decide +kernel
theorem dX5_audit_63 : decode cX5_audit 63 = .ok (.astore_n 3, 1) := by decide +kernel
theorem dX5_audit_64 : decode cX5_audit 64 = .ok (.aload_n 3, 1) := by decide +kernel
theorem dX5_audit_65 : decode cX5_audit 65 = .ok (.ifnull 34, 3) := by decide +kernel
theorem dX5_audit_68 : decode cX5_audit 68 = .ok (.aload_n 3, 1) := by decide +kernel
theorem dX5_audit_69 : decode cX5_audit 69 = .ok (.getfield 132, 3) := by decide +kernel
theorem dX5_audit_72 : decode cX5_audit 72 = .ok (.iconst 1, 1) := by decide +kernel
theorem dX5_audit_73 : decode cX5_audit 73 = .ok (.if_icmp .ne 26, 3) := by decide +kernel
theorem dX5_audit_76 : decode cX5_audit 76 = .ok (.aload_n 0, 1) := by decide +kernel
theorem dX5_audit_77 : decode cX5_audit 77 = .ok (.getfield 33, 3) := by decide +kernel
theorem dX5_audit_80 : decode cX5_audit 80 = .ok (.invokevirtual 234, 3) := by decide +kernel
theorem dX5_audit_83 : decode cX5_audit 83 = .ok (.aload_n 0, 1) := by decide +kernel
theorem dX5_audit_84 : decode cX5_audit 84 = .ok (.aload_n 3, 1) := by decide +kernel
theorem dX5_audit_85 : decode cX5_audit 85 = .ok (.invokevirtual 248, 3) := by decide +kernel
theorem dX5_audit_88 : decode cX5_audit 88 = .ok (.iload_n 1, 1) := by decide +kernel
theorem dX5_audit_89 : decode cX5_audit 89 = .ok (.aload_n 0, 1) := by decide +kernel
theorem dX5_audit_90 : decode cX5_audit 90 = .ok (.aload_n 3, 1) := by decide +kernel
theorem dX5_audit_91 : decode cX5_audit 91 = .ok (.getfield 139, 3) := by decide +kernel
theorem dX5_audit_94 : decode cX5_audit 94 = .ok (.invokevirtual 241, 3) := by decide +kernel
theorem dX5_audit_97 : decode cX5_audit 97 = .ok (.iadd, 1) := by decide +kernel
theorem dX5_audit_98 : decode cX5_audit 98 = .ok (.istore_n 1, 1) := by decide +kernel
theorem dX5_audit_99 : decode cX5_audit 99 = .ok (.iinc 2 1, 3) := by decide +kernel
theorem dX5_audit_102 : decode cX5_audit 102 = .ok (.goto (-52), 3) := by decide +kernel
theorem dX5_audit_105 : decode cX5_audit 105 = .ok (.iload_n 1, 1) := by decide +kernel
theorem dX5_audit_106 : decode cX5_audit 106 = .ok (.ireturn, 1) := by decide +kernel
theorem dX5_isStage_0 : decode cX5_isStage 0 = .ok (.iload_n 1, 1) := by decide +kernel
theorem dX5_isStage_1 : decode cX5_isStage 1 = .ok (.ifCond .lt 15, 3) := by decide +kernel
theorem dX5_isStage_4 : decode cX5_isStage 4 = .ok (.iload_n 1, 1) := by decide +kernel
theorem dX5_isStage_5 : decode cX5_isStage 5 = .ok (.aload_n 0, 1) := by decide +kernel
theorem dX5_isStage_6 : decode cX5_isStage 6 = .ok (.getfield 64, 3) := by decide +kernel
theorem dX5_isStage_9 : decode cX5_isStage 9 = .ok (.if_icmp .ge 7, 3) := by decide +kernel
theorem dX5_isStage_12 : decode cX5_isStage 12 = .ok (.iconst 1, 1) := by decide +kernel
theorem dX5_isStage_13 : decode cX5_isStage 13 = .ok (.goto 4, 3) := by decide +kernel
theorem dX5_isStage_16 : decode cX5_isStage 16 = .ok (.iconst 0, 1) := by decide +kernel
theorem dX5_isStage_17 : decode cX5_isStage 17 = .ok (.ireturn, 1) := by decide +kernel
theorem dX5_isKey_0 : decode cX5_isKey 0 = .ok (.iload_n 0, 1) := by decide +kernel
theorem dX5_isKey_1 : decode cX5_isKey 1 = .ok (.ifCond .lt 13, 3) := by decide +kernel
theorem dX5_isKey_4 : decode cX5_isKey 4 = .ok (.iload_n 0, 1) := by decide +kernel
theorem dX5_isKey_5 : decode cX5_isKey 5 = .ok (.bipush 16, 2) := by decide +kernel
theorem dX5_isKey_7 : decode cX5_isKey 7 = .ok (.if_icmp .ge 7, 3) := by decide +kernel
theorem dX5_isKey_10 : decode cX5_isKey 10 = .ok (.iconst 1, 1) := by decide +kernel
theorem dX5_isKey_11 : decode cX5_isKey 11 = .ok (.goto 4, 3) := by decide +kernel
theorem dX5_isKey_14 : decode cX5_isKey 14 = .ok (.iconst 0, 1) := by decide +kernel
theorem dX5_isKey_15 : decode cX5_isKey 15 = .ok (.ireturn, 1) := by decide +kernel
theorem dX5_isWidth_0 : decode cX5_isWidth 0 = .ok (.iload_n 0, 1) := by decide +kernel
theorem dX5_isWidth_1 : decode cX5_isWidth 1 = .ok (.iconst 1, 1) := by decide +kernel
theorem dX5_isWidth_2 : decode cX5_isWidth 2 = .ok (.if_icmp .lt 12, 3) := by decide +kernel
theorem dX5_isWidth_5 : decode cX5_isWidth 5 = .ok (.iload_n 0, 1) := by decide +kernel
theorem dX5_isWidth_6 : decode cX5_isWidth 6 = .ok (.iconst 4, 1) := by decide +kernel
theorem dX5_isWidth_7 : decode cX5_isWidth 7 = .ok (.if_icmp .gt 7, 3) := by decide +kernel
theorem dX5_isWidth_10 : decode cX5_isWidth 10 = .ok (.iconst 1, 1) := by decide +kernel
theorem dX5_isWidth_11 : decode cX5_isWidth 11 = .ok (.goto 4, 3) := by decide +kernel
theorem dX5_isWidth_14 : decode cX5_isWidth 14 = .ok (.iconst 0, 1) := by decide +kernel
theorem dX5_isWidth_15 : decode cX5_isWidth 15 = .ok (.ireturn, 1) := by decide +kernel
theorem dX5_widthOf_0 : decode cX5_widthOf 0 = .ok (.iload_n 1, 1) := by decide +kernel
theorem dX5_widthOf_1 : decode cX5_widthOf 1 = .ok (.ifCond .lt 20, 3) := by decide +kernel
theorem dX5_widthOf_4 : decode cX5_widthOf 4 = .ok (.iload_n 1, 1) := by decide +kernel
theorem dX5_widthOf_5 : decode cX5_widthOf 5 = .ok (.aload_n 0, 1) := by decide +kernel
theorem dX5_widthOf_6 : decode cX5_widthOf 6 = .ok (.getfield 64, 3) := by decide +kernel
theorem dX5_widthOf_9 : decode cX5_widthOf 9 = .ok (.if_icmp .ge 12, 3) := by decide +kernel
theorem dX5_widthOf_12 : decode cX5_widthOf 12 = .ok (.aload_n 0, 1) := by decide +kernel
theorem dX5_widthOf_13 : decode cX5_widthOf 13 = .ok (.getfield 9, 3) := by decide +kernel
theorem dX5_widthOf_16 : decode cX5_widthOf 16 = .ok (.iload_n 1, 1) := by decide +kernel
theorem dX5_widthOf_17 : decode cX5_widthOf 17 = .ok (.iaload, 1) := by decide +kernel
theorem dX5_widthOf_18 : decode cX5_widthOf 18 = .ok (.goto 4, 3) := by decide +kernel
theorem dX5_widthOf_21 : decode cX5_widthOf 21 = .ok (.iconst 0, 1) := by decide +kernel
theorem dX5_widthOf_22 : decode cX5_widthOf 22 = .ok (.ireturn, 1) := by decide +kernel
theorem dX5_taskAt_0 : decode cX5_taskAt 0 = .ok (.iload_n 2, 1) := by decide +kernel
theorem dX5_taskAt_1 : decode cX5_taskAt 1 = .ok (.ifCond .lt 12, 3) := by decide +kernel
theorem dX5_taskAt_4 : decode cX5_taskAt 4 = .ok (.iload_n 2, 1) := by decide +kernel
theorem dX5_taskAt_5 : decode cX5_taskAt 5 = .ok (.aload_n 0, 1) := by decide +kernel
theorem dX5_taskAt_6 : decode cX5_taskAt 6 = .ok (.iload_n 1, 1) := by decide +kernel
theorem dX5_taskAt_7 : decode cX5_taskAt 7 = .ok (.invokevirtual 110, 3) := by decide +kernel
theorem dX5_taskAt_10 : decode cX5_taskAt 10 = .ok (.if_icmp .lt 5, 3) := by decide +kernel
theorem dX5_taskAt_13 : decode cX5_taskAt 13 = .ok (.aconst_null, 1) := by decide +kernel
theorem dX5_taskAt_14 : decode cX5_taskAt 14 = .ok (.areturn, 1) := by decide +kernel
theorem dX5_taskAt_15 : decode cX5_taskAt 15 = .ok (.aload_n 0, 1) := by decide +kernel
theorem dX5_taskAt_16 : decode cX5_taskAt 16 = .ok (.getfield 84, 3) := by decide +kernel
theorem dX5_taskAt_19 : decode cX5_taskAt 19 = .ok (.iload_n 1, 1) := by decide +kernel
theorem dX5_taskAt_20 : decode cX5_taskAt 20 = .ok (.iconst 4, 1) := by decide +kernel
theorem dX5_taskAt_21 : decode cX5_taskAt 21 = .ok (.imul, 1) := by decide +kernel
theorem dX5_taskAt_22 : decode cX5_taskAt 22 = .ok (.iload_n 2, 1) := by decide +kernel
theorem dX5_taskAt_23 : decode cX5_taskAt 23 = .ok (.iadd, 1) := by decide +kernel
theorem dX5_taskAt_24 : decode cX5_taskAt 24 = .ok (.aaload, 1) := by decide +kernel
theorem dX5_taskAt_25 : decode cX5_taskAt 25 = .ok (.areturn, 1) := by decide +kernel
theorem dX5_channelAt_0 : decode cX5_channelAt 0 = .ok (.iload_n 1, 1) := by decide +kernel
theorem dX5_channelAt_1 : decode cX5_channelAt 1 = .ok (.ifCond .lt 13, 3) := by decide +kernel
theorem dX5_channelAt_4 : decode cX5_channelAt 4 = .ok (.iload_n 1, 1) := by decide +kernel
theorem dX5_channelAt_5 : decode cX5_channelAt 5 = .ok (.aload_n 0, 1) := by decide +kernel
theorem dX5_channelAt_6 : decode cX5_channelAt 6 = .ok (.getfield 64, 3) := by decide +kernel
theorem dX5_channelAt_9 : decode cX5_channelAt 9 = .ok (.iconst 1, 1) := by decide +kernel
theorem dX5_channelAt_10 : decode cX5_channelAt 10 = .ok (.isub, 1) := by decide +kernel
theorem dX5_channelAt_11 : decode cX5_channelAt 11 = .ok (.if_icmp .lt 5, 3) := by decide +kernel
theorem dX5_channelAt_14 : decode cX5_channelAt 14 = .ok (.aconst_null, 1) := by decide +kernel
theorem dX5_channelAt_15 : decode cX5_channelAt 15 = .ok (.areturn, 1) := by decide +kernel
theorem dX5_channelAt_16 : decode cX5_channelAt 16 = .ok (.iload_n 2, 1) := by decide +kernel
theorem dX5_channelAt_17 : decode cX5_channelAt 17 = .ok (.ifCond .lt 29, 3) := by decide +kernel
theorem dX5_channelAt_20 : decode cX5_channelAt 20 = .ok (.iload_n 2, 1) := by decide +kernel
theorem dX5_channelAt_21 : decode cX5_channelAt 21 = .ok (.aload_n 0, 1) := by decide +kernel
theorem dX5_channelAt_22 : decode cX5_channelAt 22 = .ok (.getfield 9, 3) := by decide +kernel
theorem dX5_channelAt_25 : decode cX5_channelAt 25 = .ok (.iload_n 1, 1) := by decide +kernel
theorem dX5_channelAt_26 : decode cX5_channelAt 26 = .ok (.iaload, 1) := by decide +kernel
theorem dX5_channelAt_27 : decode cX5_channelAt 27 = .ok (.if_icmp .ge 19, 3) := by decide +kernel
theorem dX5_channelAt_30 : decode cX5_channelAt 30 = .ok (.iload_n 3, 1) := by decide +kernel
theorem dX5_channelAt_31 : decode cX5_channelAt 31 = .ok (.ifCond .lt 15, 3) := by decide +kernel
theorem dX5_channelAt_34 : decode cX5_channelAt 34 = .ok (.iload_n 3, 1) := by decide +kernel
theorem dX5_channelAt_35 : decode cX5_channelAt 35 = .ok (.aload_n 0, 1) := by decide +kernel
theorem dX5_channelAt_36 : decode cX5_channelAt 36 = .ok (.getfield 9, 3) := by decide +kernel
theorem dX5_channelAt_39 : decode cX5_channelAt 39 = .ok (.iload_n 1, 1) := by decide +kernel
theorem dX5_channelAt_40 : decode cX5_channelAt 40 = .ok (.iconst 1, 1) := by decide +kernel
theorem dX5_channelAt_41 : decode cX5_channelAt 41 = .ok (.iadd, 1) := by decide +kernel
theorem dX5_channelAt_42 : decode cX5_channelAt 42 = .ok (.iaload, 1) := by decide +kernel
theorem dX5_channelAt_43 : decode cX5_channelAt 43 = .ok (.if_icmp .lt 5, 3) := by decide +kernel
theorem dX5_channelAt_46 : decode cX5_channelAt 46 = .ok (.aconst_null, 1) := by decide +kernel
theorem dX5_channelAt_47 : decode cX5_channelAt 47 = .ok (.areturn, 1) := by decide +kernel
theorem dX5_channelAt_48 : decode cX5_channelAt 48 = .ok (.aload_n 0, 1) := by decide +kernel
theorem dX5_channelAt_49 : decode cX5_channelAt 49 = .ok (.getfield 75, 3) := by decide +kernel
theorem dX5_channelAt_52 : decode cX5_channelAt 52 = .ok (.iload_n 1, 1) := by decide +kernel
theorem dX5_channelAt_53 : decode cX5_channelAt 53 = .ok (.iload_n 2, 1) := by decide +kernel
theorem dX5_channelAt_54 : decode cX5_channelAt 54 = .ok (.iload_n 3, 1) := by decide +kernel
theorem dX5_channelAt_55 : decode cX5_channelAt 55 = .ok (.invokestatic 252, 3) := by decide +kernel
theorem dX5_channelAt_58 : decode cX5_channelAt 58 = .ok (.aaload, 1) := by decide +kernel
theorem dX5_channelAt_59 : decode cX5_channelAt 59 = .ok (.areturn, 1) := by decide +kernel
theorem dX5_markAt_0 : decode cX5_markAt 0 = .ok (.iload_n 1, 1) := by decide +kernel
theorem dX5_markAt_1 : decode cX5_markAt 1 = .ok (.ifCond .lt 20, 3) := by decide +kernel
theorem dX5_markAt_4 : decode cX5_markAt 4 = .ok (.iload_n 1, 1) := by decide +kernel
theorem dX5_markAt_5 : decode cX5_markAt 5 = .ok (.aload_n 0, 1) := by decide +kernel
theorem dX5_markAt_6 : decode cX5_markAt 6 = .ok (.getfield 36, 3) := by decide +kernel
theorem dX5_markAt_9 : decode cX5_markAt 9 = .ok (.if_icmp .ge 12, 3) := by decide +kernel
theorem dX5_markAt_12 : decode cX5_markAt 12 = .ok (.aload_n 0, 1) := by decide +kernel
theorem dX5_markAt_13 : decode cX5_markAt 13 = .ok (.getfield 29, 3) := by decide +kernel
theorem dX5_markAt_16 : decode cX5_markAt 16 = .ok (.iload_n 1, 1) := by decide +kernel
theorem dX5_markAt_17 : decode cX5_markAt 17 = .ok (.aaload, 1) := by decide +kernel
theorem dX5_markAt_18 : decode cX5_markAt 18 = .ok (.goto 4, 3) := by decide +kernel
theorem dX5_markAt_21 : decode cX5_markAt 21 = .ok (.aconst_null, 1) := by decide +kernel
theorem dX5_markAt_22 : decode cX5_markAt 22 = .ok (.areturn, 1) := by decide +kernel
theorem dX5_keptChannel_0 : decode cX5_keptChannel 0 = .ok (.aload_n 1, 1) := by decide +kernel
theorem dX5_keptChannel_1 : decode cX5_keptChannel 1 = .ok (.ifnull 17, 3) := by decide +kernel
theorem dX5_keptChannel_4 : decode cX5_keptChannel 4 = .ok (.iload_n 2, 1) := by decide +kernel
theorem dX5_keptChannel_5 : decode cX5_keptChannel 5 = .ok (.ifCond .lt 13, 3) := by decide +kernel
theorem dX5_keptChannel_8 : decode cX5_keptChannel 8 = .ok (.iload_n 2, 1) := by decide +kernel
theorem dX5_keptChannel_9 : decode cX5_keptChannel 9 = .ok (.aload_n 0, 1) := by decide +kernel
theorem dX5_keptChannel_10 : decode cX5_keptChannel 10 = .ok (.getfield 64, 3) := by decide +kernel
theorem dX5_keptChannel_13 : decode cX5_keptChannel 13 = .ok (.iconst 1, 1) := by decide +kernel
theorem dX5_keptChannel_14 : decode cX5_keptChannel 14 = .ok (.isub, 1) := by decide +kernel
theorem dX5_keptChannel_15 : decode cX5_keptChannel 15 = .ok (.if_icmp .lt 5, 3) := by decide +kernel
theorem dX5_keptChannel_18 : decode cX5_keptChannel 18 = .ok (.iconst (-1), 1) := by decide +kernel
theorem dX5_keptChannel_19 : decode cX5_keptChannel 19 = .ok (.ireturn, 1) := by decide +kernel
theorem dX5_keptChannel_20 : decode cX5_keptChannel 20 = .ok (.iload_n 3, 1) := by decide +kernel
theorem dX5_keptChannel_21 : decode cX5_keptChannel 21 = .ok (.ifCond .lt 29, 3) := by decide +kernel
theorem dX5_keptChannel_24 : decode cX5_keptChannel 24 = .ok (.iload_n 3, 1) := by decide +kernel
theorem dX5_keptChannel_25 : decode cX5_keptChannel 25 = .ok (.aload_n 1, 1) := by decide +kernel
theorem dX5_keptChannel_26 : decode cX5_keptChannel 26 = .ok (.iload_n 2, 1) := by decide +kernel
theorem dX5_keptChannel_27 : decode cX5_keptChannel 27 = .ok (.invokevirtual 211, 3) := by decide +kernel
theorem dX5_keptChannel_30 : decode cX5_keptChannel 30 = .ok (.if_icmp .ge 20, 3) := by decide +kernel
theorem dX5_keptChannel_33 : decode cX5_keptChannel 33 = .ok (.iload 4, 2) := by decide +kernel
theorem dX5_keptChannel_35 : decode cX5_keptChannel 35 = .ok (.ifCond .lt 15, 3) := by decide +kernel
theorem dX5_keptChannel_38 : decode cX5_keptChannel 38 = .ok (.iload 4, 2) := by decide +kernel
theorem dX5_keptChannel_40 : decode cX5_keptChannel 40 = .ok (.aload_n 1, 1) := by decide +kernel
theorem dX5_keptChannel_41 : decode cX5_keptChannel 41 = .ok (.iload_n 2, 1) := by decide +kernel
theorem dX5_keptChannel_42 : decode cX5_keptChannel 42 = .ok (.iconst 1, 1) := by decide +kernel
theorem dX5_keptChannel_43 : decode cX5_keptChannel 43 = .ok (.iadd, 1) := by decide +kernel
theorem dX5_keptChannel_44 : decode cX5_keptChannel 44 = .ok (.invokevirtual 211, 3) := by decide +kernel
theorem dX5_keptChannel_47 : decode cX5_keptChannel 47 = .ok (.if_icmp .lt 5, 3) := by decide +kernel
theorem dX5_keptChannel_50 : decode cX5_keptChannel 50 = .ok (.iconst (-1), 1) := by decide +kernel
theorem dX5_keptChannel_51 : decode cX5_keptChannel 51 = .ok (.ireturn, 1) := by decide +kernel
theorem dX5_keptChannel_52 : decode cX5_keptChannel 52 = .ok (.iload_n 2, 1) := by decide +kernel
theorem dX5_keptChannel_53 : decode cX5_keptChannel 53 = .ok (.iload_n 3, 1) := by decide +kernel
theorem dX5_keptChannel_54 : decode cX5_keptChannel 54 = .ok (.iload 4, 2) := by decide +kernel
theorem dX5_keptChannel_56 : decode cX5_keptChannel 56 = .ok (.invokestatic 252, 3) := by decide +kernel
theorem dX5_keptChannel_59 : decode cX5_keptChannel 59 = .ok (.ireturn, 1) := by decide +kernel
theorem dX5_numberOf_0 : decode cX5_numberOf 0 = .ok (.iload_n 0, 1) := by decide +kernel
theorem dX5_numberOf_1 : decode cX5_numberOf 1 = .ok (.bipush 16, 2) := by decide +kernel
theorem dX5_numberOf_3 : decode cX5_numberOf 3 = .ok (.imul, 1) := by decide +kernel
theorem dX5_numberOf_4 : decode cX5_numberOf 4 = .ok (.iload_n 1, 1) := by decide +kernel
theorem dX5_numberOf_5 : decode cX5_numberOf 5 = .ok (.iconst 4, 1) := by decide +kernel
theorem dX5_numberOf_6 : decode cX5_numberOf 6 = .ok (.imul, 1) := by decide +kernel
theorem dX5_numberOf_7 : decode cX5_numberOf 7 = .ok (.iadd, 1) := by decide +kernel
theorem dX5_numberOf_8 : decode cX5_numberOf 8 = .ok (.iload_n 2, 1) := by decide +kernel
theorem dX5_numberOf_9 : decode cX5_numberOf 9 = .ok (.iadd, 1) := by decide +kernel
theorem dX5_numberOf_10 : decode cX5_numberOf 10 = .ok (.ireturn, 1) := by decide +kernel
theorem dX5_gapOf_0 : decode cX5_gapOf 0 = .ok (.iload_n 0, 1) := by decide +kernel
theorem dX5_gapOf_1 : decode cX5_gapOf 1 = .ok (.bipush 16, 2) := by decide +kernel
theorem dX5_gapOf_3 : decode cX5_gapOf 3 = .ok (.idiv, 1) := by decide +kernel
theorem dX5_gapOf_4 : decode cX5_gapOf 4 = .ok (.ireturn, 1) := by decide +kernel
theorem dX5_owner_0 : decode cX5_owner 0 = .ok (.iload_n 0, 1) := by decide +kernel
theorem dX5_owner_1 : decode cX5_owner 1 = .ok (.ifCond .lt 8, 3) := by decide +kernel
theorem dX5_owner_4 : decode cX5_owner 4 = .ok (.iload_n 1, 1) := by decide +kernel
theorem dX5_owner_5 : decode cX5_owner 5 = .ok (.iconst 1, 1) := by decide +kernel
theorem dX5_owner_6 : decode cX5_owner 6 = .ok (.if_icmp .ge 7, 3) := by decide +kernel
theorem dX5_owner_9 : decode cX5_owner 9 = .ok (.iconst (-1), 1) := by decide +kernel
theorem dX5_owner_10 : decode cX5_owner 10 = .ok (.goto 6, 3) := by decide +kernel
theorem dX5_owner_13 : decode cX5_owner 13 = .ok (.iload_n 0, 1) := by decide +kernel
theorem dX5_owner_14 : decode cX5_owner 14 = .ok (.iload_n 1, 1) := by decide +kernel
theorem dX5_owner_15 : decode cX5_owner 15 = .ok (.irem, 1) := by decide +kernel
theorem dX5_owner_16 : decode cX5_owner 16 = .ok (.ireturn, 1) := by decide +kernel
theorem dX5_around_0 : decode cX5_around 0 = .ok (.iload_n 0, 1) := by decide +kernel
theorem dX5_around_1 : decode cX5_around 1 = .ok (.ifCond .lt 8, 3) := by decide +kernel
theorem dX5_around_4 : decode cX5_around 4 = .ok (.iload_n 1, 1) := by decide +kernel
theorem dX5_around_5 : decode cX5_around 5 = .ok (.iconst 1, 1) := by decide +kernel
theorem dX5_around_6 : decode cX5_around 6 = .ok (.if_icmp .ge 7, 3) := by decide +kernel
theorem dX5_around_9 : decode cX5_around 9 = .ok (.iconst 0, 1) := by decide +kernel
theorem dX5_around_10 : decode cX5_around 10 = .ok (.goto 6, 3) := by decide +kernel
theorem dX5_around_13 : decode cX5_around 13 = .ok (.iload_n 0, 1) := by decide +kernel
theorem dX5_around_14 : decode cX5_around 14 = .ok (.iload_n 1, 1) := by decide +kernel
theorem dX5_around_15 : decode cX5_around 15 = .ok (.irem, 1) := by decide +kernel
theorem dX5_around_16 : decode cX5_around 16 = .ok (.ireturn, 1) := by decide +kernel
theorem dX5_channelOf_0 : decode cX5_channelOf 0 = .ok (.aload_n 0, 1) := by decide +kernel
theorem dX5_channelOf_1 : decode cX5_channelOf 1 = .ok (.iload_n 1, 1) := by decide +kernel
theorem dX5_channelOf_2 : decode cX5_channelOf 2 = .ok (.iload_n 2, 1) := by decide +kernel
theorem dX5_channelOf_3 : decode cX5_channelOf 3 = .ok (.aload_n 0, 1) := by decide +kernel
theorem dX5_channelOf_4 : decode cX5_channelOf 4 = .ok (.iload_n 1, 1) := by decide +kernel
theorem dX5_channelOf_5 : decode cX5_channelOf 5 = .ok (.invokevirtual 110, 3) := by decide +kernel
theorem dX5_channelOf_8 : decode cX5_channelOf 8 = .ok (.invokestatic 256, 3) := by decide +kernel
theorem dX5_channelOf_11 : decode cX5_channelOf 11 = .ok (.iload_n 2, 1) := by decide +kernel
theorem dX5_channelOf_12 : decode cX5_channelOf 12 = .ok (.aload_n 0, 1) := by decide +kernel
theorem dX5_channelOf_13 : decode cX5_channelOf 13 = .ok (.iload_n 1, 1) := by decide +kernel
theorem dX5_channelOf_14 : decode cX5_channelOf 14 = .ok (.iconst 1, 1) := by decide +kernel
theorem dX5_channelOf_15 : decode cX5_channelOf 15 = .ok (.iadd, 1) := by decide +kernel
theorem dX5_channelOf_16 : decode cX5_channelOf 16 = .ok (.invokevirtual 110, 3) := by decide +kernel
theorem dX5_channelOf_19 : decode cX5_channelOf 19 = .ok (.invokestatic 256, 3) := by decide +kernel
theorem dX5_channelOf_22 : decode cX5_channelOf 22 = .ok (.invokevirtual 185, 3) := by decide +kernel
theorem dX5_channelOf_25 : decode cX5_channelOf 25 = .ok (.areturn, 1) := by decide +kernel
theorem dX5_makeTurn_0 : decode cX5_makeTurn 0 = .ok (.aload_n 0, 1) := by decide +kernel
theorem dX5_makeTurn_1 : decode cX5_makeTurn 1 = .ok (.dup, 1) := by decide +kernel
theorem dX5_makeTurn_2 : decode cX5_makeTurn 2 = .ok (.getfield 43, 3) := by decide +kernel
theorem dX5_makeTurn_5 : decode cX5_makeTurn 5 = .ok (.iconst 1, 1) := by decide +kernel
theorem dX5_makeTurn_6 : decode cX5_makeTurn 6 = .ok (.iadd, 1) := by decide +kernel
theorem dX5_makeTurn_7 : decode cX5_makeTurn 7 = .ok (.putfield 43, 3) := by decide +kernel
theorem dX5_makeTurn_10 : decode cX5_makeTurn 10 = .ok (.aload_n 0, 1) := by decide +kernel
theorem dX5_makeTurn_11 : decode cX5_makeTurn 11 = .ok (.iload_n 1, 1) := by decide +kernel
theorem dX5_makeTurn_12 : decode cX5_makeTurn 12 = .ok (.iload_n 2, 1) := by decide +kernel
theorem dX5_makeTurn_13 : decode cX5_makeTurn 13 = .ok (.invokevirtual 103, 3) := by decide +kernel
theorem dX5_makeTurn_16 : decode cX5_makeTurn 16 = .ok (.astore_n 3, 1) := by decide +kernel
theorem dX5_makeTurn_17 : decode cX5_makeTurn 17 = .ok (.aload_n 3, 1) := by decide +kernel
theorem dX5_makeTurn_18 : decode cX5_makeTurn 18 = .ok (.ifnonnull 5, 3) := by decide +kernel
theorem dX5_makeTurn_21 : decode cX5_makeTurn 21 = .ok (.iconst 0, 1) := by decide +kernel
theorem dX5_makeTurn_22 : decode cX5_makeTurn 22 = .ok (.ireturn, 1) := by decide +kernel
theorem dX5_makeTurn_23 : decode cX5_makeTurn 23 = .ok (.iload_n 1, 1) := by decide +kernel
theorem dX5_makeTurn_24 : decode cX5_makeTurn 24 = .ok (.ifCond .ne 9, 3) := by decide +kernel
theorem dX5_makeTurn_27 : decode cX5_makeTurn 27 = .ok (.aload_n 0, 1) := by decide +kernel
theorem dX5_makeTurn_28 : decode cX5_makeTurn 28 = .ok (.iload_n 2, 1) := by decide +kernel
theorem dX5_makeTurn_29 : decode cX5_makeTurn 29 = .ok (.invokevirtual 259, 3) := by decide +kernel
theorem dX5_makeTurn_32 : decode cX5_makeTurn 32 = .ok (.ireturn, 1) := by decide +kernel
theorem dX5_makeTurn_33 : decode cX5_makeTurn 33 = .ok (.aload_n 0, 1) := by decide +kernel
theorem dX5_makeTurn_34 : decode cX5_makeTurn 34 = .ok (.iload_n 1, 1) := by decide +kernel
theorem dX5_makeTurn_35 : decode cX5_makeTurn 35 = .ok (.iload_n 2, 1) := by decide +kernel
theorem dX5_makeTurn_36 : decode cX5_makeTurn 36 = .ok (.invokevirtual 262, 3) := by decide +kernel
theorem dX5_makeTurn_39 : decode cX5_makeTurn 39 = .ok (.astore 4, 2) := by decide +kernel
theorem dX5_makeTurn_41 : decode cX5_makeTurn 41 = .ok (.aload 4, 2) := by decide +kernel
theorem dX5_makeTurn_43 : decode cX5_makeTurn 43 = .ok (.ifnull 13, 3) := by decide +kernel
theorem dX5_makeTurn_46 : decode cX5_makeTurn 46 = .ok (.aload_n 0, 1) := by decide +kernel
theorem dX5_makeTurn_47 : decode cX5_makeTurn 47 = .ok (.aload 4, 2) := by decide +kernel
theorem dX5_makeTurn_49 : decode cX5_makeTurn 49 = .ok (.iload_n 1, 1) := by decide +kernel
theorem dX5_makeTurn_50 : decode cX5_makeTurn 50 = .ok (.iload_n 2, 1) := by decide +kernel
theorem dX5_makeTurn_51 : decode cX5_makeTurn 51 = .ok (.invokevirtual 266, 3) := by decide +kernel
theorem dX5_makeTurn_54 : decode cX5_makeTurn 54 = .ok (.iconst 2, 1) := by decide +kernel
theorem dX5_makeTurn_55 : decode cX5_makeTurn 55 = .ok (.ireturn, 1) := by decide +kernel
theorem dX5_makeTurn_56 : decode cX5_makeTurn 56 = .ok (.aload_n 3, 1) := by decide +kernel
theorem dX5_makeTurn_57 : decode cX5_makeTurn 57 = .ok (.invokevirtual 178, 3) := by decide +kernel
theorem dX5_makeTurn_60 : decode cX5_makeTurn 60 = .ok (.ifCond .eq 36, 3) := by decide +kernel
theorem dX5_makeTurn_63 : decode cX5_makeTurn 63 = .ok (.aload_n 0, 1) := by decide +kernel
theorem dX5_makeTurn_64 : decode cX5_makeTurn 64 = .ok (.getfield 49, 3) := by decide +kernel
theorem dX5_makeTurn_67 : decode cX5_makeTurn 67 = .ok (.iconst (-1), 1) := by decide +kernel
theorem dX5_makeTurn_68 : decode cX5_makeTurn 68 = .ok (.if_icmp .eq 28, 3) := by decide +kernel
theorem dX5_makeTurn_71 : decode cX5_makeTurn 71 = .ok (.aload_n 0, 1) := by decide +kernel
theorem dX5_makeTurn_72 : decode cX5_makeTurn 72 = .ok (.getfield 43, 3) := by decide +kernel
theorem dX5_makeTurn_75 : decode cX5_makeTurn 75 = .ok (.aload_n 3, 1) := by decide +kernel
theorem dX5_makeTurn_76 : decode cX5_makeTurn 76 = .ok (.getfield 270, 3) := by decide +kernel
theorem dX5_makeTurn_79 : decode cX5_makeTurn 79 = .ok (.isub, 1) := by decide +kernel
theorem dX5_makeTurn_80 : decode cX5_makeTurn 80 = .ok (.aload_n 0, 1) := by decide +kernel
theorem dX5_makeTurn_81 : decode cX5_makeTurn 81 = .ok (.getfield 49, 3) := by decide +kernel
theorem dX5_makeTurn_84 : decode cX5_makeTurn 84 = .ok (.if_icmp .lt 12, 3) := by decide +kernel
theorem dX5_makeTurn_87 : decode cX5_makeTurn 87 = .ok (.aload_n 0, 1) := by decide +kernel
theorem dX5_makeTurn_88 : decode cX5_makeTurn 88 = .ok (.iload_n 1, 1) := by decide +kernel
theorem dX5_makeTurn_89 : decode cX5_makeTurn 89 = .ok (.iload_n 2, 1) := by decide +kernel
theorem dX5_makeTurn_90 : decode cX5_makeTurn 90 = .ok (.iconst 1, 1) := by decide +kernel
theorem dX5_makeTurn_91 : decode cX5_makeTurn 91 = .ok (.invokevirtual 116, 3) := by decide +kernel
theorem dX5_makeTurn_94 : decode cX5_makeTurn 94 = .ok (.iconst 3, 1) := by decide +kernel
theorem dX5_makeTurn_95 : decode cX5_makeTurn 95 = .ok (.ireturn, 1) := by decide +kernel
theorem dX5_makeTurn_96 : decode cX5_makeTurn 96 = .ok (.aload_n 0, 1) := by decide +kernel
theorem dX5_makeTurn_97 : decode cX5_makeTurn 97 = .ok (.aload_n 3, 1) := by decide +kernel
theorem dX5_makeTurn_98 : decode cX5_makeTurn 98 = .ok (.iload_n 1, 1) := by decide +kernel
theorem dX5_makeTurn_99 : decode cX5_makeTurn 99 = .ok (.iload_n 2, 1) := by decide +kernel
theorem dX5_makeTurn_100 : decode cX5_makeTurn 100 = .ok (.invokevirtual 273, 3) := by decide +kernel
theorem dX5_makeTurn_103 : decode cX5_makeTurn 103 = .ok (.istore 5, 2) := by decide +kernel
theorem dX5_makeTurn_105 : decode cX5_makeTurn 105 = .ok (.aload_n 0, 1) := by decide +kernel
theorem dX5_makeTurn_106 : decode cX5_makeTurn 106 = .ok (.iload_n 1, 1) := by decide +kernel
theorem dX5_makeTurn_107 : decode cX5_makeTurn 107 = .ok (.iconst 1, 1) := by decide +kernel
theorem dX5_makeTurn_108 : decode cX5_makeTurn 108 = .ok (.isub, 1) := by decide +kernel
theorem dX5_makeTurn_109 : decode cX5_makeTurn 109 = .ok (.iload 5, 2) := by decide +kernel
theorem dX5_makeTurn_111 : decode cX5_makeTurn 111 = .ok (.iload_n 2, 1) := by decide +kernel
theorem dX5_makeTurn_112 : decode cX5_makeTurn 112 = .ok (.invokevirtual 185, 3) := by decide +kernel
theorem dX5_makeTurn_115 : decode cX5_makeTurn 115 = .ok (.astore 6, 2) := by decide +kernel
theorem dX5_makeTurn_117 : decode cX5_makeTurn 117 = .ok (.aload 6, 2) := by decide +kernel
theorem dX5_makeTurn_119 : decode cX5_makeTurn 119 = .ok (.ifnonnull 5, 3) := by decide +kernel
theorem dX5_makeTurn_122 : decode cX5_makeTurn 122 = .ok (.iconst 0, 1) := by decide +kernel
theorem dX5_makeTurn_123 : decode cX5_makeTurn 123 = .ok (.ireturn, 1) := by decide +kernel
theorem dX5_makeTurn_124 : decode cX5_makeTurn 124 = .ok (.aload_n 3, 1) := by decide +kernel
theorem dX5_makeTurn_125 : decode cX5_makeTurn 125 = .ok (.iload 5, 2) := by decide +kernel
theorem dX5_makeTurn_127 : decode cX5_makeTurn 127 = .ok (.iconst 1, 1) := by decide +kernel
theorem dX5_makeTurn_128 : decode cX5_makeTurn 128 = .ok (.iadd, 1) := by decide +kernel
theorem dX5_makeTurn_129 : decode cX5_makeTurn 129 = .ok (.aload_n 0, 1) := by decide +kernel
theorem dX5_makeTurn_130 : decode cX5_makeTurn 130 = .ok (.iload_n 1, 1) := by decide +kernel
theorem dX5_makeTurn_131 : decode cX5_makeTurn 131 = .ok (.iconst 1, 1) := by decide +kernel
theorem dX5_makeTurn_132 : decode cX5_makeTurn 132 = .ok (.isub, 1) := by decide +kernel
theorem dX5_makeTurn_133 : decode cX5_makeTurn 133 = .ok (.invokevirtual 110, 3) := by decide +kernel
theorem dX5_makeTurn_136 : decode cX5_makeTurn 136 = .ok (.invokestatic 277, 3) := by decide +kernel
theorem dX5_makeTurn_139 : decode cX5_makeTurn 139 = .ok (.putfield 150, 3) := by decide +kernel
theorem dX5_makeTurn_142 : decode cX5_makeTurn 142 = .ok (.aload 6, 2) := by decide +kernel
theorem dX5_makeTurn_144 : decode cX5_makeTurn 144 = .ok (.invokevirtual 280, 3) := by decide +kernel
theorem dX5_makeTurn_147 : decode cX5_makeTurn 147 = .ok (.istore 7, 2) := by decide +kernel
theorem dX5_makeTurn_149 : decode cX5_makeTurn 149 = .ok (.aload_n 0, 1) := by decide +kernel
theorem dX5_makeTurn_150 : decode cX5_makeTurn 150 = .ok (.aload 6, 2) := by decide +kernel
theorem dX5_makeTurn_152 : decode cX5_makeTurn 152 = .ok (.aload_n 3, 1) := by decide +kernel
theorem dX5_makeTurn_153 : decode cX5_makeTurn 153 = .ok (.iload 7, 2) := by decide +kernel
theorem dX5_makeTurn_155 : decode cX5_makeTurn 155 = .ok (.invokevirtual 283, 3) := by decide +kernel
theorem dX5_makeTurn_158 : decode cX5_makeTurn 158 = .ok (.aload_n 0, 1) := by decide +kernel
theorem dX5_makeTurn_159 : decode cX5_makeTurn 159 = .ok (.iload_n 1, 1) := by decide +kernel
theorem dX5_makeTurn_160 : decode cX5_makeTurn 160 = .ok (.iload 7, 2) := by decide +kernel
theorem dX5_makeTurn_162 : decode cX5_makeTurn 162 = .ok (.invokevirtual 287, 3) := by decide +kernel
theorem dX5_makeTurn_165 : decode cX5_makeTurn 165 = .ok (.iconst 1, 1) := by decide +kernel
theorem dX5_makeTurn_166 : decode cX5_makeTurn 166 = .ok (.ireturn, 1) := by decide +kernel
theorem dX5_readTurn_0 : decode cX5_readTurn 0 = .ok (.aload_n 0, 1) := by decide +kernel
theorem dX5_readTurn_1 : decode cX5_readTurn 1 = .ok (.getfield 16, 3) := by decide +kernel
theorem dX5_readTurn_4 : decode cX5_readTurn 4 = .ok (.iload_n 1, 1) := by decide +kernel
theorem dX5_readTurn_5 : decode cX5_readTurn 5 = .ok (.aload_n 0, 1) := by decide +kernel
theorem dX5_readTurn_6 : decode cX5_readTurn 6 = .ok (.iconst 0, 1) := by decide +kernel
theorem dX5_readTurn_7 : decode cX5_readTurn 7 = .ok (.invokevirtual 110, 3) := by decide +kernel
theorem dX5_readTurn_10 : decode cX5_readTurn 10 = .ok (.invokevirtual 291, 3) := by decide +kernel
theorem dX5_readTurn_13 : decode cX5_readTurn 13 = .ok (.istore_n 2, 1) := by decide +kernel
theorem dX5_readTurn_14 : decode cX5_readTurn 14 = .ok (.iload_n 2, 1) := by decide +kernel
theorem dX5_readTurn_15 : decode cX5_readTurn 15 = .ok (.iconst (-1), 1) := by decide +kernel
theorem dX5_readTurn_16 : decode cX5_readTurn 16 = .ok (.if_icmp .eq 12, 3) := by decide +kernel
theorem dX5_readTurn_19 : decode cX5_readTurn 19 = .ok (.aload_n 0, 1) := by decide +kernel
theorem dX5_readTurn_20 : decode cX5_readTurn 20 = .ok (.iconst 0, 1) := by decide +kernel
theorem dX5_readTurn_21 : decode cX5_readTurn 21 = .ok (.iload_n 2, 1) := by decide +kernel
theorem dX5_readTurn_22 : decode cX5_readTurn 22 = .ok (.invokevirtual 294, 3) := by decide +kernel
theorem dX5_readTurn_25 : decode cX5_readTurn 25 = .ok (.ifCond .ne 5, 3) := by decide +kernel
theorem dX5_readTurn_28 : decode cX5_readTurn 28 = .ok (.iconst 0, 1) := by decide +kernel
theorem dX5_readTurn_29 : decode cX5_readTurn 29 = .ok (.ireturn, 1) := by decide +kernel
theorem dX5_readTurn_30 : decode cX5_readTurn 30 = .ok (.aload_n 0, 1) := by decide +kernel
theorem dX5_readTurn_31 : decode cX5_readTurn 31 = .ok (.getfield 16, 3) := by decide +kernel
theorem dX5_readTurn_34 : decode cX5_readTurn 34 = .ok (.iload_n 2, 1) := by decide +kernel
theorem dX5_readTurn_35 : decode cX5_readTurn 35 = .ok (.invokevirtual 298, 3) := by decide +kernel
theorem dX5_readTurn_38 : decode cX5_readTurn 38 = .ok (.aload_n 0, 1) := by decide +kernel
theorem dX5_readTurn_39 : decode cX5_readTurn 39 = .ok (.iconst 0, 1) := by decide +kernel
theorem dX5_readTurn_40 : decode cX5_readTurn 40 = .ok (.iload_n 2, 1) := by decide +kernel
theorem dX5_readTurn_41 : decode cX5_readTurn 41 = .ok (.invokevirtual 287, 3) := by decide +kernel
theorem dX5_readTurn_44 : decode cX5_readTurn 44 = .ok (.iconst 1, 1) := by decide +kernel
theorem dX5_readTurn_45 : decode cX5_readTurn 45 = .ok (.ireturn, 1) := by decide +kernel
theorem dX5_channelWithBarrier_0 : decode cX5_channelWithBarrier 0 = .ok (.iconst 0, 1) := by decide +kernel
theorem dX5_channelWithBarrier_1 : decode cX5_channelWithBarrier 1 = .ok (.istore_n 3, 1) := by decide +kernel
theorem dX5_channelWithBarrier_2 : decode cX5_channelWithBarrier 2 = .ok (.iload_n 3, 1) := by decide +kernel
theorem dX5_channelWithBarrier_3 : decode cX5_channelWithBarrier 3 = .ok (.aload_n 0, 1) := by decide +kernel
theorem dX5_channelWithBarrier_4 : decode cX5_channelWithBarrier 4 = .ok (.iload_n 1, 1) := by decide +kernel
theorem dX5_channelWithBarrier_5 : decode cX5_channelWithBarrier 5 = .ok (.iconst 1, 1) := by decide +kernel
theorem dX5_channelWithBarrier_6 : decode cX5_channelWithBarrier 6 = .ok (.isub, 1) := by decide +kernel
theorem dX5_channelWithBarrier_7 : decode cX5_channelWithBarrier 7 = .ok (.invokevirtual 110, 3) := by decide +kernel
theorem dX5_channelWithBarrier_10 : decode cX5_channelWithBarrier 10 = .ok (.if_icmp .ge 36, 3) := by decide +kernel
theorem dX5_channelWithBarrier_13 : decode cX5_channelWithBarrier 13 = .ok (.aload_n 0, 1) := by decide +kernel
theorem dX5_channelWithBarrier_14 : decode cX5_channelWithBarrier 14 = .ok (.iload_n 1, 1) := by decide +kernel
theorem dX5_channelWithBarrier_15 : decode cX5_channelWithBarrier 15 = .ok (.iconst 1, 1) := by decide +kernel
theorem dX5_channelWithBarrier_16 : decode cX5_channelWithBarrier 16 = .ok (.isub, 1) := by decide +kernel
theorem dX5_channelWithBarrier_17 : decode cX5_channelWithBarrier 17 = .ok (.iload_n 3, 1) := by decide +kernel
theorem dX5_channelWithBarrier_18 : decode cX5_channelWithBarrier 18 = .ok (.iload_n 2, 1) := by decide +kernel
theorem dX5_channelWithBarrier_19 : decode cX5_channelWithBarrier 19 = .ok (.invokevirtual 185, 3) := by decide +kernel
theorem dX5_channelWithBarrier_22 : decode cX5_channelWithBarrier 22 = .ok (.astore 4, 2) := by decide +kernel
theorem dX5_channelWithBarrier_24 : decode cX5_channelWithBarrier 24 = .ok (.aload 4, 2) := by decide +kernel
theorem dX5_channelWithBarrier_26 : decode cX5_channelWithBarrier 26 = .ok (.ifnull 14, 3) := by decide +kernel
theorem dX5_channelWithBarrier_29 : decode cX5_channelWithBarrier 29 = .ok (.aload 4, 2) := by decide +kernel
theorem dX5_channelWithBarrier_31 : decode cX5_channelWithBarrier 31 = .ok (.getfield 192, 3) := by decide +kernel
theorem dX5_channelWithBarrier_34 : decode cX5_channelWithBarrier 34 = .ok (.ifCond .ne 6, 3) := by decide +kernel
theorem dX5_channelWithBarrier_37 : decode cX5_channelWithBarrier 37 = .ok (.aload 4, 2) := by decide +kernel
theorem dX5_channelWithBarrier_39 : decode cX5_channelWithBarrier 39 = .ok (.areturn, 1) := by decide +kernel
theorem dX5_channelWithBarrier_40 : decode cX5_channelWithBarrier 40 = .ok (.iinc 3 1, 3) := by decide +kernel
theorem dX5_channelWithBarrier_43 : decode cX5_channelWithBarrier 43 = .ok (.goto (-41), 3) := by decide +kernel
theorem dX5_channelWithBarrier_46 : decode cX5_channelWithBarrier 46 = .ok (.aconst_null, 1) := by decide +kernel
theorem dX5_channelWithBarrier_47 : decode cX5_channelWithBarrier 47 = .ok (.areturn, 1) := by decide +kernel
theorem dX5_channelToTake_0 : decode cX5_channelToTake 0 = .ok (.aload_n 0, 1) := by decide +kernel
theorem dX5_channelToTake_1 : decode cX5_channelToTake 1 = .ok (.iload_n 2, 1) := by decide +kernel
theorem dX5_channelToTake_2 : decode cX5_channelToTake 2 = .ok (.iconst 1, 1) := by decide +kernel
theorem dX5_channelToTake_3 : decode cX5_channelToTake 3 = .ok (.isub, 1) := by decide +kernel
theorem dX5_channelToTake_4 : decode cX5_channelToTake 4 = .ok (.invokevirtual 110, 3) := by decide +kernel
theorem dX5_channelToTake_7 : decode cX5_channelToTake 7 = .ok (.istore 4, 2) := by decide +kernel
theorem dX5_channelToTake_9 : decode cX5_channelToTake 9 = .ok (.iconst 0, 1) := by decide +kernel
theorem dX5_channelToTake_10 : decode cX5_channelToTake 10 = .ok (.istore 5, 2) := by decide +kernel
theorem dX5_channelToTake_12 : decode cX5_channelToTake 12 = .ok (.iload 5, 2) := by decide +kernel
theorem dX5_channelToTake_14 : decode cX5_channelToTake 14 = .ok (.iload 4, 2) := by decide +kernel
theorem dX5_channelToTake_16 : decode cX5_channelToTake 16 = .ok (.if_icmp .ge 74, 3) := by decide +kernel
theorem dX5_channelToTake_19 : decode cX5_channelToTake 19 = .ok (.aload_n 1, 1) := by decide +kernel
theorem dX5_channelToTake_20 : decode cX5_channelToTake 20 = .ok (.getfield 150, 3) := by decide +kernel
theorem dX5_channelToTake_23 : decode cX5_channelToTake 23 = .ok (.iload 5, 2) := by decide +kernel
theorem dX5_channelToTake_25 : decode cX5_channelToTake 25 = .ok (.iadd, 1) := by decide +kernel
theorem dX5_channelToTake_26 : decode cX5_channelToTake 26 = .ok (.iload 4, 2) := by decide +kernel
theorem dX5_channelToTake_28 : decode cX5_channelToTake 28 = .ok (.invokestatic 277, 3) := by decide +kernel
theorem dX5_channelToTake_31 : decode cX5_channelToTake 31 = .ok (.istore 6, 2) := by decide +kernel
theorem dX5_channelToTake_33 : decode cX5_channelToTake 33 = .ok (.aload_n 0, 1) := by decide +kernel
theorem dX5_channelToTake_34 : decode cX5_channelToTake 34 = .ok (.iload_n 2, 1) := by decide +kernel
theorem dX5_channelToTake_35 : decode cX5_channelToTake 35 = .ok (.iconst 1, 1) := by decide +kernel
theorem dX5_channelToTake_36 : decode cX5_channelToTake 36 = .ok (.isub, 1) := by decide +kernel
theorem dX5_channelToTake_37 : decode cX5_channelToTake 37 = .ok (.iload 6, 2) := by decide +kernel
theorem dX5_channelToTake_39 : decode cX5_channelToTake 39 = .ok (.iload_n 3, 1) := by decide +kernel
theorem dX5_channelToTake_40 : decode cX5_channelToTake 40 = .ok (.invokevirtual 185, 3) := by decide +kernel
theorem dX5_channelToTake_43 : decode cX5_channelToTake 43 = .ok (.astore 7, 2) := by decide +kernel
theorem dX5_channelToTake_45 : decode cX5_channelToTake 45 = .ok (.aload 7, 2) := by decide +kernel
theorem dX5_channelToTake_47 : decode cX5_channelToTake 47 = .ok (.ifnull 37, 3) := by decide +kernel
theorem dX5_channelToTake_50 : decode cX5_channelToTake 50 = .ok (.aload 7, 2) := by decide +kernel
theorem dX5_channelToTake_52 : decode cX5_channelToTake 52 = .ok (.invokevirtual 301, 3) := by decide +kernel
theorem dX5_channelToTake_55 : decode cX5_channelToTake 55 = .ok (.ifCond .eq 29, 3) := by decide +kernel
theorem dX5_channelToTake_58 : decode cX5_channelToTake 58 = .ok (.aload 7, 2) := by decide +kernel
theorem dX5_channelToTake_60 : decode cX5_channelToTake 60 = .ok (.aload_n 1, 1) := by decide +kernel
theorem dX5_channelToTake_61 : decode cX5_channelToTake 61 = .ok (.invokestatic 197, 3) := by decide +kernel
theorem dX5_channelToTake_64 : decode cX5_channelToTake 64 = .ok (.ifCond .ne 20, 3) := by decide +kernel
theorem dX5_channelToTake_67 : decode cX5_channelToTake 67 = .ok (.aload_n 0, 1) := by decide +kernel
theorem dX5_channelToTake_68 : decode cX5_channelToTake 68 = .ok (.iload_n 2, 1) := by decide +kernel
theorem dX5_channelToTake_69 : decode cX5_channelToTake 69 = .ok (.aload 7, 2) := by decide +kernel
theorem dX5_channelToTake_71 : decode cX5_channelToTake 71 = .ok (.iconst 0, 1) := by decide +kernel
theorem dX5_channelToTake_72 : decode cX5_channelToTake 72 = .ok (.invokevirtual 201, 3) := by decide +kernel
theorem dX5_channelToTake_75 : decode cX5_channelToTake 75 = .ok (.invokevirtual 294, 3) := by decide +kernel
theorem dX5_channelToTake_78 : decode cX5_channelToTake 78 = .ok (.ifCond .eq 6, 3) := by decide +kernel
theorem dX5_channelToTake_81 : decode cX5_channelToTake 81 = .ok (.iload 6, 2) := by decide +kernel
theorem dX5_channelToTake_83 : decode cX5_channelToTake 83 = .ok (.ireturn, 1) := by decide +kernel
theorem dX5_channelToTake_84 : decode cX5_channelToTake 84 = .ok (.iinc 5 1, 3) := by decide +kernel
theorem dX5_channelToTake_87 : decode cX5_channelToTake 87 = .ok (.goto (-75), 3) := by decide +kernel
theorem dX5_channelToTake_90 : decode cX5_channelToTake 90 = .ok (.iconst (-1), 1) := by decide +kernel
theorem dX5_channelToTake_91 : decode cX5_channelToTake 91 = .ok (.ireturn, 1) := by decide +kernel
theorem dX5_canGoOn_0 : decode cX5_canGoOn 0 = .ok (.aload_n 0, 1) := by decide +kernel
theorem dX5_canGoOn_1 : decode cX5_canGoOn 1 = .ok (.iload_n 1, 1) := by decide +kernel
theorem dX5_canGoOn_2 : decode cX5_canGoOn 2 = .ok (.aload_n 0, 1) := by decide +kernel
theorem dX5_canGoOn_3 : decode cX5_canGoOn 3 = .ok (.getfield 16, 3) := by decide +kernel
theorem dX5_canGoOn_6 : decode cX5_canGoOn 6 = .ok (.iload_n 2, 1) := by decide +kernel
theorem dX5_canGoOn_7 : decode cX5_canGoOn 7 = .ok (.invokevirtual 204, 3) := by decide +kernel
theorem dX5_canGoOn_10 : decode cX5_canGoOn 10 = .ok (.invokevirtual 304, 3) := by decide +kernel
theorem dX5_canGoOn_13 : decode cX5_canGoOn 13 = .ok (.astore_n 3, 1) := by decide +kernel
theorem dX5_canGoOn_14 : decode cX5_canGoOn 14 = .ok (.aload_n 3, 1) := by decide +kernel
theorem dX5_canGoOn_15 : decode cX5_canGoOn 15 = .ok (.ifnull 14, 3) := by decide +kernel
theorem dX5_canGoOn_18 : decode cX5_canGoOn 18 = .ok (.aload_n 3, 1) := by decide +kernel
theorem dX5_canGoOn_19 : decode cX5_canGoOn 19 = .ok (.getfield 189, 3) := by decide +kernel
theorem dX5_canGoOn_22 : decode cX5_canGoOn 22 = .ok (.aload_n 0, 1) := by decide +kernel
theorem dX5_canGoOn_23 : decode cX5_canGoOn 23 = .ok (.getfield 46, 3) := by decide +kernel
theorem dX5_canGoOn_26 : decode cX5_canGoOn 26 = .ok (.if_icmp .ge 7, 3) := by decide +kernel
theorem dX5_canGoOn_29 : decode cX5_canGoOn 29 = .ok (.iconst 1, 1) := by decide +kernel
theorem dX5_canGoOn_30 : decode cX5_canGoOn 30 = .ok (.goto 4, 3) := by decide +kernel
theorem dX5_canGoOn_33 : decode cX5_canGoOn 33 = .ok (.iconst 0, 1) := by decide +kernel
theorem dX5_canGoOn_34 : decode cX5_canGoOn 34 = .ok (.ireturn, 1) := by decide +kernel
theorem dX5_passRow_0 : decode cX5_passRow 0 = .ok (.aload_n 0, 1) := by decide +kernel
theorem dX5_passRow_1 : decode cX5_passRow 1 = .ok (.getfield 16, 3) := by decide +kernel
theorem dX5_passRow_4 : decode cX5_passRow 4 = .ok (.iload_n 2, 1) := by decide +kernel
theorem dX5_passRow_5 : decode cX5_passRow 5 = .ok (.invokevirtual 204, 3) := by decide +kernel
theorem dX5_passRow_8 : decode cX5_passRow 8 = .ok (.istore_n 3, 1) := by decide +kernel
theorem dX5_passRow_9 : decode cX5_passRow 9 = .ok (.aload_n 0, 1) := by decide +kernel
theorem dX5_passRow_10 : decode cX5_passRow 10 = .ok (.getfield 23, 3) := by decide +kernel
theorem dX5_passRow_13 : decode cX5_passRow 13 = .ok (.iload_n 1, 1) := by decide +kernel
theorem dX5_passRow_14 : decode cX5_passRow 14 = .ok (.iload_n 3, 1) := by decide +kernel
theorem dX5_passRow_15 : decode cX5_passRow 15 = .ok (.aload_n 0, 1) := by decide +kernel
theorem dX5_passRow_16 : decode cX5_passRow 16 = .ok (.getfield 16, 3) := by decide +kernel
theorem dX5_passRow_19 : decode cX5_passRow 19 = .ok (.iload_n 2, 1) := by decide +kernel
theorem dX5_passRow_20 : decode cX5_passRow 20 = .ok (.invokevirtual 207, 3) := by decide +kernel
theorem dX5_passRow_23 : decode cX5_passRow 23 = .ok (.invokevirtual 307, 3) := by decide +kernel
theorem dX5_passRow_26 : decode cX5_passRow 26 = .ok (.aload_n 0, 1) := by decide +kernel
theorem dX5_passRow_27 : decode cX5_passRow 27 = .ok (.iload_n 1, 1) := by decide +kernel
theorem dX5_passRow_28 : decode cX5_passRow 28 = .ok (.iload_n 3, 1) := by decide +kernel
theorem dX5_passRow_29 : decode cX5_passRow 29 = .ok (.invokevirtual 304, 3) := by decide +kernel
theorem dX5_passRow_32 : decode cX5_passRow 32 = .ok (.astore 4, 2) := by decide +kernel
theorem dX5_passRow_34 : decode cX5_passRow 34 = .ok (.aload 4, 2) := by decide +kernel
theorem dX5_passRow_36 : decode cX5_passRow 36 = .ok (.ifnull 9, 3) := by decide +kernel
theorem dX5_passRow_39 : decode cX5_passRow 39 = .ok (.aload 4, 2) := by decide +kernel
theorem dX5_passRow_41 : decode cX5_passRow 41 = .ok (.iload_n 2, 1) := by decide +kernel
theorem dX5_passRow_42 : decode cX5_passRow 42 = .ok (.invokevirtual 311, 3) := by decide +kernel
theorem dX5_passRow_45 : decode cX5_passRow 45 = .ok (.return_, 1) := by decide +kernel
theorem dX5_isShut_0 : decode cX5_isShut 0 = .ok (.aload_n 0, 1) := by decide +kernel
theorem dX5_isShut_1 : decode cX5_isShut 1 = .ok (.getfield 195, 3) := by decide +kernel
theorem dX5_isShut_4 : decode cX5_isShut 4 = .ok (.ifCond .eq 18, 3) := by decide +kernel
theorem dX5_isShut_7 : decode cX5_isShut 7 = .ok (.aload_n 1, 1) := by decide +kernel
theorem dX5_isShut_8 : decode cX5_isShut 8 = .ok (.ifnull 14, 3) := by decide +kernel
theorem dX5_isShut_11 : decode cX5_isShut 11 = .ok (.aload_n 1, 1) := by decide +kernel
theorem dX5_isShut_12 : decode cX5_isShut 12 = .ok (.invokevirtual 178, 3) := by decide +kernel
theorem dX5_isShut_15 : decode cX5_isShut 15 = .ok (.ifCond .eq 7, 3) := by decide +kernel
theorem dX5_isShut_18 : decode cX5_isShut 18 = .ok (.iconst 1, 1) := by decide +kernel
theorem dX5_isShut_19 : decode cX5_isShut 19 = .ok (.goto 4, 3) := by decide +kernel
theorem dX5_isShut_22 : decode cX5_isShut 22 = .ok (.iconst 0, 1) := by decide +kernel
theorem dX5_isShut_23 : decode cX5_isShut 23 = .ok (.ireturn, 1) := by decide +kernel
theorem dX5_takeBarrier_0 : decode cX5_takeBarrier 0 = .ok (.aload_n 0, 1) := by decide +kernel
theorem dX5_takeBarrier_1 : decode cX5_takeBarrier 1 = .ok (.iload_n 2, 1) := by decide +kernel
theorem dX5_takeBarrier_2 : decode cX5_takeBarrier 2 = .ok (.iload_n 3, 1) := by decide +kernel
theorem dX5_takeBarrier_3 : decode cX5_takeBarrier 3 = .ok (.invokevirtual 103, 3) := by decide +kernel
theorem dX5_takeBarrier_6 : decode cX5_takeBarrier 6 = .ok (.astore 4, 2) := by decide +kernel
theorem dX5_takeBarrier_8 : decode cX5_takeBarrier 8 = .ok (.aload 4, 2) := by decide +kernel
theorem dX5_takeBarrier_10 : decode cX5_takeBarrier 10 = .ok (.ifnonnull 4, 3) := by decide +kernel
theorem dX5_takeBarrier_13 : decode cX5_takeBarrier 13 = .ok (.return_, 1) := by decide +kernel
theorem dX5_takeBarrier_14 : decode cX5_takeBarrier 14 = .ok (.aload_n 1, 1) := by decide +kernel
theorem dX5_takeBarrier_15 : decode cX5_takeBarrier 15 = .ok (.iconst (-1), 1) := by decide +kernel
theorem dX5_takeBarrier_16 : decode cX5_takeBarrier 16 = .ok (.putfield 192, 3) := by decide +kernel
theorem dX5_takeBarrier_19 : decode cX5_takeBarrier 19 = .ok (.aload_n 1, 1) := by decide +kernel
theorem dX5_takeBarrier_20 : decode cX5_takeBarrier 20 = .ok (.iconst 1, 1) := by decide +kernel
theorem dX5_takeBarrier_21 : decode cX5_takeBarrier 21 = .ok (.putfield 195, 3) := by decide +kernel
theorem dX5_takeBarrier_24 : decode cX5_takeBarrier 24 = .ok (.aload 4, 2) := by decide +kernel
theorem dX5_takeBarrier_26 : decode cX5_takeBarrier 26 = .ok (.aload_n 0, 1) := by decide +kernel
theorem dX5_takeBarrier_27 : decode cX5_takeBarrier 27 = .ok (.getfield 43, 3) := by decide +kernel
theorem dX5_takeBarrier_30 : decode cX5_takeBarrier 30 = .ok (.invokevirtual 313, 3) := by decide +kernel
theorem dX5_takeBarrier_33 : decode cX5_takeBarrier 33 = .ok (.aload 4, 2) := by decide +kernel
theorem dX5_takeBarrier_35 : decode cX5_takeBarrier 35 = .ok (.getfield 174, 3) := by decide +kernel
theorem dX5_takeBarrier_38 : decode cX5_takeBarrier 38 = .ok (.ifCond .ne 49, 3) := by decide +kernel
theorem dX5_takeBarrier_41 : decode cX5_takeBarrier 41 = .ok (.aload_n 1, 1) := by decide +kernel
theorem dX5_takeBarrier_42 : decode cX5_takeBarrier 42 = .ok (.getfield 316, 3) := by decide +kernel
theorem dX5_takeBarrier_45 : decode cX5_takeBarrier 45 = .ok (.ifCond .ne 10, 3) := by decide +kernel
theorem dX5_takeBarrier_48 : decode cX5_takeBarrier 48 = .ok (.aload_n 0, 1) := by decide +kernel
theorem dX5_takeBarrier_49 : decode cX5_takeBarrier 49 = .ok (.getfield 49, 3) := by decide +kernel
theorem dX5_takeBarrier_52 : decode cX5_takeBarrier 52 = .ok (.ifCond .ne 13, 3) := by decide +kernel
theorem dX5_takeBarrier_55 : decode cX5_takeBarrier 55 = .ok (.aload_n 0, 1) := by decide +kernel
theorem dX5_takeBarrier_56 : decode cX5_takeBarrier 56 = .ok (.iload_n 2, 1) := by decide +kernel
theorem dX5_takeBarrier_57 : decode cX5_takeBarrier 57 = .ok (.iload_n 3, 1) := by decide +kernel
theorem dX5_takeBarrier_58 : decode cX5_takeBarrier 58 = .ok (.iconst 1, 1) := by decide +kernel
theorem dX5_takeBarrier_59 : decode cX5_takeBarrier 59 = .ok (.invokevirtual 116, 3) := by decide +kernel
theorem dX5_takeBarrier_62 : decode cX5_takeBarrier 62 = .ok (.goto 25, 3) := by decide +kernel
theorem dX5_takeBarrier_65 : decode cX5_takeBarrier 65 = .ok (.aload 4, 2) := by decide +kernel
theorem dX5_takeBarrier_67 : decode cX5_takeBarrier 67 = .ok (.getfield 182, 3) := by decide +kernel
theorem dX5_takeBarrier_70 : decode cX5_takeBarrier 70 = .ok (.aload_n 0, 1) := by decide +kernel
theorem dX5_takeBarrier_71 : decode cX5_takeBarrier 71 = .ok (.iload_n 2, 1) := by decide +kernel
theorem dX5_takeBarrier_72 : decode cX5_takeBarrier 72 = .ok (.iconst 1, 1) := by decide +kernel
theorem dX5_takeBarrier_73 : decode cX5_takeBarrier 73 = .ok (.isub, 1) := by decide +kernel
theorem dX5_takeBarrier_74 : decode cX5_takeBarrier 74 = .ok (.invokevirtual 110, 3) := by decide +kernel
theorem dX5_takeBarrier_77 : decode cX5_takeBarrier 77 = .ok (.if_icmp .ne 10, 3) := by decide +kernel
theorem dX5_takeBarrier_80 : decode cX5_takeBarrier 80 = .ok (.aload_n 0, 1) := by decide +kernel
theorem dX5_takeBarrier_81 : decode cX5_takeBarrier 81 = .ok (.iload_n 2, 1) := by decide +kernel
theorem dX5_takeBarrier_82 : decode cX5_takeBarrier 82 = .ok (.iload_n 3, 1) := by decide +kernel
theorem dX5_takeBarrier_83 : decode cX5_takeBarrier 83 = .ok (.iconst 0, 1) := by decide +kernel
theorem dX5_takeBarrier_84 : decode cX5_takeBarrier 84 = .ok (.invokevirtual 116, 3) := by decide +kernel
theorem dX5_takeBarrier_87 : decode cX5_takeBarrier 87 = .ok (.aload_n 0, 1) := by decide +kernel
theorem dX5_takeBarrier_88 : decode cX5_takeBarrier 88 = .ok (.getfield 40, 3) := by decide +kernel
theorem dX5_takeBarrier_91 : decode cX5_takeBarrier 91 = .ok (.iconst (-1), 1) := by decide +kernel
theorem dX5_takeBarrier_92 : decode cX5_takeBarrier 92 = .ok (.if_icmp .eq 15, 3) := by decide +kernel
theorem dX5_takeBarrier_95 : decode cX5_takeBarrier 95 = .ok (.aload_n 0, 1) := by decide +kernel
theorem dX5_takeBarrier_96 : decode cX5_takeBarrier 96 = .ok (.invokevirtual 319, 3) := by decide +kernel
theorem dX5_takeBarrier_99 : decode cX5_takeBarrier 99 = .ok (.ifCond .eq 8, 3) := by decide +kernel
theorem dX5_takeBarrier_102 : decode cX5_takeBarrier 102 = .ok (.aload_n 0, 1) := by decide +kernel
theorem dX5_takeBarrier_103 : decode cX5_takeBarrier 103 = .ok (.iconst 1, 1) := by decide +kernel
theorem dX5_takeBarrier_104 : decode cX5_takeBarrier 104 = .ok (.invokevirtual 120, 3) := by decide +kernel
theorem dX5_takeBarrier_107 : decode cX5_takeBarrier 107 = .ok (.return_, 1) := by decide +kernel
theorem dX5_takePart_0 : decode cX5_takePart 0 = .ok (.aload_n 0, 1) := by decide +kernel
theorem dX5_takePart_1 : decode cX5_takePart 1 = .ok (.aload_n 0, 1) := by decide +kernel
theorem dX5_takePart_2 : decode cX5_takePart 2 = .ok (.getfield 40, 3) := by decide +kernel
theorem dX5_takePart_5 : decode cX5_takePart 5 = .ok (.invokevirtual 124, 3) := by decide +kernel
theorem dX5_takePart_8 : decode cX5_takePart 8 = .ok (.astore 4, 2) := by decide +kernel
theorem dX5_takePart_10 : decode cX5_takePart 10 = .ok (.aload_n 0, 1) := by decide +kernel
theorem dX5_takePart_11 : decode cX5_takePart 11 = .ok (.iload_n 1, 1) := by decide +kernel
theorem dX5_takePart_12 : decode cX5_takePart 12 = .ok (.iload_n 2, 1) := by decide +kernel
theorem dX5_takePart_13 : decode cX5_takePart 13 = .ok (.invokevirtual 103, 3) := by decide +kernel
theorem dX5_takePart_16 : decode cX5_takePart 16 = .ok (.astore 5, 2) := by decide +kernel
theorem dX5_takePart_18 : decode cX5_takePart 18 = .ok (.aload 4, 2) := by decide +kernel
theorem dX5_takePart_20 : decode cX5_takePart 20 = .ok (.ifnull 8, 3) := by decide +kernel
theorem dX5_takePart_23 : decode cX5_takePart 23 = .ok (.aload 5, 2) := by decide +kernel
theorem dX5_takePart_25 : decode cX5_takePart 25 = .ok (.ifnonnull 4, 3) := by decide +kernel
theorem dX5_takePart_28 : decode cX5_takePart 28 = .ok (.return_, 1) := by decide +kernel
theorem dX5_takePart_29 : decode cX5_takePart 29 = .ok (.aload 5, 2) := by decide +kernel
theorem dX5_takePart_31 : decode cX5_takePart 31 = .ok (.iconst 1, 1) := by decide +kernel
theorem dX5_takePart_32 : decode cX5_takePart 32 = .ok (.putfield 174, 3) := by decide +kernel
theorem dX5_takePart_35 : decode cX5_takePart 35 = .ok (.aload 4, 2) := by decide +kernel
theorem dX5_takePart_37 : decode cX5_takePart 37 = .ok (.getfield 139, 3) := by decide +kernel
theorem dX5_takePart_40 : decode cX5_takePart 40 = .ok (.aload_n 0, 1) := by decide +kernel
theorem dX5_takePart_41 : decode cX5_takePart 41 = .ok (.getfield 23, 3) := by decide +kernel
theorem dX5_takePart_44 : decode cX5_takePart 44 = .ok (.iload_n 1, 1) := by decide +kernel
theorem dX5_takePart_45 : decode cX5_takePart 45 = .ok (.iload_n 2, 1) := by decide +kernel
theorem dX5_takePart_46 : decode cX5_takePart 46 = .ok (.aload_n 0, 1) := by decide +kernel
theorem dX5_takePart_47 : decode cX5_takePart 47 = .ok (.iload_n 1, 1) := by decide +kernel
theorem dX5_takePart_48 : decode cX5_takePart 48 = .ok (.invokevirtual 110, 3) := by decide +kernel
theorem dX5_takePart_51 : decode cX5_takePart 51 = .ok (.invokevirtual 322, 3) := by decide +kernel
theorem dX5_takePart_54 : decode cX5_takePart 54 = .ok (.iconst 0, 1) := by decide +kernel
theorem dX5_takePart_55 : decode cX5_takePart 55 = .ok (.istore 6, 2) := by decide +kernel
theorem dX5_takePart_57 : decode cX5_takePart 57 = .ok (.iload 6, 2) := by decide +kernel
theorem dX5_takePart_59 : decode cX5_takePart 59 = .ok (.aload_n 0, 1) := by decide +kernel
theorem dX5_takePart_60 : decode cX5_takePart 60 = .ok (.iload_n 1, 1) := by decide +kernel
theorem dX5_takePart_61 : decode cX5_takePart 61 = .ok (.iconst 1, 1) := by decide +kernel
theorem dX5_takePart_62 : decode cX5_takePart 62 = .ok (.iadd, 1) := by decide +kernel
theorem dX5_takePart_63 : decode cX5_takePart 63 = .ok (.invokevirtual 110, 3) := by decide +kernel
theorem dX5_takePart_66 : decode cX5_takePart 66 = .ok (.if_icmp .ge 66, 3) := by decide +kernel
theorem dX5_takePart_69 : decode cX5_takePart 69 = .ok (.aload_n 0, 1) := by decide +kernel
theorem dX5_takePart_70 : decode cX5_takePart 70 = .ok (.iload_n 1, 1) := by decide +kernel
theorem dX5_takePart_71 : decode cX5_takePart 71 = .ok (.iload_n 2, 1) := by decide +kernel
theorem dX5_takePart_72 : decode cX5_takePart 72 = .ok (.iload 6, 2) := by decide +kernel
theorem dX5_takePart_74 : decode cX5_takePart 74 = .ok (.invokevirtual 185, 3) := by decide +kernel
theorem dX5_takePart_77 : decode cX5_takePart 77 = .ok (.astore 7, 2) := by decide +kernel
theorem dX5_takePart_79 : decode cX5_takePart 79 = .ok (.aload 7, 2) := by decide +kernel
theorem dX5_takePart_81 : decode cX5_takePart 81 = .ok (.ifnonnull 6, 3) := by decide +kernel
theorem dX5_takePart_84 : decode cX5_takePart 84 = .ok (.goto 42, 3) := by decide +kernel
theorem dX5_takePart_87 : decode cX5_takePart 87 = .ok (.iload_n 3, 1) := by decide +kernel
theorem dX5_takePart_88 : decode cX5_takePart 88 = .ok (.ifCond .eq 20, 3) := by decide +kernel
theorem dX5_takePart_91 : decode cX5_takePart 91 = .ok (.aload_n 0, 1) := by decide +kernel
theorem dX5_takePart_92 : decode cX5_takePart 92 = .ok (.aload 4, 2) := by decide +kernel
theorem dX5_takePart_94 : decode cX5_takePart 94 = .ok (.aload 7, 2) := by decide +kernel
theorem dX5_takePart_96 : decode cX5_takePart 96 = .ok (.invokevirtual 326, 3) := by decide +kernel
theorem dX5_takePart_99 : decode cX5_takePart 99 = .ok (.ifCond .ne 9, 3) := by decide +kernel
theorem dX5_takePart_102 : decode cX5_takePart 102 = .ok (.aload_n 0, 1) := by decide +kernel
theorem dX5_takePart_103 : decode cX5_takePart 103 = .ok (.iconst 2, 1) := by decide +kernel
theorem dX5_takePart_104 : decode cX5_takePart 104 = .ok (.invokevirtual 120, 3) := by decide +kernel
theorem dX5_takePart_107 : decode cX5_takePart 107 = .ok (.return_, 1) := by decide +kernel
theorem dX5_takePart_108 : decode cX5_takePart 108 = .ok (.aload 7, 2) := by decide +kernel
theorem dX5_takePart_110 : decode cX5_takePart 110 = .ok (.iload_n 3, 1) := by decide +kernel
theorem dX5_takePart_111 : decode cX5_takePart 111 = .ok (.ifCond .eq 7, 3) := by decide +kernel
theorem dX5_takePart_114 : decode cX5_takePart 114 = .ok (.iconst 0, 1) := by decide +kernel
theorem dX5_takePart_115 : decode cX5_takePart 115 = .ok (.goto 8, 3) := by decide +kernel
theorem dX5_takePart_118 : decode cX5_takePart 118 = .ok (.aload 7, 2) := by decide +kernel
theorem dX5_takePart_120 : decode cX5_takePart 120 = .ok (.getfield 189, 3) := by decide +kernel
theorem dX5_takePart_123 : decode cX5_takePart 123 = .ok (.putfield 192, 3) := by decide +kernel
theorem dX5_takePart_126 : decode cX5_takePart 126 = .ok (.iinc 6 1, 3) := by decide +kernel
theorem dX5_takePart_129 : decode cX5_takePart 129 = .ok (.goto (-72), 3) := by decide +kernel
theorem dX5_takePart_132 : decode cX5_takePart 132 = .ok (.return_, 1) := by decide +kernel
theorem dX5_keepTaken_0 : decode cX5_keepTaken 0 = .ok (.aload_n 0, 1) := by decide +kernel
theorem dX5_keepTaken_1 : decode cX5_keepTaken 1 = .ok (.aload_n 0, 1) := by decide +kernel
theorem dX5_keepTaken_2 : decode cX5_keepTaken 2 = .ok (.getfield 40, 3) := by decide +kernel
theorem dX5_keepTaken_5 : decode cX5_keepTaken 5 = .ok (.invokevirtual 124, 3) := by decide +kernel
theorem dX5_keepTaken_8 : decode cX5_keepTaken 8 = .ok (.astore 4, 2) := by decide +kernel
theorem dX5_keepTaken_10 : decode cX5_keepTaken 10 = .ok (.aload 4, 2) := by decide +kernel
theorem dX5_keepTaken_12 : decode cX5_keepTaken 12 = .ok (.ifnull 17, 3) := by decide +kernel
theorem dX5_keepTaken_15 : decode cX5_keepTaken 15 = .ok (.aload_n 2, 1) := by decide +kernel
theorem dX5_keepTaken_16 : decode cX5_keepTaken 16 = .ok (.getfield 174, 3) := by decide +kernel
theorem dX5_keepTaken_19 : decode cX5_keepTaken 19 = .ok (.ifCond .eq 10, 3) := by decide +kernel
theorem dX5_keepTaken_22 : decode cX5_keepTaken 22 = .ok (.aload_n 1, 1) := by decide +kernel
theorem dX5_keepTaken_23 : decode cX5_keepTaken 23 = .ok (.getfield 195, 3) := by decide +kernel
theorem dX5_keepTaken_26 : decode cX5_keepTaken 26 = .ok (.ifCond .eq 4, 3) := by decide +kernel
theorem dX5_keepTaken_29 : decode cX5_keepTaken 29 = .ok (.return_, 1) := by decide +kernel
theorem dX5_keepTaken_30 : decode cX5_keepTaken 30 = .ok (.aload 4, 2) := by decide +kernel
theorem dX5_keepTaken_32 : decode cX5_keepTaken 32 = .ok (.aload_n 1, 1) := by decide +kernel
theorem dX5_keepTaken_33 : decode cX5_keepTaken 33 = .ok (.invokevirtual 330, 3) := by decide +kernel
theorem dX5_keepTaken_36 : decode cX5_keepTaken 36 = .ok (.aload 4, 2) := by decide +kernel
theorem dX5_keepTaken_38 : decode cX5_keepTaken 38 = .ok (.aload_n 1, 1) := by decide +kernel
theorem dX5_keepTaken_39 : decode cX5_keepTaken 39 = .ok (.iload_n 3, 1) := by decide +kernel
theorem dX5_keepTaken_40 : decode cX5_keepTaken 40 = .ok (.aload_n 0, 1) := by decide +kernel
theorem dX5_keepTaken_41 : decode cX5_keepTaken 41 = .ok (.getfield 52, 3) := by decide +kernel
theorem dX5_keepTaken_44 : decode cX5_keepTaken 44 = .ok (.invokevirtual 333, 3) := by decide +kernel
theorem dX5_keepTaken_47 : decode cX5_keepTaken 47 = .ok (.ifCond .ne 8, 3) := by decide +kernel
theorem dX5_keepTaken_50 : decode cX5_keepTaken 50 = .ok (.aload_n 0, 1) := by decide +kernel
theorem dX5_keepTaken_51 : decode cX5_keepTaken 51 = .ok (.iconst 2, 1) := by decide +kernel
theorem dX5_keepTaken_52 : decode cX5_keepTaken 52 = .ok (.invokevirtual 120, 3) := by decide +kernel
theorem dX5_keepTaken_55 : decode cX5_keepTaken 55 = .ok (.return_, 1) := by decide +kernel
theorem dX5_overtake_0 : decode cX5_overtake 0 = .ok (.aload_n 1, 1) := by decide +kernel
theorem dX5_overtake_1 : decode cX5_overtake 1 = .ok (.aload_n 2, 1) := by decide +kernel
theorem dX5_overtake_2 : decode cX5_overtake 2 = .ok (.invokevirtual 330, 3) := by decide +kernel
theorem dX5_overtake_5 : decode cX5_overtake 5 = .ok (.aload_n 2, 1) := by decide +kernel
theorem dX5_overtake_6 : decode cX5_overtake 6 = .ok (.getfield 337, 3) := by decide +kernel
theorem dX5_overtake_9 : decode cX5_overtake 9 = .ok (.istore_n 3, 1) := by decide +kernel
theorem dX5_overtake_10 : decode cX5_overtake 10 = .ok (.iconst 0, 1) := by decide +kernel
theorem dX5_overtake_11 : decode cX5_overtake 11 = .ok (.istore 4, 2) := by decide +kernel
theorem dX5_overtake_13 : decode cX5_overtake 13 = .ok (.iload 4, 2) := by decide +kernel
theorem dX5_overtake_15 : decode cX5_overtake 15 = .ok (.aload_n 2, 1) := by decide +kernel
theorem dX5_overtake_16 : decode cX5_overtake 16 = .ok (.getfield 189, 3) := by decide +kernel
theorem dX5_overtake_19 : decode cX5_overtake 19 = .ok (.if_icmp .ge 30, 3) := by decide +kernel
theorem dX5_overtake_22 : decode cX5_overtake 22 = .ok (.aload_n 1, 1) := by decide +kernel
theorem dX5_overtake_23 : decode cX5_overtake 23 = .ok (.aload_n 2, 1) := by decide +kernel
theorem dX5_overtake_24 : decode cX5_overtake 24 = .ok (.iload_n 3, 1) := by decide +kernel
theorem dX5_overtake_25 : decode cX5_overtake 25 = .ok (.aload_n 0, 1) := by decide +kernel
theorem dX5_overtake_26 : decode cX5_overtake 26 = .ok (.getfield 52, 3) := by decide +kernel
theorem dX5_overtake_29 : decode cX5_overtake 29 = .ok (.invokevirtual 333, 3) := by decide +kernel
theorem dX5_overtake_32 : decode cX5_overtake 32 = .ok (.ifCond .ne 5, 3) := by decide +kernel
theorem dX5_overtake_35 : decode cX5_overtake 35 = .ok (.iconst 0, 1) := by decide +kernel
theorem dX5_overtake_36 : decode cX5_overtake 36 = .ok (.ireturn, 1) := by decide +kernel
theorem dX5_overtake_37 : decode cX5_overtake 37 = .ok (.aload_n 2, 1) := by decide +kernel
theorem dX5_overtake_38 : decode cX5_overtake 38 = .ok (.iload_n 3, 1) := by decide +kernel
theorem dX5_overtake_39 : decode cX5_overtake 39 = .ok (.invokevirtual 340, 3) := by decide +kernel
theorem dX5_overtake_42 : decode cX5_overtake 42 = .ok (.istore_n 3, 1) := by decide +kernel
theorem dX5_overtake_43 : decode cX5_overtake 43 = .ok (.iinc 4 1, 3) := by decide +kernel
theorem dX5_overtake_46 : decode cX5_overtake 46 = .ok (.goto (-33), 3) := by decide +kernel
theorem dX5_overtake_49 : decode cX5_overtake 49 = .ok (.iconst 1, 1) := by decide +kernel
theorem dX5_overtake_50 : decode cX5_overtake 50 = .ok (.ireturn, 1) := by decide +kernel
theorem dX5_isComplete_0 : decode cX5_isComplete 0 = .ok (.iconst 0, 1) := by decide +kernel
theorem dX5_isComplete_1 : decode cX5_isComplete 1 = .ok (.istore_n 1, 1) := by decide +kernel
theorem dX5_isComplete_2 : decode cX5_isComplete 2 = .ok (.iload_n 1, 1) := by decide +kernel
theorem dX5_isComplete_3 : decode cX5_isComplete 3 = .ok (.aload_n 0, 1) := by decide +kernel
theorem dX5_isComplete_4 : decode cX5_isComplete 4 = .ok (.getfield 64, 3) := by decide +kernel
theorem dX5_isComplete_7 : decode cX5_isComplete 7 = .ok (.if_icmp .ge 60, 3) := by decide +kernel
theorem dX5_isComplete_10 : decode cX5_isComplete 10 = .ok (.iconst 0, 1) := by decide +kernel
theorem dX5_isComplete_11 : decode cX5_isComplete 11 = .ok (.istore_n 2, 1) := by decide +kernel
theorem dX5_isComplete_12 : decode cX5_isComplete 12 = .ok (.iload_n 2, 1) := by decide +kernel
theorem dX5_isComplete_13 : decode cX5_isComplete 13 = .ok (.aload_n 0, 1) := by decide +kernel
theorem dX5_isComplete_14 : decode cX5_isComplete 14 = .ok (.iload_n 1, 1) := by decide +kernel
theorem dX5_isComplete_15 : decode cX5_isComplete 15 = .ok (.invokevirtual 110, 3) := by decide +kernel
theorem dX5_isComplete_18 : decode cX5_isComplete 18 = .ok (.if_icmp .ge 43, 3) := by decide +kernel
theorem dX5_isComplete_21 : decode cX5_isComplete 21 = .ok (.aload_n 0, 1) := by decide +kernel
theorem dX5_isComplete_22 : decode cX5_isComplete 22 = .ok (.iload_n 1, 1) := by decide +kernel
theorem dX5_isComplete_23 : decode cX5_isComplete 23 = .ok (.iload_n 2, 1) := by decide +kernel
theorem dX5_isComplete_24 : decode cX5_isComplete 24 = .ok (.invokevirtual 103, 3) := by decide +kernel
theorem dX5_isComplete_27 : decode cX5_isComplete 27 = .ok (.astore_n 3, 1) := by decide +kernel
theorem dX5_isComplete_28 : decode cX5_isComplete 28 = .ok (.aload_n 3, 1) := by decide +kernel
theorem dX5_isComplete_29 : decode cX5_isComplete 29 = .ok (.ifnull 24, 3) := by decide +kernel
theorem dX5_isComplete_32 : decode cX5_isComplete 32 = .ok (.aload_n 3, 1) := by decide +kernel
theorem dX5_isComplete_33 : decode cX5_isComplete 33 = .ok (.getfield 174, 3) := by decide +kernel
theorem dX5_isComplete_36 : decode cX5_isComplete 36 = .ok (.ifCond .eq 17, 3) := by decide +kernel
theorem dX5_isComplete_39 : decode cX5_isComplete 39 = .ok (.aload_n 3, 1) := by decide +kernel
theorem dX5_isComplete_40 : decode cX5_isComplete 40 = .ok (.getfield 182, 3) := by decide +kernel
theorem dX5_isComplete_43 : decode cX5_isComplete 43 = .ok (.aload_n 0, 1) := by decide +kernel
theorem dX5_isComplete_44 : decode cX5_isComplete 44 = .ok (.iload_n 1, 1) := by decide +kernel
theorem dX5_isComplete_45 : decode cX5_isComplete 45 = .ok (.iconst 1, 1) := by decide +kernel
theorem dX5_isComplete_46 : decode cX5_isComplete 46 = .ok (.isub, 1) := by decide +kernel
theorem dX5_isComplete_47 : decode cX5_isComplete 47 = .ok (.invokevirtual 110, 3) := by decide +kernel
theorem dX5_isComplete_50 : decode cX5_isComplete 50 = .ok (.if_icmp .eq 5, 3) := by decide +kernel
theorem dX5_isComplete_53 : decode cX5_isComplete 53 = .ok (.iconst 0, 1) := by decide +kernel
theorem dX5_isComplete_54 : decode cX5_isComplete 54 = .ok (.ireturn, 1) := by decide +kernel
theorem dX5_isComplete_55 : decode cX5_isComplete 55 = .ok (.iinc 2 1, 3) := by decide +kernel
theorem dX5_isComplete_58 : decode cX5_isComplete 58 = .ok (.goto (-46), 3) := by decide +kernel
theorem dX5_isComplete_61 : decode cX5_isComplete 61 = .ok (.iinc 1 1, 3) := by decide +kernel
theorem dX5_isComplete_64 : decode cX5_isComplete 64 = .ok (.goto (-62), 3) := by decide +kernel
theorem dX5_isComplete_67 : decode cX5_isComplete 67 = .ok (.iconst 1, 1) := by decide +kernel
theorem dX5_isComplete_68 : decode cX5_isComplete 68 = .ok (.ireturn, 1) := by decide +kernel
theorem dX5_endMark_0 : decode cX5_endMark 0 = .ok (.aload_n 0, 1) := by decide +kernel
theorem dX5_endMark_1 : decode cX5_endMark 1 = .ok (.aload_n 0, 1) := by decide +kernel
theorem dX5_endMark_2 : decode cX5_endMark 2 = .ok (.getfield 40, 3) := by decide +kernel
theorem dX5_endMark_5 : decode cX5_endMark 5 = .ok (.invokevirtual 124, 3) := by decide +kernel
theorem dX5_endMark_8 : decode cX5_endMark 8 = .ok (.astore_n 2, 1) := by decide +kernel
theorem dX5_endMark_9 : decode cX5_endMark 9 = .ok (.aload_n 2, 1) := by decide +kernel
theorem dX5_endMark_10 : decode cX5_endMark 10 = .ok (.ifnonnull 4, 3) := by decide +kernel
theorem dX5_endMark_13 : decode cX5_endMark 13 = .ok (.return_, 1) := by decide +kernel
theorem dX5_endMark_14 : decode cX5_endMark 14 = .ok (.aload_n 2, 1) := by decide +kernel
theorem dX5_endMark_15 : decode cX5_endMark 15 = .ok (.iload_n 1, 1) := by decide +kernel
theorem dX5_endMark_16 : decode cX5_endMark 16 = .ok (.putfield 132, 3) := by decide +kernel
theorem dX5_endMark_19 : decode cX5_endMark 19 = .ok (.aload_n 2, 1) := by decide +kernel
theorem dX5_endMark_20 : decode cX5_endMark 20 = .ok (.aload_n 0, 1) := by decide +kernel
theorem dX5_endMark_21 : decode cX5_endMark 21 = .ok (.getfield 43, 3) := by decide +kernel
theorem dX5_endMark_24 : decode cX5_endMark 24 = .ok (.putfield 218, 3) := by decide +kernel
theorem dX5_endMark_27 : decode cX5_endMark 27 = .ok (.aload_n 0, 1) := by decide +kernel
theorem dX5_endMark_28 : decode cX5_endMark 28 = .ok (.iconst (-1), 1) := by decide +kernel
theorem dX5_endMark_29 : decode cX5_endMark 29 = .ok (.putfield 40, 3) := by decide +kernel
theorem dX5_endMark_32 : decode cX5_endMark 32 = .ok (.iconst 0, 1) := by decide +kernel
theorem dX5_endMark_33 : decode cX5_endMark 33 = .ok (.istore_n 3, 1) := by decide +kernel
theorem dX5_endMark_34 : decode cX5_endMark 34 = .ok (.iload_n 3, 1) := by decide +kernel
theorem dX5_endMark_35 : decode cX5_endMark 35 = .ok (.aload_n 0, 1) := by decide +kernel
theorem dX5_endMark_36 : decode cX5_endMark 36 = .ok (.getfield 75, 3) := by decide +kernel
theorem dX5_endMark_39 : decode cX5_endMark 39 = .ok (.arraylength, 1) := by decide +kernel
theorem dX5_endMark_40 : decode cX5_endMark 40 = .ok (.if_icmp .ge 18, 3) := by decide +kernel
theorem dX5_endMark_43 : decode cX5_endMark 43 = .ok (.aload_n 0, 1) := by decide +kernel
theorem dX5_endMark_44 : decode cX5_endMark 44 = .ok (.getfield 75, 3) := by decide +kernel
theorem dX5_endMark_47 : decode cX5_endMark 47 = .ok (.iload_n 3, 1) := by decide +kernel
theorem dX5_endMark_48 : decode cX5_endMark 48 = .ok (.aaload, 1) := by decide +kernel
theorem dX5_endMark_49 : decode cX5_endMark 49 = .ok (.invokevirtual 343, 3) := by decide +kernel
theorem dX5_endMark_52 : decode cX5_endMark 52 = .ok (.iinc 3 1, 3) := by decide +kernel
theorem dX5_endMark_55 : decode cX5_endMark 55 = .ok (.goto (-21), 3) := by decide +kernel
theorem dX5_endMark_58 : decode cX5_endMark 58 = .ok (.iconst 0, 1) := by decide +kernel
theorem dX5_endMark_59 : decode cX5_endMark 59 = .ok (.istore_n 3, 1) := by decide +kernel
theorem dX5_endMark_60 : decode cX5_endMark 60 = .ok (.iload_n 3, 1) := by decide +kernel
theorem dX5_endMark_61 : decode cX5_endMark 61 = .ok (.aload_n 0, 1) := by decide +kernel
theorem dX5_endMark_62 : decode cX5_endMark 62 = .ok (.getfield 84, 3) := by decide +kernel
theorem dX5_endMark_65 : decode cX5_endMark 65 = .ok (.arraylength, 1) := by decide +kernel
theorem dX5_endMark_66 : decode cX5_endMark 66 = .ok (.if_icmp .ge 18, 3) := by decide +kernel
theorem dX5_endMark_69 : decode cX5_endMark 69 = .ok (.aload_n 0, 1) := by decide +kernel
theorem dX5_endMark_70 : decode cX5_endMark 70 = .ok (.getfield 84, 3) := by decide +kernel
theorem dX5_endMark_73 : decode cX5_endMark 73 = .ok (.iload_n 3, 1) := by decide +kernel
theorem dX5_endMark_74 : decode cX5_endMark 74 = .ok (.aaload, 1) := by decide +kernel
theorem dX5_endMark_75 : decode cX5_endMark 75 = .ok (.invokevirtual 346, 3) := by decide +kernel
theorem dX5_endMark_78 : decode cX5_endMark 78 = .ok (.iinc 3 1, 3) := by decide +kernel
theorem dX5_endMark_81 : decode cX5_endMark 81 = .ok (.goto (-21), 3) := by decide +kernel
theorem dX5_endMark_84 : decode cX5_endMark 84 = .ok (.return_, 1) := by decide +kernel
theorem dX5_areWidths_0 : decode cX5_areWidths 0 = .ok (.iload_n 1, 1) := by decide +kernel
theorem dX5_areWidths_1 : decode cX5_areWidths 1 = .ok (.invokestatic 93, 3) := by decide +kernel
theorem dX5_areWidths_4 : decode cX5_areWidths 4 = .ok (.ifCond .eq 45, 3) := by decide +kernel
theorem dX5_areWidths_7 : decode cX5_areWidths 7 = .ok (.iload_n 2, 1) := by decide +kernel
theorem dX5_areWidths_8 : decode cX5_areWidths 8 = .ok (.invokestatic 93, 3) := by decide +kernel
theorem dX5_areWidths_11 : decode cX5_areWidths 11 = .ok (.ifCond .eq 38, 3) := by decide +kernel
theorem dX5_areWidths_14 : decode cX5_areWidths 14 = .ok (.aload_n 0, 1) := by decide +kernel
theorem dX5_areWidths_15 : decode cX5_areWidths 15 = .ok (.getfield 64, 3) := by decide +kernel
theorem dX5_areWidths_18 : decode cX5_areWidths 18 = .ok (.iconst 3, 1) := by decide +kernel
theorem dX5_areWidths_19 : decode cX5_areWidths 19 = .ok (.if_icmp .lt 10, 3) := by decide +kernel
theorem dX5_areWidths_22 : decode cX5_areWidths 22 = .ok (.iload_n 3, 1) := by decide +kernel
theorem dX5_areWidths_23 : decode cX5_areWidths 23 = .ok (.invokestatic 93, 3) := by decide +kernel
theorem dX5_areWidths_26 : decode cX5_areWidths 26 = .ok (.ifCond .eq 23, 3) := by decide +kernel
theorem dX5_areWidths_29 : decode cX5_areWidths 29 = .ok (.aload_n 0, 1) := by decide +kernel
theorem dX5_areWidths_30 : decode cX5_areWidths 30 = .ok (.getfield 64, 3) := by decide +kernel
theorem dX5_areWidths_33 : decode cX5_areWidths 33 = .ok (.iconst 4, 1) := by decide +kernel
theorem dX5_areWidths_34 : decode cX5_areWidths 34 = .ok (.if_icmp .lt 11, 3) := by decide +kernel
theorem dX5_areWidths_37 : decode cX5_areWidths 37 = .ok (.iload 4, 2) := by decide +kernel
theorem dX5_areWidths_39 : decode cX5_areWidths 39 = .ok (.invokestatic 93, 3) := by decide +kernel
theorem dX5_areWidths_42 : decode cX5_areWidths 42 = .ok (.ifCond .eq 7, 3) := by decide +kernel
theorem dX5_areWidths_45 : decode cX5_areWidths 45 = .ok (.iconst 1, 1) := by decide +kernel
theorem dX5_areWidths_46 : decode cX5_areWidths 46 = .ok (.goto 4, 3) := by decide +kernel
theorem dX5_areWidths_49 : decode cX5_areWidths 49 = .ok (.iconst 0, 1) := by decide +kernel
theorem dX5_areWidths_50 : decode cX5_areWidths 50 = .ok (.ireturn, 1) := by decide +kernel
theorem dX5_setWidths_0 : decode cX5_setWidths 0 = .ok (.aload_n 0, 1) := by decide +kernel
theorem dX5_setWidths_1 : decode cX5_setWidths 1 = .ok (.getfield 9, 3) := by decide +kernel
theorem dX5_setWidths_4 : decode cX5_setWidths 4 = .ok (.iconst 0, 1) := by decide +kernel
theorem dX5_setWidths_5 : decode cX5_setWidths 5 = .ok (.iload_n 1, 1) := by decide +kernel
theorem dX5_setWidths_6 : decode cX5_setWidths 6 = .ok (.iastore, 1) := by decide +kernel
theorem dX5_setWidths_7 : decode cX5_setWidths 7 = .ok (.aload_n 0, 1) := by decide +kernel
theorem dX5_setWidths_8 : decode cX5_setWidths 8 = .ok (.getfield 9, 3) := by decide +kernel
theorem dX5_setWidths_11 : decode cX5_setWidths 11 = .ok (.iconst 1, 1) := by decide +kernel
theorem dX5_setWidths_12 : decode cX5_setWidths 12 = .ok (.iload_n 2, 1) := by decide +kernel
theorem dX5_setWidths_13 : decode cX5_setWidths 13 = .ok (.iastore, 1) := by decide +kernel
theorem dX5_setWidths_14 : decode cX5_setWidths 14 = .ok (.aload_n 0, 1) := by decide +kernel
theorem dX5_setWidths_15 : decode cX5_setWidths 15 = .ok (.getfield 64, 3) := by decide +kernel
theorem dX5_setWidths_18 : decode cX5_setWidths 18 = .ok (.iconst 2, 1) := by decide +kernel
theorem dX5_setWidths_19 : decode cX5_setWidths 19 = .ok (.if_icmp .le 10, 3) := by decide +kernel
theorem dX5_setWidths_22 : decode cX5_setWidths 22 = .ok (.aload_n 0, 1) := by decide +kernel
theorem dX5_setWidths_23 : decode cX5_setWidths 23 = .ok (.getfield 9, 3) := by decide +kernel
theorem dX5_setWidths_26 : decode cX5_setWidths 26 = .ok (.iconst 2, 1) := by decide +kernel
theorem dX5_setWidths_27 : decode cX5_setWidths 27 = .ok (.iload_n 3, 1) := by decide +kernel
theorem dX5_setWidths_28 : decode cX5_setWidths 28 = .ok (.iastore, 1) := by decide +kernel
theorem dX5_setWidths_29 : decode cX5_setWidths 29 = .ok (.aload_n 0, 1) := by decide +kernel
theorem dX5_setWidths_30 : decode cX5_setWidths 30 = .ok (.getfield 64, 3) := by decide +kernel
theorem dX5_setWidths_33 : decode cX5_setWidths 33 = .ok (.iconst 3, 1) := by decide +kernel
theorem dX5_setWidths_34 : decode cX5_setWidths 34 = .ok (.if_icmp .le 11, 3) := by decide +kernel
theorem dX5_setWidths_37 : decode cX5_setWidths 37 = .ok (.aload_n 0, 1) := by decide +kernel
theorem dX5_setWidths_38 : decode cX5_setWidths 38 = .ok (.getfield 9, 3) := by decide +kernel
theorem dX5_setWidths_41 : decode cX5_setWidths 41 = .ok (.iconst 3, 1) := by decide +kernel
theorem dX5_setWidths_42 : decode cX5_setWidths 42 = .ok (.iload 4, 2) := by decide +kernel
theorem dX5_setWidths_44 : decode cX5_setWidths 44 = .ok (.iastore, 1) := by decide +kernel
theorem dX5_setWidths_45 : decode cX5_setWidths 45 = .ok (.return_, 1) := by decide +kernel
theorem dX5_placeKept_0 : decode cX5_placeKept 0 = .ok (.iconst 0, 1) := by decide +kernel
theorem dX5_placeKept_1 : decode cX5_placeKept 1 = .ok (.istore_n 2, 1) := by decide +kernel
theorem dX5_placeKept_2 : decode cX5_placeKept 2 = .ok (.iconst 0, 1) := by decide +kernel
theorem dX5_placeKept_3 : decode cX5_placeKept 3 = .ok (.istore_n 3, 1) := by decide +kernel
theorem dX5_placeKept_4 : decode cX5_placeKept 4 = .ok (.iload_n 3, 1) := by decide +kernel
theorem dX5_placeKept_5 : decode cX5_placeKept 5 = .ok (.aload_n 0, 1) := by decide +kernel
theorem dX5_placeKept_6 : decode cX5_placeKept 6 = .ok (.getfield 75, 3) := by decide +kernel
theorem dX5_placeKept_9 : decode cX5_placeKept 9 = .ok (.arraylength, 1) := by decide +kernel
theorem dX5_placeKept_10 : decode cX5_placeKept 10 = .ok (.if_icmp .ge 79, 3) := by decide +kernel
theorem dX5_placeKept_13 : decode cX5_placeKept 13 = .ok (.iconst 0, 1) := by decide +kernel
theorem dX5_placeKept_14 : decode cX5_placeKept 14 = .ok (.istore 4, 2) := by decide +kernel
theorem dX5_placeKept_16 : decode cX5_placeKept 16 = .ok (.iload 4, 2) := by decide +kernel
theorem dX5_placeKept_18 : decode cX5_placeKept 18 = .ok (.aload_n 1, 1) := by decide +kernel
theorem dX5_placeKept_19 : decode cX5_placeKept 19 = .ok (.getfield 212, 3) := by decide +kernel
theorem dX5_placeKept_22 : decode cX5_placeKept 22 = .ok (.if_icmp .ge 61, 3) := by decide +kernel
theorem dX5_placeKept_25 : decode cX5_placeKept 25 = .ok (.aload_n 1, 1) := by decide +kernel
theorem dX5_placeKept_26 : decode cX5_placeKept 26 = .ok (.iload 4, 2) := by decide +kernel
theorem dX5_placeKept_28 : decode cX5_placeKept 28 = .ok (.invokevirtual 347, 3) := by decide +kernel
theorem dX5_placeKept_31 : decode cX5_placeKept 31 = .ok (.iload_n 3, 1) := by decide +kernel
theorem dX5_placeKept_32 : decode cX5_placeKept 32 = .ok (.if_icmp .ne 45, 3) := by decide +kernel
theorem dX5_placeKept_35 : decode cX5_placeKept 35 = .ok (.aload_n 1, 1) := by decide +kernel
theorem dX5_placeKept_36 : decode cX5_placeKept 36 = .ok (.iload 4, 2) := by decide +kernel
theorem dX5_placeKept_38 : decode cX5_placeKept 38 = .ok (.invokevirtual 350, 3) := by decide +kernel
theorem dX5_placeKept_41 : decode cX5_placeKept 41 = .ok (.istore 5, 2) := by decide +kernel
theorem dX5_placeKept_43 : decode cX5_placeKept 43 = .ok (.aload_n 0, 1) := by decide +kernel
theorem dX5_placeKept_44 : decode cX5_placeKept 44 = .ok (.iload_n 3, 1) := by decide +kernel
theorem dX5_placeKept_45 : decode cX5_placeKept 45 = .ok (.invokestatic 353, 3) := by decide +kernel
theorem dX5_placeKept_48 : decode cX5_placeKept 48 = .ok (.aload_n 0, 1) := by decide +kernel
theorem dX5_placeKept_49 : decode cX5_placeKept 49 = .ok (.getfield 16, 3) := by decide +kernel
theorem dX5_placeKept_52 : decode cX5_placeKept 52 = .ok (.iload 5, 2) := by decide +kernel
theorem dX5_placeKept_54 : decode cX5_placeKept 54 = .ok (.invokevirtual 204, 3) := by decide +kernel
theorem dX5_placeKept_57 : decode cX5_placeKept 57 = .ok (.invokevirtual 304, 3) := by decide +kernel
theorem dX5_placeKept_60 : decode cX5_placeKept 60 = .ok (.astore 6, 2) := by decide +kernel
theorem dX5_placeKept_62 : decode cX5_placeKept 62 = .ok (.aload 6, 2) := by decide +kernel
theorem dX5_placeKept_64 : decode cX5_placeKept 64 = .ok (.ifnull 13, 3) := by decide +kernel
theorem dX5_placeKept_67 : decode cX5_placeKept 67 = .ok (.aload 6, 2) := by decide +kernel
theorem dX5_placeKept_69 : decode cX5_placeKept 69 = .ok (.iload 5, 2) := by decide +kernel
theorem dX5_placeKept_71 : decode cX5_placeKept 71 = .ok (.invokevirtual 311, 3) := by decide +kernel
theorem dX5_placeKept_74 : decode cX5_placeKept 74 = .ok (.iinc 2 1, 3) := by decide +kernel
theorem dX5_placeKept_77 : decode cX5_placeKept 77 = .ok (.iinc 4 1, 3) := by decide +kernel
theorem dX5_placeKept_80 : decode cX5_placeKept 80 = .ok (.goto (-64), 3) := by decide +kernel
theorem dX5_placeKept_83 : decode cX5_placeKept 83 = .ok (.iinc 3 1, 3) := by decide +kernel
theorem dX5_placeKept_86 : decode cX5_placeKept 86 = .ok (.goto (-82), 3) := by decide +kernel
theorem dX5_placeKept_89 : decode cX5_placeKept 89 = .ok (.iload_n 2, 1) := by decide +kernel
theorem dX5_placeKept_90 : decode cX5_placeKept 90 = .ok (.ireturn, 1) := by decide +kernel
theorem dX5_rowsRead_0 : decode cX5_rowsRead 0 = .ok (.iconst 0, 1) := by decide +kernel
theorem dX5_rowsRead_1 : decode cX5_rowsRead 1 = .ok (.istore_n 1, 1) := by decide +kernel
theorem dX5_rowsRead_2 : decode cX5_rowsRead 2 = .ok (.iconst 0, 1) := by decide +kernel
theorem dX5_rowsRead_3 : decode cX5_rowsRead 3 = .ok (.istore_n 2, 1) := by decide +kernel
theorem dX5_rowsRead_4 : decode cX5_rowsRead 4 = .ok (.iload_n 2, 1) := by decide +kernel
theorem dX5_rowsRead_5 : decode cX5_rowsRead 5 = .ok (.bipush 16, 2) := by decide +kernel
theorem dX5_rowsRead_7 : decode cX5_rowsRead 7 = .ok (.if_icmp .ge 21, 3) := by decide +kernel
theorem dX5_rowsRead_10 : decode cX5_rowsRead 10 = .ok (.iload_n 1, 1) := by decide +kernel
theorem dX5_rowsRead_11 : decode cX5_rowsRead 11 = .ok (.aload_n 0, 1) := by decide +kernel
theorem dX5_rowsRead_12 : decode cX5_rowsRead 12 = .ok (.getfield 23, 3) := by decide +kernel
theorem dX5_rowsRead_15 : decode cX5_rowsRead 15 = .ok (.iconst 0, 1) := by decide +kernel
theorem dX5_rowsRead_16 : decode cX5_rowsRead 16 = .ok (.iload_n 2, 1) := by decide +kernel
theorem dX5_rowsRead_17 : decode cX5_rowsRead 17 = .ok (.invokevirtual 167, 3) := by decide +kernel
theorem dX5_rowsRead_20 : decode cX5_rowsRead 20 = .ok (.iadd, 1) := by decide +kernel
theorem dX5_rowsRead_21 : decode cX5_rowsRead 21 = .ok (.istore_n 1, 1) := by decide +kernel
theorem dX5_rowsRead_22 : decode cX5_rowsRead 22 = .ok (.iinc 2 1, 3) := by decide +kernel
theorem dX5_rowsRead_25 : decode cX5_rowsRead 25 = .ok (.goto (-21), 3) := by decide +kernel
theorem dX5_rowsRead_28 : decode cX5_rowsRead 28 = .ok (.iload_n 1, 1) := by decide +kernel
theorem dX5_rowsRead_29 : decode cX5_rowsRead 29 = .ok (.ireturn, 1) := by decide +kernel
theorem dX5_rowsInChannels_0 : decode cX5_rowsInChannels 0 = .ok (.iconst 0, 1) := by decide +kernel
theorem dX5_rowsInChannels_1 : decode cX5_rowsInChannels 1 = .ok (.istore_n 1, 1) := by decide +kernel
theorem dX5_rowsInChannels_2 : decode cX5_rowsInChannels 2 = .ok (.iconst 0, 1) := by decide +kernel
theorem dX5_rowsInChannels_3 : decode cX5_rowsInChannels 3 = .ok (.istore_n 2, 1) := by decide +kernel
theorem dX5_rowsInChannels_4 : decode cX5_rowsInChannels 4 = .ok (.iload_n 2, 1) := by decide +kernel
theorem dX5_rowsInChannels_5 : decode cX5_rowsInChannels 5 = .ok (.aload_n 0, 1) := by decide +kernel
theorem dX5_rowsInChannels_6 : decode cX5_rowsInChannels 6 = .ok (.getfield 75, 3) := by decide +kernel
theorem dX5_rowsInChannels_9 : decode cX5_rowsInChannels 9 = .ok (.arraylength, 1) := by decide +kernel
theorem dX5_rowsInChannels_10 : decode cX5_rowsInChannels 10 = .ok (.if_icmp .ge 21, 3) := by decide +kernel
theorem dX5_rowsInChannels_13 : decode cX5_rowsInChannels 13 = .ok (.iload_n 1, 1) := by decide +kernel
theorem dX5_rowsInChannels_14 : decode cX5_rowsInChannels 14 = .ok (.aload_n 0, 1) := by decide +kernel
theorem dX5_rowsInChannels_15 : decode cX5_rowsInChannels 15 = .ok (.getfield 75, 3) := by decide +kernel
theorem dX5_rowsInChannels_18 : decode cX5_rowsInChannels 18 = .ok (.iload_n 2, 1) := by decide +kernel
theorem dX5_rowsInChannels_19 : decode cX5_rowsInChannels 19 = .ok (.aaload, 1) := by decide +kernel
theorem dX5_rowsInChannels_20 : decode cX5_rowsInChannels 20 = .ok (.getfield 189, 3) := by decide +kernel
theorem dX5_rowsInChannels_23 : decode cX5_rowsInChannels 23 = .ok (.iadd, 1) := by decide +kernel
theorem dX5_rowsInChannels_24 : decode cX5_rowsInChannels 24 = .ok (.istore_n 1, 1) := by decide +kernel
theorem dX5_rowsInChannels_25 : decode cX5_rowsInChannels 25 = .ok (.iinc 2 1, 3) := by decide +kernel
theorem dX5_rowsInChannels_28 : decode cX5_rowsInChannels 28 = .ok (.goto (-24), 3) := by decide +kernel
theorem dX5_rowsInChannels_31 : decode cX5_rowsInChannels 31 = .ok (.iload_n 1, 1) := by decide +kernel
theorem dX5_rowsInChannels_32 : decode cX5_rowsInChannels 32 = .ok (.ireturn, 1) := by decide +kernel
theorem dX5_addFlow_0 : decode cX5_addFlow 0 = .ok (.aload_n 1, 1) := by decide +kernel
theorem dX5_addFlow_1 : decode cX5_addFlow 1 = .ok (.getfield 337, 3) := by decide +kernel
theorem dX5_addFlow_4 : decode cX5_addFlow 4 = .ok (.istore_n 2, 1) := by decide +kernel
theorem dX5_addFlow_5 : decode cX5_addFlow 5 = .ok (.iconst 0, 1) := by decide +kernel
theorem dX5_addFlow_6 : decode cX5_addFlow 6 = .ok (.istore_n 3, 1) := by decide +kernel
theorem dX5_addFlow_7 : decode cX5_addFlow 7 = .ok (.iload_n 3, 1) := by decide +kernel
theorem dX5_addFlow_8 : decode cX5_addFlow 8 = .ok (.aload_n 1, 1) := by decide +kernel
theorem dX5_addFlow_9 : decode cX5_addFlow 9 = .ok (.getfield 189, 3) := by decide +kernel
theorem dX5_addFlow_12 : decode cX5_addFlow 12 = .ok (.if_icmp .ge 45, 3) := by decide +kernel
theorem dX5_addFlow_15 : decode cX5_addFlow 15 = .ok (.aload_n 0, 1) := by decide +kernel
theorem dX5_addFlow_16 : decode cX5_addFlow 16 = .ok (.getfield 33, 3) := by decide +kernel
theorem dX5_addFlow_19 : decode cX5_addFlow 19 = .ok (.aload_n 1, 1) := by decide +kernel
theorem dX5_addFlow_20 : decode cX5_addFlow 20 = .ok (.getfield 356, 3) := by decide +kernel
theorem dX5_addFlow_23 : decode cX5_addFlow 23 = .ok (.invokestatic 353, 3) := by decide +kernel
theorem dX5_addFlow_26 : decode cX5_addFlow 26 = .ok (.aload_n 0, 1) := by decide +kernel
theorem dX5_addFlow_27 : decode cX5_addFlow 27 = .ok (.getfield 16, 3) := by decide +kernel
theorem dX5_addFlow_30 : decode cX5_addFlow 30 = .ok (.iload_n 2, 1) := by decide +kernel
theorem dX5_addFlow_31 : decode cX5_addFlow 31 = .ok (.invokevirtual 204, 3) := by decide +kernel
theorem dX5_addFlow_34 : decode cX5_addFlow 34 = .ok (.aload_n 0, 1) := by decide +kernel
theorem dX5_addFlow_35 : decode cX5_addFlow 35 = .ok (.getfield 16, 3) := by decide +kernel
theorem dX5_addFlow_38 : decode cX5_addFlow 38 = .ok (.iload_n 2, 1) := by decide +kernel
theorem dX5_addFlow_39 : decode cX5_addFlow 39 = .ok (.invokevirtual 207, 3) := by decide +kernel
theorem dX5_addFlow_42 : decode cX5_addFlow 42 = .ok (.invokevirtual 307, 3) := by decide +kernel
theorem dX5_addFlow_45 : decode cX5_addFlow 45 = .ok (.aload_n 1, 1) := by decide +kernel
theorem dX5_addFlow_46 : decode cX5_addFlow 46 = .ok (.iload_n 2, 1) := by decide +kernel
theorem dX5_addFlow_47 : decode cX5_addFlow 47 = .ok (.invokevirtual 340, 3) := by decide +kernel
theorem dX5_addFlow_50 : decode cX5_addFlow 50 = .ok (.istore_n 2, 1) := by decide +kernel
theorem dX5_addFlow_51 : decode cX5_addFlow 51 = .ok (.iinc 3 1, 3) := by decide +kernel
theorem dX5_addFlow_54 : decode cX5_addFlow 54 = .ok (.goto (-47), 3) := by decide +kernel
theorem dX5_addFlow_57 : decode cX5_addFlow 57 = .ok (.return_, 1) := by decide +kernel
theorem dX5_addKeptFlow_0 : decode cX5_addKeptFlow 0 = .ok (.iconst 0, 1) := by decide +kernel
theorem dX5_addKeptFlow_1 : decode cX5_addKeptFlow 1 = .ok (.istore_n 2, 1) := by decide +kernel
theorem dX5_addKeptFlow_2 : decode cX5_addKeptFlow 2 = .ok (.iload_n 2, 1) := by decide +kernel
theorem dX5_addKeptFlow_3 : decode cX5_addKeptFlow 3 = .ok (.aload_n 1, 1) := by decide +kernel
theorem dX5_addKeptFlow_4 : decode cX5_addKeptFlow 4 = .ok (.getfield 212, 3) := by decide +kernel
theorem dX5_addKeptFlow_7 : decode cX5_addKeptFlow 7 = .ok (.if_icmp .ge 46, 3) := by decide +kernel
theorem dX5_addKeptFlow_10 : decode cX5_addKeptFlow 10 = .ok (.aload_n 1, 1) := by decide +kernel
theorem dX5_addKeptFlow_11 : decode cX5_addKeptFlow 11 = .ok (.iload_n 2, 1) := by decide +kernel
theorem dX5_addKeptFlow_12 : decode cX5_addKeptFlow 12 = .ok (.invokevirtual 350, 3) := by decide +kernel
theorem dX5_addKeptFlow_15 : decode cX5_addKeptFlow 15 = .ok (.istore_n 3, 1) := by decide +kernel
theorem dX5_addKeptFlow_16 : decode cX5_addKeptFlow 16 = .ok (.aload_n 0, 1) := by decide +kernel
theorem dX5_addKeptFlow_17 : decode cX5_addKeptFlow 17 = .ok (.getfield 33, 3) := by decide +kernel
theorem dX5_addKeptFlow_20 : decode cX5_addKeptFlow 20 = .ok (.aload_n 1, 1) := by decide +kernel
theorem dX5_addKeptFlow_21 : decode cX5_addKeptFlow 21 = .ok (.iload_n 2, 1) := by decide +kernel
theorem dX5_addKeptFlow_22 : decode cX5_addKeptFlow 22 = .ok (.invokevirtual 347, 3) := by decide +kernel
theorem dX5_addKeptFlow_25 : decode cX5_addKeptFlow 25 = .ok (.invokestatic 353, 3) := by decide +kernel
theorem dX5_addKeptFlow_28 : decode cX5_addKeptFlow 28 = .ok (.aload_n 0, 1) := by decide +kernel
theorem dX5_addKeptFlow_29 : decode cX5_addKeptFlow 29 = .ok (.getfield 16, 3) := by decide +kernel
theorem dX5_addKeptFlow_32 : decode cX5_addKeptFlow 32 = .ok (.iload_n 3, 1) := by decide +kernel
theorem dX5_addKeptFlow_33 : decode cX5_addKeptFlow 33 = .ok (.invokevirtual 204, 3) := by decide +kernel
theorem dX5_addKeptFlow_36 : decode cX5_addKeptFlow 36 = .ok (.aload_n 0, 1) := by decide +kernel
theorem dX5_addKeptFlow_37 : decode cX5_addKeptFlow 37 = .ok (.getfield 16, 3) := by decide +kernel
theorem dX5_addKeptFlow_40 : decode cX5_addKeptFlow 40 = .ok (.iload_n 3, 1) := by decide +kernel
theorem dX5_addKeptFlow_41 : decode cX5_addKeptFlow 41 = .ok (.invokevirtual 207, 3) := by decide +kernel
theorem dX5_addKeptFlow_44 : decode cX5_addKeptFlow 44 = .ok (.invokevirtual 307, 3) := by decide +kernel
theorem dX5_addKeptFlow_47 : decode cX5_addKeptFlow 47 = .ok (.iinc 2 1, 3) := by decide +kernel
theorem dX5_addKeptFlow_50 : decode cX5_addKeptFlow 50 = .ok (.goto (-48), 3) := by decide +kernel
theorem dX5_addKeptFlow_53 : decode cX5_addKeptFlow 53 = .ok (.return_, 1) := by decide +kernel
theorem dX5_unlike_0 : decode cX5_unlike 0 = .ok (.iconst 0, 1) := by decide +kernel
theorem dX5_unlike_1 : decode cX5_unlike 1 = .ok (.istore_n 2, 1) := by decide +kernel
theorem dX5_unlike_2 : decode cX5_unlike 2 = .ok (.iconst 0, 1) := by decide +kernel
theorem dX5_unlike_3 : decode cX5_unlike 3 = .ok (.istore_n 3, 1) := by decide +kernel
theorem dX5_unlike_4 : decode cX5_unlike 4 = .ok (.iload_n 3, 1) := by decide +kernel
theorem dX5_unlike_5 : decode cX5_unlike 5 = .ok (.bipush 16, 2) := by decide +kernel
theorem dX5_unlike_7 : decode cX5_unlike 7 = .ok (.if_icmp .ge 119, 3) := by decide +kernel
theorem dX5_unlike_10 : decode cX5_unlike 10 = .ok (.iconst 0, 1) := by decide +kernel
theorem dX5_unlike_11 : decode cX5_unlike 11 = .ok (.istore 4, 2) := by decide +kernel
theorem dX5_unlike_13 : decode cX5_unlike 13 = .ok (.iload 4, 2) := by decide +kernel
theorem dX5_unlike_15 : decode cX5_unlike 15 = .ok (.aload_n 0, 1) := by decide +kernel
theorem dX5_unlike_16 : decode cX5_unlike 16 = .ok (.getfield 64, 3) := by decide +kernel
theorem dX5_unlike_19 : decode cX5_unlike 19 = .ok (.iconst 1, 1) := by decide +kernel
theorem dX5_unlike_20 : decode cX5_unlike 20 = .ok (.isub, 1) := by decide +kernel
theorem dX5_unlike_21 : decode cX5_unlike 21 = .ok (.if_icmp .ge 73, 3) := by decide +kernel
theorem dX5_unlike_24 : decode cX5_unlike 24 = .ok (.aload_n 1, 1) := by decide +kernel
theorem dX5_unlike_25 : decode cX5_unlike 25 = .ok (.iload 4, 2) := by decide +kernel
theorem dX5_unlike_27 : decode cX5_unlike 27 = .ok (.iload_n 3, 1) := by decide +kernel
theorem dX5_unlike_28 : decode cX5_unlike 28 = .ok (.invokevirtual 167, 3) := by decide +kernel
theorem dX5_unlike_31 : decode cX5_unlike 31 = .ok (.aload_n 1, 1) := by decide +kernel
theorem dX5_unlike_32 : decode cX5_unlike 32 = .ok (.iload 4, 2) := by decide +kernel
theorem dX5_unlike_34 : decode cX5_unlike 34 = .ok (.iconst 1, 1) := by decide +kernel
theorem dX5_unlike_35 : decode cX5_unlike 35 = .ok (.iadd, 1) := by decide +kernel
theorem dX5_unlike_36 : decode cX5_unlike 36 = .ok (.iload_n 3, 1) := by decide +kernel
theorem dX5_unlike_37 : decode cX5_unlike 37 = .ok (.invokevirtual 167, 3) := by decide +kernel
theorem dX5_unlike_40 : decode cX5_unlike 40 = .ok (.aload_n 0, 1) := by decide +kernel
theorem dX5_unlike_41 : decode cX5_unlike 41 = .ok (.getfield 33, 3) := by decide +kernel
theorem dX5_unlike_44 : decode cX5_unlike 44 = .ok (.iload 4, 2) := by decide +kernel
theorem dX5_unlike_46 : decode cX5_unlike 46 = .ok (.iload_n 3, 1) := by decide +kernel
theorem dX5_unlike_47 : decode cX5_unlike 47 = .ok (.invokevirtual 167, 3) := by decide +kernel
theorem dX5_unlike_50 : decode cX5_unlike 50 = .ok (.iadd, 1) := by decide +kernel
theorem dX5_unlike_51 : decode cX5_unlike 51 = .ok (.if_icmp .ne 34, 3) := by decide +kernel
theorem dX5_unlike_54 : decode cX5_unlike 54 = .ok (.aload_n 1, 1) := by decide +kernel
theorem dX5_unlike_55 : decode cX5_unlike 55 = .ok (.iload 4, 2) := by decide +kernel
theorem dX5_unlike_57 : decode cX5_unlike 57 = .ok (.iload_n 3, 1) := by decide +kernel
theorem dX5_unlike_58 : decode cX5_unlike 58 = .ok (.invokevirtual 170, 3) := by decide +kernel
theorem dX5_unlike_61 : decode cX5_unlike 61 = .ok (.aload_n 1, 1) := by decide +kernel
theorem dX5_unlike_62 : decode cX5_unlike 62 = .ok (.iload 4, 2) := by decide +kernel
theorem dX5_unlike_64 : decode cX5_unlike 64 = .ok (.iconst 1, 1) := by decide +kernel
theorem dX5_unlike_65 : decode cX5_unlike 65 = .ok (.iadd, 1) := by decide +kernel
theorem dX5_unlike_66 : decode cX5_unlike 66 = .ok (.iload_n 3, 1) := by decide +kernel
theorem dX5_unlike_67 : decode cX5_unlike 67 = .ok (.invokevirtual 170, 3) := by decide +kernel
theorem dX5_unlike_70 : decode cX5_unlike 70 = .ok (.aload_n 0, 1) := by decide +kernel
theorem dX5_unlike_71 : decode cX5_unlike 71 = .ok (.getfield 33, 3) := by decide +kernel
theorem dX5_unlike_74 : decode cX5_unlike 74 = .ok (.iload 4, 2) := by decide +kernel
theorem dX5_unlike_76 : decode cX5_unlike 76 = .ok (.iload_n 3, 1) := by decide +kernel
theorem dX5_unlike_77 : decode cX5_unlike 77 = .ok (.invokevirtual 170, 3) := by decide +kernel
theorem dX5_unlike_80 : decode cX5_unlike 80 = .ok (.ladd, 1) := by decide +kernel
theorem dX5_unlike_81 : decode cX5_unlike 81 = .ok (.lcmp, 1) := by decide +kernel
theorem dX5_unlike_82 : decode cX5_unlike 82 = .ok (.ifCond .eq 6, 3) := by decide +kernel
theorem dX5_unlike_85 : decode cX5_unlike 85 = .ok (.iinc 2 1, 3) := by decide +kernel
theorem dX5_unlike_88 : decode cX5_unlike 88 = .ok (.iinc 4 1, 3) := by decide +kernel
theorem dX5_unlike_91 : decode cX5_unlike 91 = .ok (.goto (-78), 3) := by decide +kernel
theorem dX5_unlike_94 : decode cX5_unlike 94 = .ok (.aload_n 0, 1) := by decide +kernel
theorem dX5_unlike_95 : decode cX5_unlike 95 = .ok (.getfield 16, 3) := by decide +kernel
theorem dX5_unlike_98 : decode cX5_unlike 98 = .ok (.iload_n 3, 1) := by decide +kernel
theorem dX5_unlike_99 : decode cX5_unlike 99 = .ok (.aload_n 1, 1) := by decide +kernel
theorem dX5_unlike_100 : decode cX5_unlike 100 = .ok (.iconst 0, 1) := by decide +kernel
theorem dX5_unlike_101 : decode cX5_unlike 101 = .ok (.iload_n 3, 1) := by decide +kernel
theorem dX5_unlike_102 : decode cX5_unlike 102 = .ok (.invokevirtual 167, 3) := by decide +kernel
theorem dX5_unlike_105 : decode cX5_unlike 105 = .ok (.aload_n 1, 1) := by decide +kernel
theorem dX5_unlike_106 : decode cX5_unlike 106 = .ok (.iconst 0, 1) := by decide +kernel
theorem dX5_unlike_107 : decode cX5_unlike 107 = .ok (.iload_n 3, 1) := by decide +kernel
theorem dX5_unlike_108 : decode cX5_unlike 108 = .ok (.invokevirtual 170, 3) := by decide +kernel
theorem dX5_unlike_111 : decode cX5_unlike 111 = .ok (.invokevirtual 359, 3) := by decide +kernel
theorem dX5_unlike_114 : decode cX5_unlike 114 = .ok (.ifCond .ne 6, 3) := by decide +kernel
theorem dX5_unlike_117 : decode cX5_unlike 117 = .ok (.iinc 2 1, 3) := by decide +kernel
theorem dX5_unlike_120 : decode cX5_unlike 120 = .ok (.iinc 3 1, 3) := by decide +kernel
theorem dX5_unlike_123 : decode cX5_unlike 123 = .ok (.goto (-119), 3) := by decide +kernel
theorem dX5_unlike_126 : decode cX5_unlike 126 = .ok (.iload_n 2, 1) := by decide +kernel
theorem dX5_unlike_127 : decode cX5_unlike 127 = .ok (.ireturn, 1) := by decide +kernel
theorem dX5_strayRows_0 : decode cX5_strayRows 0 = .ok (.iconst 0, 1) := by decide +kernel
theorem dX5_strayRows_1 : decode cX5_strayRows 1 = .ok (.istore_n 1, 1) := by decide +kernel
theorem dX5_strayRows_2 : decode cX5_strayRows 2 = .ok (.iconst 0, 1) := by decide +kernel
theorem dX5_strayRows_3 : decode cX5_strayRows 3 = .ok (.istore_n 2, 1) := by decide +kernel
theorem dX5_strayRows_4 : decode cX5_strayRows 4 = .ok (.iload_n 2, 1) := by decide +kernel
theorem dX5_strayRows_5 : decode cX5_strayRows 5 = .ok (.aload_n 0, 1) := by decide +kernel
theorem dX5_strayRows_6 : decode cX5_strayRows 6 = .ok (.getfield 75, 3) := by decide +kernel
theorem dX5_strayRows_9 : decode cX5_strayRows 9 = .ok (.arraylength, 1) := by decide +kernel
theorem dX5_strayRows_10 : decode cX5_strayRows 10 = .ok (.if_icmp .ge 84, 3) := by decide +kernel
theorem dX5_strayRows_13 : decode cX5_strayRows 13 = .ok (.aload_n 0, 1) := by decide +kernel
theorem dX5_strayRows_14 : decode cX5_strayRows 14 = .ok (.getfield 75, 3) := by decide +kernel
theorem dX5_strayRows_17 : decode cX5_strayRows 17 = .ok (.iload_n 2, 1) := by decide +kernel
theorem dX5_strayRows_18 : decode cX5_strayRows 18 = .ok (.aaload, 1) := by decide +kernel
theorem dX5_strayRows_19 : decode cX5_strayRows 19 = .ok (.astore_n 3, 1) := by decide +kernel
theorem dX5_strayRows_20 : decode cX5_strayRows 20 = .ok (.aload_n 3, 1) := by decide +kernel
theorem dX5_strayRows_21 : decode cX5_strayRows 21 = .ok (.getfield 337, 3) := by decide +kernel
theorem dX5_strayRows_24 : decode cX5_strayRows 24 = .ok (.istore 4, 2) := by decide +kernel
theorem dX5_strayRows_26 : decode cX5_strayRows 26 = .ok (.iconst 0, 1) := by decide +kernel
theorem dX5_strayRows_27 : decode cX5_strayRows 27 = .ok (.istore 5, 2) := by decide +kernel
theorem dX5_strayRows_29 : decode cX5_strayRows 29 = .ok (.iload 5, 2) := by decide +kernel
theorem dX5_strayRows_31 : decode cX5_strayRows 31 = .ok (.aload_n 3, 1) := by decide +kernel
theorem dX5_strayRows_32 : decode cX5_strayRows 32 = .ok (.getfield 189, 3) := by decide +kernel
theorem dX5_strayRows_35 : decode cX5_strayRows 35 = .ok (.if_icmp .ge 53, 3) := by decide +kernel
theorem dX5_strayRows_38 : decode cX5_strayRows 38 = .ok (.aload_n 0, 1) := by decide +kernel
theorem dX5_strayRows_39 : decode cX5_strayRows 39 = .ok (.iload_n 2, 1) := by decide +kernel
theorem dX5_strayRows_40 : decode cX5_strayRows 40 = .ok (.invokestatic 353, 3) := by decide +kernel
theorem dX5_strayRows_43 : decode cX5_strayRows 43 = .ok (.aload_n 0, 1) := by decide +kernel
theorem dX5_strayRows_44 : decode cX5_strayRows 44 = .ok (.getfield 16, 3) := by decide +kernel
theorem dX5_strayRows_47 : decode cX5_strayRows 47 = .ok (.iload 4, 2) := by decide +kernel
theorem dX5_strayRows_49 : decode cX5_strayRows 49 = .ok (.invokevirtual 204, 3) := by decide +kernel
theorem dX5_strayRows_52 : decode cX5_strayRows 52 = .ok (.invokevirtual 304, 3) := by decide +kernel
theorem dX5_strayRows_55 : decode cX5_strayRows 55 = .ok (.astore 6, 2) := by decide +kernel
theorem dX5_strayRows_57 : decode cX5_strayRows 57 = .ok (.aload 6, 2) := by decide +kernel
theorem dX5_strayRows_59 : decode cX5_strayRows 59 = .ok (.ifnull 12, 3) := by decide +kernel
theorem dX5_strayRows_62 : decode cX5_strayRows 62 = .ok (.aload 6, 2) := by decide +kernel
theorem dX5_strayRows_64 : decode cX5_strayRows 64 = .ok (.getfield 356, 3) := by decide +kernel
theorem dX5_strayRows_67 : decode cX5_strayRows 67 = .ok (.iload_n 2, 1) := by decide +kernel
theorem dX5_strayRows_68 : decode cX5_strayRows 68 = .ok (.if_icmp .eq 6, 3) := by decide +kernel
theorem dX5_strayRows_71 : decode cX5_strayRows 71 = .ok (.iinc 1 1, 3) := by decide +kernel
theorem dX5_strayRows_74 : decode cX5_strayRows 74 = .ok (.aload_n 3, 1) := by decide +kernel
theorem dX5_strayRows_75 : decode cX5_strayRows 75 = .ok (.iload 4, 2) := by decide +kernel
theorem dX5_strayRows_77 : decode cX5_strayRows 77 = .ok (.invokevirtual 340, 3) := by decide +kernel
theorem dX5_strayRows_80 : decode cX5_strayRows 80 = .ok (.istore 4, 2) := by decide +kernel
theorem dX5_strayRows_82 : decode cX5_strayRows 82 = .ok (.iinc 5 1, 3) := by decide +kernel
theorem dX5_strayRows_85 : decode cX5_strayRows 85 = .ok (.goto (-56), 3) := by decide +kernel
theorem dX5_strayRows_88 : decode cX5_strayRows 88 = .ok (.iinc 2 1, 3) := by decide +kernel
theorem dX5_strayRows_91 : decode cX5_strayRows 91 = .ok (.goto (-87), 3) := by decide +kernel
theorem dX5_strayRows_94 : decode cX5_strayRows 94 = .ok (.iload_n 1, 1) := by decide +kernel
theorem dX5_strayRows_95 : decode cX5_strayRows 95 = .ok (.ireturn, 1) := by decide +kernel
theorem dX5_isRow_0 : decode cX5_isRow 0 = .ok (.iload_n 0, 1) := by decide +kernel
theorem dX5_isRow_1 : decode cX5_isRow 1 = .ok (.ifCond .lt 14, 3) := by decide +kernel
theorem dX5_isRow_4 : decode cX5_isRow 4 = .ok (.iload_n 0, 1) := by decide +kernel
theorem dX5_isRow_5 : decode cX5_isRow 5 = .ok (.sipush 200, 3) := by decide +kernel
theorem dX5_isRow_8 : decode cX5_isRow 8 = .ok (.if_icmp .ge 7, 3) := by decide +kernel
theorem dX5_isRow_11 : decode cX5_isRow 11 = .ok (.iconst 1, 1) := by decide +kernel
theorem dX5_isRow_12 : decode cX5_isRow 12 = .ok (.goto 4, 3) := by decide +kernel
theorem dX5_isRow_15 : decode cX5_isRow 15 = .ok (.iconst 0, 1) := by decide +kernel
theorem dX5_isRow_16 : decode cX5_isRow 16 = .ok (.ireturn, 1) := by decide +kernel
