theorem dX6_init_0 : decode cX6_init 0 = .ok (.aload_n 0, 1) := by decide +kernel
theorem dX6_init_1 : decode cX6_init 1 = .ok (.invokespecial 1, 3) := by decide +kernel
theorem dX6_init_4 : decode cX6_init 4 = .ok (.aload_n 0, 1) := by decide +kernel
theorem dX6_init_5 : decode cX6_init 5 = .ok (.iconst 4, 1) := by decide +kernel
theorem dX6_init_6 : decode cX6_init 6 = .ok (.newarray .int, 2) := by decide +kernel
theorem dX6_init_8 : decode cX6_init 8 = .ok (.dup, 1) := by decide +kernel
theorem dX6_init_9 : decode cX6_init 9 = .ok (.iconst 0, 1) := by decide +kernel
theorem dX6_init_10 : decode cX6_init 10 = .ok (.iconst 1, 1) := by decide +kernel
theorem dX6_init_11 : decode cX6_init 11 = .ok (.iastore, 1) := by decide +kernel
theorem dX6_init_12 : decode cX6_init 12 = .ok (.dup, 1) := by decide +kernel
theorem dX6_init_13 : decode cX6_init 13 = .ok (.iconst 1, 1) := by decide +kernel
theorem dX6_init_14 : decode cX6_init 14 = .ok (.iconst 1, 1) := by decide +kernel
theorem dX6_init_15 : decode cX6_init 15 = .ok (.iastore, 1) := by decide +kernel
theorem dX6_init_16 : decode cX6_init 16 = .ok (.dup, 1) := by decide +kernel
theorem dX6_init_17 : decode cX6_init 17 = .ok (.iconst 2, 1) := by decide +kernel
theorem dX6_init_18 : decode cX6_init 18 = .ok (.iconst 1, 1) := by decide +kernel
theorem dX6_init_19 : decode cX6_init 19 = .ok (.iastore, 1) := by decide +kernel
theorem dX6_init_20 : decode cX6_init 20 = .ok (.dup, 1) := by decide +kernel
theorem dX6_init_21 : decode cX6_init 21 = .ok (.iconst 3, 1) := by decide +kernel
theorem dX6_init_22 : decode cX6_init 22 = .ok (.iconst 1, 1) := by decide +kernel
theorem dX6_init_23 : decode cX6_init 23 = .ok (.iastore, 1) := by decide +kernel
theorem dX6_init_24 : decode cX6_init 24 = .ok (.putfield 7, 3) := by decide +kernel
theorem dX6_init_27 : decode cX6_init 27 = .ok (.aload_n 0, 1) := by decide +kernel
theorem dX6_init_28 : decode cX6_init 28 = .ok (.iconst 5, 1) := by decide +kernel
theorem dX6_init_29 : decode cX6_init 29 = .ok (.putfield 13, 3) := by decide +kernel
theorem dX6_init_32 : decode cX6_init 32 = .ok (.aload_n 0, 1) := by decide +kernel
theorem dX6_init_33 : decode cX6_init 33 = .ok (.sipush 200, 3) := by decide +kernel
theorem dX6_init_36 : decode cX6_init 36 = .ok (.putfield 17, 3) := by decide +kernel
theorem dX6_init_39 : decode cX6_init 39 = .ok (.aload_n 0, 1) := by decide +kernel
theorem dX6_init_40 : decode cX6_init 40 = .ok (.sipush 200, 3) := by decide +kernel
theorem dX6_init_43 : decode cX6_init 43 = .ok (.newarray .int, 2) := by decide +kernel
theorem dX6_init_45 : decode cX6_init 45 = .ok (.putfield 20, 3) := by decide +kernel
theorem dX6_init_48 : decode cX6_init 48 = .ok (.aload_n 0, 1) := by decide +kernel
theorem dX6_init_49 : decode cX6_init 49 = .ok (.sipush 200, 3) := by decide +kernel
theorem dX6_init_52 : decode cX6_init 52 = .ok (.newarray .long, 2) := by decide +kernel
theorem dX6_init_54 : decode cX6_init 54 = .ok (.putfield 23, 3) := by decide +kernel
theorem dX6_init_57 : decode cX6_init 57 = .ok (.aload_n 0, 1) := by decide +kernel
theorem dX6_init_58 : decode cX6_init 58 = .ok (.bipush 64, 2) := by decide +kernel
theorem dX6_init_60 : decode cX6_init 60 = .ok (.newarray .int, 2) := by decide +kernel
theorem dX6_init_62 : decode cX6_init 62 = .ok (.putfield 27, 3) := by decide +kernel
theorem dX6_init_65 : decode cX6_init 65 = .ok (.aload_n 0, 1) := by decide +kernel
theorem dX6_init_66 : decode cX6_init 66 = .ok (.bipush 64, 2) := by decide +kernel
theorem dX6_init_68 : decode cX6_init 68 = .ok (.newarray .long, 2) := by decide +kernel
theorem dX6_init_70 : decode cX6_init 70 = .ok (.putfield 30, 3) := by decide +kernel
theorem dX6_init_73 : decode cX6_init 73 = .ok (.aload_n 0, 1) := by decide +kernel
theorem dX6_init_74 : decode cX6_init 74 = .ok (.sipush 9600, 3) := by decide +kernel
theorem dX6_init_77 : decode cX6_init 77 = .ok (.newarray .int, 2) := by decide +kernel
theorem dX6_init_79 : decode cX6_init 79 = .ok (.putfield 33, 3) := by decide +kernel
theorem dX6_init_82 : decode cX6_init 82 = .ok (.aload_n 0, 1) := by decide +kernel
theorem dX6_init_83 : decode cX6_init 83 = .ok (.bipush 48, 2) := by decide +kernel
theorem dX6_init_85 : decode cX6_init 85 = .ok (.newarray .int, 2) := by decide +kernel
theorem dX6_init_87 : decode cX6_init 87 = .ok (.putfield 36, 3) := by decide +kernel
theorem dX6_init_90 : decode cX6_init 90 = .ok (.aload_n 0, 1) := by decide +kernel
theorem dX6_init_91 : decode cX6_init 91 = .ok (.bipush 48, 2) := by decide +kernel
theorem dX6_init_93 : decode cX6_init 93 = .ok (.newarray .int, 2) := by decide +kernel
theorem dX6_init_95 : decode cX6_init 95 = .ok (.putfield 39, 3) := by decide +kernel
theorem dX6_init_98 : decode cX6_init 98 = .ok (.aload_n 0, 1) := by decide +kernel
theorem dX6_init_99 : decode cX6_init 99 = .ok (.bipush 48, 2) := by decide +kernel
theorem dX6_init_101 : decode cX6_init 101 = .ok (.newarray .boolean, 2) := by decide +kernel
theorem dX6_init_103 : decode cX6_init 103 = .ok (.putfield 42, 3) := by decide +kernel
theorem dX6_init_106 : decode cX6_init 106 = .ok (.aload_n 0, 1) := by decide +kernel
theorem dX6_init_107 : decode cX6_init 107 = .ok (.bipush 16, 2) := by decide +kernel
theorem dX6_init_109 : decode cX6_init 109 = .ok (.newarray .boolean, 2) := by decide +kernel
theorem dX6_init_111 : decode cX6_init 111 = .ok (.putfield 46, 3) := by decide +kernel
theorem dX6_init_114 : decode cX6_init 114 = .ok (.aload_n 0, 1) := by decide +kernel
theorem dX6_init_115 : decode cX6_init 115 = .ok (.bipush 16, 2) := by decide +kernel
theorem dX6_init_117 : decode cX6_init 117 = .ok (.newarray .boolean, 2) := by decide +kernel
theorem dX6_init_119 : decode cX6_init 119 = .ok (.putfield 49, 3) := by decide +kernel
theorem dX6_init_122 : decode cX6_init 122 = .ok (.aload_n 0, 1) := by decide +kernel
theorem dX6_init_123 : decode cX6_init 123 = .ok (.bipush 16, 2) := by decide +kernel
theorem dX6_init_125 : decode cX6_init 125 = .ok (.newarray .int, 2) := by decide +kernel
theorem dX6_init_127 : decode cX6_init 127 = .ok (.putfield 52, 3) := by decide +kernel
theorem dX6_init_130 : decode cX6_init 130 = .ok (.aload_n 0, 1) := by decide +kernel
theorem dX6_init_131 : decode cX6_init 131 = .ok (.bipush 16, 2) := by decide +kernel
theorem dX6_init_133 : decode cX6_init 133 = .ok (.newarray .int, 2) := by decide +kernel
theorem dX6_init_135 : decode cX6_init 135 = .ok (.putfield 55, 3) := by decide +kernel
theorem dX6_init_138 : decode cX6_init 138 = .ok (.aload_n 0, 1) := by decide +kernel
theorem dX6_init_139 : decode cX6_init 139 = .ok (.iconst (-1), 1) := by decide +kernel
theorem dX6_init_140 : decode cX6_init 140 = .ok (.putfield 58, 3) := by decide +kernel
theorem dX6_init_143 : decode cX6_init 143 = .ok (.aload_n 0, 1) := by decide +kernel
theorem dX6_init_144 : decode cX6_init 144 = .ok (.bipush 8, 2) := by decide +kernel
theorem dX6_init_146 : decode cX6_init 146 = .ok (.newarray .int, 2) := by decide +kernel
theorem dX6_init_148 : decode cX6_init 148 = .ok (.putfield 61, 3) := by decide +kernel
theorem dX6_init_151 : decode cX6_init 151 = .ok (.aload_n 0, 1) := by decide +kernel
theorem dX6_init_152 : decode cX6_init 152 = .ok (.bipush 8, 2) := by decide +kernel
theorem dX6_init_154 : decode cX6_init 154 = .ok (.newarray .int, 2) := by decide +kernel
theorem dX6_init_156 : decode cX6_init 156 = .ok (.putfield 64, 3) := by decide +kernel
theorem dX6_init_159 : decode cX6_init 159 = .ok (.aload_n 0, 1) := by decide +kernel
theorem dX6_init_160 : decode cX6_init 160 = .ok (.bipush 8, 2) := by decide +kernel
theorem dX6_init_162 : decode cX6_init 162 = .ok (.newarray .int, 2) := by decide +kernel
theorem dX6_init_164 : decode cX6_init 164 = .ok (.putfield 67, 3) := by decide +kernel
theorem dX6_init_167 : decode cX6_init 167 = .ok (.aload_n 0, 1) := by decide +kernel
theorem dX6_init_168 : decode cX6_init 168 = .ok (.bipush 32, 2) := by decide +kernel
theorem dX6_init_170 : decode cX6_init 170 = .ok (.newarray .int, 2) := by decide +kernel
theorem dX6_init_172 : decode cX6_init 172 = .ok (.putfield 70, 3) := by decide +kernel
theorem dX6_init_175 : decode cX6_init 175 = .ok (.aload_n 0, 1) := by decide +kernel
theorem dX6_init_176 : decode cX6_init 176 = .ok (.sipush 512, 3) := by decide +kernel
theorem dX6_init_179 : decode cX6_init 179 = .ok (.newarray .int, 2) := by decide +kernel
theorem dX6_init_181 : decode cX6_init 181 = .ok (.putfield 73, 3) := by decide +kernel
theorem dX6_init_184 : decode cX6_init 184 = .ok (.aload_n 0, 1) := by decide +kernel
theorem dX6_init_185 : decode cX6_init 185 = .ok (.sipush 512, 3) := by decide +kernel
theorem dX6_init_188 : decode cX6_init 188 = .ok (.newarray .long, 2) := by decide +kernel
theorem dX6_init_190 : decode cX6_init 190 = .ok (.putfield 76, 3) := by decide +kernel
theorem dX6_init_193 : decode cX6_init 193 = .ok (.aload_n 0, 1) := by decide +kernel
theorem dX6_init_194 : decode cX6_init 194 = .ok (.bipush 8, 2) := by decide +kernel
theorem dX6_init_196 : decode cX6_init 196 = .ok (.newarray .int, 2) := by decide +kernel
theorem dX6_init_198 : decode cX6_init 198 = .ok (.putfield 79, 3) := by decide +kernel
theorem dX6_init_201 : decode cX6_init 201 = .ok (.aload_n 0, 1) := by decide +kernel
theorem dX6_init_202 : decode cX6_init 202 = .ok (.sipush 1600, 3) := by decide +kernel
theorem dX6_init_205 : decode cX6_init 205 = .ok (.newarray .int, 2) := by decide +kernel
theorem dX6_init_207 : decode cX6_init 207 = .ok (.putfield 82, 3) := by decide +kernel
theorem dX6_init_210 : decode cX6_init 210 = .ok (.aload_n 0, 1) := by decide +kernel
theorem dX6_init_211 : decode cX6_init 211 = .ok (.sipush 1600, 3) := by decide +kernel
theorem dX6_init_214 : decode cX6_init 214 = .ok (.newarray .int, 2) := by decide +kernel
theorem dX6_init_216 : decode cX6_init 216 = .ok (.putfield 85, 3) := by decide +kernel
theorem dX6_init_219 : decode cX6_init 219 = .ok (.aload_n 0, 1) := by decide +kernel
theorem dX6_init_220 : decode cX6_init 220 = .ok (.sipush 384, 3) := by decide +kernel
theorem dX6_init_223 : decode cX6_init 223 = .ok (.newarray .boolean, 2) := by decide +kernel
theorem dX6_init_225 : decode cX6_init 225 = .ok (.putfield 88, 3) := by decide +kernel
theorem dX6_init_228 : decode cX6_init 228 = .ok (.aload_n 0, 1) := by decide +kernel
theorem dX6_init_229 : decode cX6_init 229 = .ok (.iload_n 1, 1) := by decide +kernel
theorem dX6_init_230 : decode cX6_init 230 = .ok (.iconst 2, 1) := by decide +kernel
theorem dX6_init_231 : decode cX6_init 231 = .ok (.if_icmp .ge 7, 3) := by decide +kernel
theorem dX6_init_234 : decode cX6_init 234 = .ok (.iconst 2, 1) := by decide +kernel
theorem dX6_init_235 : decode cX6_init 235 = .ok (.goto 13, 3) := by decide +kernel
theorem dX6_init_238 : decode cX6_init 238 = .ok (.iload_n 1, 1) := by decide +kernel
theorem dX6_init_239 : decode cX6_init 239 = .ok (.iconst 4, 1) := by decide +kernel
theorem dX6_init_240 : decode cX6_init 240 = .ok (.if_icmp .le 7, 3) := by decide +kernel
theorem dX6_init_243 : decode cX6_init 243 = .ok (.iconst 4, 1) := by decide +kernel
theorem dX6_init_244 : decode cX6_init 244 = .ok (.goto 4, 3) := by decide +kernel
theorem dX6_init_247 : decode cX6_init 247 = .ok (.iload_n 1, 1) := by decide +kernel
theorem dX6_init_248 : decode cX6_init 248 = .ok (.putfield 91, 3) := by decide +kernel
theorem dX6_init_251 : decode cX6_init 251 = .ok (.iconst 0, 1) := by decide +kernel
theorem dX6_init_252 : decode cX6_init 252 = .ok (.istore_n 2, 1) := by decide +kernel
theorem dX6_init_253 : decode cX6_init 253 = .ok (.iload_n 2, 1) := by decide +kernel
theorem dX6_init_254 : decode cX6_init 254 = .ok (.bipush 48, 2) := by decide +kernel
theorem dX6_init_256 : decode cX6_init 256 = .ok (.if_icmp .ge 16, 3) := by decide +kernel
theorem dX6_init_259 : decode cX6_init 259 = .ok (.aload_n 0, 1) := by decide +kernel
theorem dX6_init_260 : decode cX6_init 260 = .ok (.getfield 39, 3) := by decide +kernel
theorem dX6_init_263 : decode cX6_init 263 = .ok (.iload_n 2, 1) := by decide +kernel
theorem dX6_init_264 : decode cX6_init 264 = .ok (.iconst (-1), 1) := by decide +kernel
theorem dX6_init_265 : decode cX6_init 265 = .ok (.iastore, 1) := by decide +kernel
theorem dX6_init_266 : decode cX6_init 266 = .ok (.iinc 2 1, 3) := by decide +kernel
theorem dX6_init_269 : decode cX6_init 269 = .ok (.goto (-16), 3) := by decide +kernel
theorem dX6_init_272 : decode cX6_init 272 = .ok (.return_, 1) := by decide +kernel
theorem dX6_in_0 : decode cX6_in 0 = .ok (.iload_n 0, 1) := by decide +kernel
theorem dX6_in_1 : decode cX6_in 1 = .ok (.iload_n 1, 1) := by decide +kernel
theorem dX6_in_2 : decode cX6_in 2 = .ok (.if_icmp .lt 12, 3) := by decide +kernel
theorem dX6_in_5 : decode cX6_in 5 = .ok (.iload_n 0, 1) := by decide +kernel
theorem dX6_in_6 : decode cX6_in 6 = .ok (.iload_n 2, 1) := by decide +kernel
theorem dX6_in_7 : decode cX6_in 7 = .ok (.if_icmp .gt 7, 3) := by decide +kernel
theorem dX6_in_10 : decode cX6_in 10 = .ok (.iconst 1, 1) := by decide +kernel
theorem dX6_in_11 : decode cX6_in 11 = .ok (.goto 4, 3) := by decide +kernel
theorem dX6_in_14 : decode cX6_in 14 = .ok (.iconst 0, 1) := by decide +kernel
theorem dX6_in_15 : decode cX6_in 15 = .ok (.ireturn, 1) := by decide +kernel
theorem dX6_isStage_0 : decode cX6_isStage 0 = .ok (.iload_n 1, 1) := by decide +kernel
theorem dX6_isStage_1 : decode cX6_isStage 1 = .ok (.iconst 0, 1) := by decide +kernel
theorem dX6_isStage_2 : decode cX6_isStage 2 = .ok (.aload_n 0, 1) := by decide +kernel
theorem dX6_isStage_3 : decode cX6_isStage 3 = .ok (.getfield 91, 3) := by decide +kernel
theorem dX6_isStage_6 : decode cX6_isStage 6 = .ok (.iconst 1, 1) := by decide +kernel
theorem dX6_isStage_7 : decode cX6_isStage 7 = .ok (.isub, 1) := by decide +kernel
theorem dX6_isStage_8 : decode cX6_isStage 8 = .ok (.invokestatic 94, 3) := by decide +kernel
theorem dX6_isStage_11 : decode cX6_isStage 11 = .ok (.ireturn, 1) := by decide +kernel
theorem dX6_isTask_0 : decode cX6_isTask 0 = .ok (.aload_n 0, 1) := by decide +kernel
theorem dX6_isTask_1 : decode cX6_isTask 1 = .ok (.iload_n 1, 1) := by decide +kernel
theorem dX6_isTask_2 : decode cX6_isTask 2 = .ok (.invokevirtual 98, 3) := by decide +kernel
theorem dX6_isTask_5 : decode cX6_isTask 5 = .ok (.ifCond .eq 23, 3) := by decide +kernel
theorem dX6_isTask_8 : decode cX6_isTask 8 = .ok (.iload_n 2, 1) := by decide +kernel
theorem dX6_isTask_9 : decode cX6_isTask 9 = .ok (.iconst 0, 1) := by decide +kernel
theorem dX6_isTask_10 : decode cX6_isTask 10 = .ok (.aload_n 0, 1) := by decide +kernel
theorem dX6_isTask_11 : decode cX6_isTask 11 = .ok (.getfield 7, 3) := by decide +kernel
theorem dX6_isTask_14 : decode cX6_isTask 14 = .ok (.iload_n 1, 1) := by decide +kernel
theorem dX6_isTask_15 : decode cX6_isTask 15 = .ok (.iaload, 1) := by decide +kernel
theorem dX6_isTask_16 : decode cX6_isTask 16 = .ok (.iconst 1, 1) := by decide +kernel
theorem dX6_isTask_17 : decode cX6_isTask 17 = .ok (.isub, 1) := by decide +kernel
theorem dX6_isTask_18 : decode cX6_isTask 18 = .ok (.invokestatic 94, 3) := by decide +kernel
theorem dX6_isTask_21 : decode cX6_isTask 21 = .ok (.ifCond .eq 7, 3) := by decide +kernel
theorem dX6_isTask_24 : decode cX6_isTask 24 = .ok (.iconst 1, 1) := by decide +kernel
theorem dX6_isTask_25 : decode cX6_isTask 25 = .ok (.goto 4, 3) := by decide +kernel
theorem dX6_isTask_28 : decode cX6_isTask 28 = .ok (.iconst 0, 1) := by decide +kernel
theorem dX6_isTask_29 : decode cX6_isTask 29 = .ok (.ireturn, 1) := by decide +kernel
theorem dX6_isChannel_0 : decode cX6_isChannel 0 = .ok (.iload_n 1, 1) := by decide +kernel
theorem dX6_isChannel_1 : decode cX6_isChannel 1 = .ok (.iconst 0, 1) := by decide +kernel
theorem dX6_isChannel_2 : decode cX6_isChannel 2 = .ok (.aload_n 0, 1) := by decide +kernel
theorem dX6_isChannel_3 : decode cX6_isChannel 3 = .ok (.getfield 91, 3) := by decide +kernel
theorem dX6_isChannel_6 : decode cX6_isChannel 6 = .ok (.iconst 2, 1) := by decide +kernel
theorem dX6_isChannel_7 : decode cX6_isChannel 7 = .ok (.isub, 1) := by decide +kernel
theorem dX6_isChannel_8 : decode cX6_isChannel 8 = .ok (.invokestatic 94, 3) := by decide +kernel
theorem dX6_isChannel_11 : decode cX6_isChannel 11 = .ok (.ifCond .eq 41, 3) := by decide +kernel
theorem dX6_isChannel_14 : decode cX6_isChannel 14 = .ok (.iload_n 2, 1) := by decide +kernel
theorem dX6_isChannel_15 : decode cX6_isChannel 15 = .ok (.iconst 0, 1) := by decide +kernel
theorem dX6_isChannel_16 : decode cX6_isChannel 16 = .ok (.aload_n 0, 1) := by decide +kernel
theorem dX6_isChannel_17 : decode cX6_isChannel 17 = .ok (.getfield 7, 3) := by decide +kernel
theorem dX6_isChannel_20 : decode cX6_isChannel 20 = .ok (.iload_n 1, 1) := by decide +kernel
theorem dX6_isChannel_21 : decode cX6_isChannel 21 = .ok (.iaload, 1) := by decide +kernel
theorem dX6_isChannel_22 : decode cX6_isChannel 22 = .ok (.iconst 1, 1) := by decide +kernel
theorem dX6_isChannel_23 : decode cX6_isChannel 23 = .ok (.isub, 1) := by decide +kernel
theorem dX6_isChannel_24 : decode cX6_isChannel 24 = .ok (.invokestatic 94, 3) := by decide +kernel
theorem dX6_isChannel_27 : decode cX6_isChannel 27 = .ok (.ifCond .eq 25, 3) := by decide +kernel
theorem dX6_isChannel_30 : decode cX6_isChannel 30 = .ok (.iload_n 3, 1) := by decide +kernel
theorem dX6_isChannel_31 : decode cX6_isChannel 31 = .ok (.iconst 0, 1) := by decide +kernel
theorem dX6_isChannel_32 : decode cX6_isChannel 32 = .ok (.aload_n 0, 1) := by decide +kernel
theorem dX6_isChannel_33 : decode cX6_isChannel 33 = .ok (.getfield 7, 3) := by decide +kernel
theorem dX6_isChannel_36 : decode cX6_isChannel 36 = .ok (.iload_n 1, 1) := by decide +kernel
theorem dX6_isChannel_37 : decode cX6_isChannel 37 = .ok (.iconst 1, 1) := by decide +kernel
theorem dX6_isChannel_38 : decode cX6_isChannel 38 = .ok (.iadd, 1) := by decide +kernel
theorem dX6_isChannel_39 : decode cX6_isChannel 39 = .ok (.iaload, 1) := by decide +kernel
theorem dX6_isChannel_40 : decode cX6_isChannel 40 = .ok (.iconst 1, 1) := by decide +kernel
theorem dX6_isChannel_41 : decode cX6_isChannel 41 = .ok (.isub, 1) := by decide +kernel
theorem dX6_isChannel_42 : decode cX6_isChannel 42 = .ok (.invokestatic 94, 3) := by decide +kernel
theorem dX6_isChannel_45 : decode cX6_isChannel 45 = .ok (.ifCond .eq 7, 3) := by decide +kernel
theorem dX6_isChannel_48 : decode cX6_isChannel 48 = .ok (.iconst 1, 1) := by decide +kernel
theorem dX6_isChannel_49 : decode cX6_isChannel 49 = .ok (.goto 4, 3) := by decide +kernel
theorem dX6_isChannel_52 : decode cX6_isChannel 52 = .ok (.iconst 0, 1) := by decide +kernel
theorem dX6_isChannel_53 : decode cX6_isChannel 53 = .ok (.ireturn, 1) := by decide +kernel
theorem dX6_at_0 : decode cX6_at 0 = .ok (.bipush 16, 2) := by decide +kernel
theorem dX6_at_2 : decode cX6_at 2 = .ok (.iload_n 0, 1) := by decide +kernel
theorem dX6_at_3 : decode cX6_at 3 = .ok (.imul, 1) := by decide +kernel
theorem dX6_at_4 : decode cX6_at 4 = .ok (.iconst 4, 1) := by decide +kernel
theorem dX6_at_5 : decode cX6_at 5 = .ok (.iload_n 1, 1) := by decide +kernel
theorem dX6_at_6 : decode cX6_at 6 = .ok (.imul, 1) := by decide +kernel
theorem dX6_at_7 : decode cX6_at 7 = .ok (.iadd, 1) := by decide +kernel
theorem dX6_at_8 : decode cX6_at 8 = .ok (.iload_n 2, 1) := by decide +kernel
theorem dX6_at_9 : decode cX6_at 9 = .ok (.iadd, 1) := by decide +kernel
theorem dX6_at_10 : decode cX6_at 10 = .ok (.ireturn, 1) := by decide +kernel
theorem dX6_wide_0 : decode cX6_wide 0 = .ok (.aload_n 0, 1) := by decide +kernel
theorem dX6_wide_1 : decode cX6_wide 1 = .ok (.iload_n 1, 1) := by decide +kernel
theorem dX6_wide_2 : decode cX6_wide 2 = .ok (.invokevirtual 98, 3) := by decide +kernel
theorem dX6_wide_5 : decode cX6_wide 5 = .ok (.ifCond .ne 6, 3) := by decide +kernel
theorem dX6_wide_8 : decode cX6_wide 8 = .ok (.bipush (-101), 2) := by decide +kernel
theorem dX6_wide_10 : decode cX6_wide 10 = .ok (.ireturn, 1) := by decide +kernel
theorem dX6_wide_11 : decode cX6_wide 11 = .ok (.iload_n 2, 1) := by decide +kernel
theorem dX6_wide_12 : decode cX6_wide 12 = .ok (.iconst 1, 1) := by decide +kernel
theorem dX6_wide_13 : decode cX6_wide 13 = .ok (.iconst 4, 1) := by decide +kernel
theorem dX6_wide_14 : decode cX6_wide 14 = .ok (.invokestatic 94, 3) := by decide +kernel
theorem dX6_wide_17 : decode cX6_wide 17 = .ok (.ifCond .ne 6, 3) := by decide +kernel
theorem dX6_wide_20 : decode cX6_wide 20 = .ok (.bipush (-102), 2) := by decide +kernel
theorem dX6_wide_22 : decode cX6_wide 22 = .ok (.ireturn, 1) := by decide +kernel
theorem dX6_wide_23 : decode cX6_wide 23 = .ok (.aload_n 0, 1) := by decide +kernel
theorem dX6_wide_24 : decode cX6_wide 24 = .ok (.getfield 102, 3) := by decide +kernel
theorem dX6_wide_27 : decode cX6_wide 27 = .ok (.ifCond .gt 10, 3) := by decide +kernel
theorem dX6_wide_30 : decode cX6_wide 30 = .ok (.aload_n 0, 1) := by decide +kernel
theorem dX6_wide_31 : decode cX6_wide 31 = .ok (.getfield 105, 3) := by decide +kernel
theorem dX6_wide_34 : decode cX6_wide 34 = .ok (.ifCond .le 6, 3) := by decide +kernel
theorem dX6_wide_37 : decode cX6_wide 37 = .ok (.bipush (-103), 2) := by decide +kernel
theorem dX6_wide_39 : decode cX6_wide 39 = .ok (.ireturn, 1) := by decide +kernel
theorem dX6_wide_40 : decode cX6_wide 40 = .ok (.aload_n 0, 1) := by decide +kernel
theorem dX6_wide_41 : decode cX6_wide 41 = .ok (.getfield 7, 3) := by decide +kernel
theorem dX6_wide_44 : decode cX6_wide 44 = .ok (.iload_n 1, 1) := by decide +kernel
theorem dX6_wide_45 : decode cX6_wide 45 = .ok (.iaload, 1) := by decide +kernel
theorem dX6_wide_46 : decode cX6_wide 46 = .ok (.istore_n 3, 1) := by decide +kernel
theorem dX6_wide_47 : decode cX6_wide 47 = .ok (.aload_n 0, 1) := by decide +kernel
theorem dX6_wide_48 : decode cX6_wide 48 = .ok (.getfield 7, 3) := by decide +kernel
theorem dX6_wide_51 : decode cX6_wide 51 = .ok (.iload_n 1, 1) := by decide +kernel
theorem dX6_wide_52 : decode cX6_wide 52 = .ok (.iload_n 2, 1) := by decide +kernel
theorem dX6_wide_53 : decode cX6_wide 53 = .ok (.iastore, 1) := by decide +kernel
theorem dX6_wide_54 : decode cX6_wide 54 = .ok (.iload_n 3, 1) := by decide +kernel
theorem dX6_wide_55 : decode cX6_wide 55 = .ok (.ireturn, 1) := by decide +kernel
theorem dX6_capacity_0 : decode cX6_capacity 0 = .ok (.iload_n 1, 1) := by decide +kernel
theorem dX6_capacity_1 : decode cX6_capacity 1 = .ok (.iconst 1, 1) := by decide +kernel
theorem dX6_capacity_2 : decode cX6_capacity 2 = .ok (.bipush 20, 2) := by decide +kernel
theorem dX6_capacity_4 : decode cX6_capacity 4 = .ok (.invokestatic 94, 3) := by decide +kernel
theorem dX6_capacity_7 : decode cX6_capacity 7 = .ok (.ifCond .ne 6, 3) := by decide +kernel
theorem dX6_capacity_10 : decode cX6_capacity 10 = .ok (.bipush (-102), 2) := by decide +kernel
theorem dX6_capacity_12 : decode cX6_capacity 12 = .ok (.ireturn, 1) := by decide +kernel
theorem dX6_capacity_13 : decode cX6_capacity 13 = .ok (.aload_n 0, 1) := by decide +kernel
theorem dX6_capacity_14 : decode cX6_capacity 14 = .ok (.getfield 13, 3) := by decide +kernel
theorem dX6_capacity_17 : decode cX6_capacity 17 = .ok (.istore_n 2, 1) := by decide +kernel
theorem dX6_capacity_18 : decode cX6_capacity 18 = .ok (.aload_n 0, 1) := by decide +kernel
theorem dX6_capacity_19 : decode cX6_capacity 19 = .ok (.iload_n 1, 1) := by decide +kernel
theorem dX6_capacity_20 : decode cX6_capacity 20 = .ok (.putfield 13, 3) := by decide +kernel
theorem dX6_capacity_23 : decode cX6_capacity 23 = .ok (.iload_n 2, 1) := by decide +kernel
theorem dX6_capacity_24 : decode cX6_capacity 24 = .ok (.ireturn, 1) := by decide +kernel
theorem dX6_bound_0 : decode cX6_bound 0 = .ok (.iload_n 1, 1) := by decide +kernel
theorem dX6_bound_1 : decode cX6_bound 1 = .ok (.iconst (-1), 1) := by decide +kernel
theorem dX6_bound_2 : decode cX6_bound 2 = .ok (.sipush 1000, 3) := by decide +kernel
theorem dX6_bound_5 : decode cX6_bound 5 = .ok (.invokestatic 94, 3) := by decide +kernel
theorem dX6_bound_8 : decode cX6_bound 8 = .ok (.ifCond .ne 6, 3) := by decide +kernel
theorem dX6_bound_11 : decode cX6_bound 11 = .ok (.bipush (-102), 2) := by decide +kernel
theorem dX6_bound_13 : decode cX6_bound 13 = .ok (.ireturn, 1) := by decide +kernel
theorem dX6_bound_14 : decode cX6_bound 14 = .ok (.aload_n 0, 1) := by decide +kernel
theorem dX6_bound_15 : decode cX6_bound 15 = .ok (.getfield 58, 3) := by decide +kernel
theorem dX6_bound_18 : decode cX6_bound 18 = .ok (.iconst (-1), 1) := by decide +kernel
theorem dX6_bound_19 : decode cX6_bound 19 = .ok (.if_icmp .eq 6, 3) := by decide +kernel
theorem dX6_bound_22 : decode cX6_bound 22 = .ok (.bipush (-103), 2) := by decide +kernel
theorem dX6_bound_24 : decode cX6_bound 24 = .ok (.ireturn, 1) := by decide +kernel
theorem dX6_bound_25 : decode cX6_bound 25 = .ok (.aload_n 0, 1) := by decide +kernel
theorem dX6_bound_26 : decode cX6_bound 26 = .ok (.getfield 108, 3) := by decide +kernel
theorem dX6_bound_29 : decode cX6_bound 29 = .ok (.istore_n 2, 1) := by decide +kernel
theorem dX6_bound_30 : decode cX6_bound 30 = .ok (.aload_n 0, 1) := by decide +kernel
theorem dX6_bound_31 : decode cX6_bound 31 = .ok (.iload_n 1, 1) := by decide +kernel
theorem dX6_bound_32 : decode cX6_bound 32 = .ok (.putfield 108, 3) := by decide +kernel
theorem dX6_bound_35 : decode cX6_bound 35 = .ok (.iload_n 2, 1) := by decide +kernel
theorem dX6_bound_36 : decode cX6_bound 36 = .ok (.ireturn, 1) := by decide +kernel
theorem dX6_limit_0 : decode cX6_limit 0 = .ok (.iload_n 1, 1) := by decide +kernel
theorem dX6_limit_1 : decode cX6_limit 1 = .ok (.iconst 0, 1) := by decide +kernel
theorem dX6_limit_2 : decode cX6_limit 2 = .ok (.sipush 200, 3) := by decide +kernel
theorem dX6_limit_5 : decode cX6_limit 5 = .ok (.invokestatic 94, 3) := by decide +kernel
theorem dX6_limit_8 : decode cX6_limit 8 = .ok (.ifCond .ne 6, 3) := by decide +kernel
theorem dX6_limit_11 : decode cX6_limit 11 = .ok (.bipush (-102), 2) := by decide +kernel
theorem dX6_limit_13 : decode cX6_limit 13 = .ok (.ireturn, 1) := by decide +kernel
theorem dX6_limit_14 : decode cX6_limit 14 = .ok (.aload_n 0, 1) := by decide +kernel
theorem dX6_limit_15 : decode cX6_limit 15 = .ok (.getfield 17, 3) := by decide +kernel
theorem dX6_limit_18 : decode cX6_limit 18 = .ok (.istore_n 2, 1) := by decide +kernel
theorem dX6_limit_19 : decode cX6_limit 19 = .ok (.aload_n 0, 1) := by decide +kernel
theorem dX6_limit_20 : decode cX6_limit 20 = .ok (.iload_n 1, 1) := by decide +kernel
theorem dX6_limit_21 : decode cX6_limit 21 = .ok (.putfield 17, 3) := by decide +kernel
theorem dX6_limit_24 : decode cX6_limit 24 = .ok (.iload_n 2, 1) := by decide +kernel
theorem dX6_limit_25 : decode cX6_limit 25 = .ok (.ireturn, 1) := by decide +kernel
theorem dX6_feed_0 : decode cX6_feed 0 = .ok (.iload_n 1, 1) := by decide +kernel
theorem dX6_feed_1 : decode cX6_feed 1 = .ok (.iconst 0, 1) := by decide +kernel
theorem dX6_feed_2 : decode cX6_feed 2 = .ok (.bipush 15, 2) := by decide +kernel
theorem dX6_feed_4 : decode cX6_feed 4 = .ok (.invokestatic 94, 3) := by decide +kernel
theorem dX6_feed_7 : decode cX6_feed 7 = .ok (.ifCond .ne 6, 3) := by decide +kernel
theorem dX6_feed_10 : decode cX6_feed 10 = .ok (.bipush (-102), 2) := by decide +kernel
theorem dX6_feed_12 : decode cX6_feed 12 = .ok (.ireturn, 1) := by decide +kernel
theorem dX6_feed_13 : decode cX6_feed 13 = .ok (.aload_n 0, 1) := by decide +kernel
theorem dX6_feed_14 : decode cX6_feed 14 = .ok (.getfield 111, 3) := by decide +kernel
theorem dX6_feed_17 : decode cX6_feed 17 = .ok (.sipush 200, 3) := by decide +kernel
theorem dX6_feed_20 : decode cX6_feed 20 = .ok (.if_icmp .ne 6, 3) := by decide +kernel
theorem dX6_feed_23 : decode cX6_feed 23 = .ok (.bipush (-104), 2) := by decide +kernel
theorem dX6_feed_25 : decode cX6_feed 25 = .ok (.ireturn, 1) := by decide +kernel
theorem dX6_feed_26 : decode cX6_feed 26 = .ok (.aload_n 0, 1) := by decide +kernel
theorem dX6_feed_27 : decode cX6_feed 27 = .ok (.getfield 20, 3) := by decide +kernel
theorem dX6_feed_30 : decode cX6_feed 30 = .ok (.aload_n 0, 1) := by decide +kernel
theorem dX6_feed_31 : decode cX6_feed 31 = .ok (.getfield 111, 3) := by decide +kernel
theorem dX6_feed_34 : decode cX6_feed 34 = .ok (.iload_n 1, 1) := by decide +kernel
theorem dX6_feed_35 : decode cX6_feed 35 = .ok (.iastore, 1) := by decide +kernel
theorem dX6_feed_36 : decode cX6_feed 36 = .ok (.aload_n 0, 1) := by decide +kernel
theorem dX6_feed_37 : decode cX6_feed 37 = .ok (.getfield 23, 3) := by decide +kernel
theorem dX6_feed_40 : decode cX6_feed 40 = .ok (.aload_n 0, 1) := by decide +kernel
theorem dX6_feed_41 : decode cX6_feed 41 = .ok (.getfield 111, 3) := by decide +kernel
theorem dX6_feed_44 : decode cX6_feed 44 = .ok (.lload_n 2, 1) := by decide +kernel
theorem dX6_feed_45 : decode cX6_feed 45 = .ok (.lastore, 1) := by decide +kernel
theorem dX6_feed_46 : decode cX6_feed 46 = .ok (.aload_n 0, 1) := by decide +kernel
theorem dX6_feed_47 : decode cX6_feed 47 = .ok (.dup, 1) := by decide +kernel
theorem dX6_feed_48 : decode cX6_feed 48 = .ok (.getfield 111, 3) := by decide +kernel
theorem dX6_feed_51 : decode cX6_feed 51 = .ok (.iconst 1, 1) := by decide +kernel
theorem dX6_feed_52 : decode cX6_feed 52 = .ok (.iadd, 1) := by decide +kernel
theorem dX6_feed_53 : decode cX6_feed 53 = .ok (.putfield 111, 3) := by decide +kernel
theorem dX6_feed_56 : decode cX6_feed 56 = .ok (.aload_n 0, 1) := by decide +kernel
theorem dX6_feed_57 : decode cX6_feed 57 = .ok (.getfield 111, 3) := by decide +kernel
theorem dX6_feed_60 : decode cX6_feed 60 = .ok (.iconst 1, 1) := by decide +kernel
theorem dX6_feed_61 : decode cX6_feed 61 = .ok (.isub, 1) := by decide +kernel
theorem dX6_feed_62 : decode cX6_feed 62 = .ok (.ireturn, 1) := by decide +kernel
theorem dX6_end_0 : decode cX6_end 0 = .ok (.aload_n 0, 1) := by decide +kernel
theorem dX6_end_1 : decode cX6_end 1 = .ok (.getfield 61, 3) := by decide +kernel
theorem dX6_end_4 : decode cX6_end 4 = .ok (.aload_n 0, 1) := by decide +kernel
theorem dX6_end_5 : decode cX6_end 5 = .ok (.getfield 58, 3) := by decide +kernel
theorem dX6_end_8 : decode cX6_end 8 = .ok (.iload_n 1, 1) := by decide +kernel
theorem dX6_end_9 : decode cX6_end 9 = .ok (.iastore, 1) := by decide +kernel
theorem dX6_end_10 : decode cX6_end 10 = .ok (.aload_n 0, 1) := by decide +kernel
theorem dX6_end_11 : decode cX6_end 11 = .ok (.getfield 67, 3) := by decide +kernel
theorem dX6_end_14 : decode cX6_end 14 = .ok (.aload_n 0, 1) := by decide +kernel
theorem dX6_end_15 : decode cX6_end 15 = .ok (.getfield 58, 3) := by decide +kernel
theorem dX6_end_18 : decode cX6_end 18 = .ok (.aload_n 0, 1) := by decide +kernel
theorem dX6_end_19 : decode cX6_end 19 = .ok (.getfield 102, 3) := by decide +kernel
theorem dX6_end_22 : decode cX6_end 22 = .ok (.aload_n 0, 1) := by decide +kernel
theorem dX6_end_23 : decode cX6_end 23 = .ok (.getfield 64, 3) := by decide +kernel
theorem dX6_end_26 : decode cX6_end 26 = .ok (.aload_n 0, 1) := by decide +kernel
theorem dX6_end_27 : decode cX6_end 27 = .ok (.getfield 58, 3) := by decide +kernel
theorem dX6_end_30 : decode cX6_end 30 = .ok (.iaload, 1) := by decide +kernel
theorem dX6_end_31 : decode cX6_end 31 = .ok (.isub, 1) := by decide +kernel
theorem dX6_end_32 : decode cX6_end 32 = .ok (.iastore, 1) := by decide +kernel
theorem dX6_end_33 : decode cX6_end 33 = .ok (.aload_n 0, 1) := by decide +kernel
theorem dX6_end_34 : decode cX6_end 34 = .ok (.iconst (-1), 1) := by decide +kernel
theorem dX6_end_35 : decode cX6_end 35 = .ok (.putfield 58, 3) := by decide +kernel
theorem dX6_end_38 : decode cX6_end 38 = .ok (.iconst 0, 1) := by decide +kernel
theorem dX6_end_39 : decode cX6_end 39 = .ok (.istore_n 2, 1) := by decide +kernel
theorem dX6_end_40 : decode cX6_end 40 = .ok (.iload_n 2, 1) := by decide +kernel
theorem dX6_end_41 : decode cX6_end 41 = .ok (.bipush 48, 2) := by decide +kernel
theorem dX6_end_43 : decode cX6_end 43 = .ok (.if_icmp .ge 23, 3) := by decide +kernel
theorem dX6_end_46 : decode cX6_end 46 = .ok (.aload_n 0, 1) := by decide +kernel
theorem dX6_end_47 : decode cX6_end 47 = .ok (.getfield 39, 3) := by decide +kernel
theorem dX6_end_50 : decode cX6_end 50 = .ok (.iload_n 2, 1) := by decide +kernel
theorem dX6_end_51 : decode cX6_end 51 = .ok (.iconst (-1), 1) := by decide +kernel
theorem dX6_end_52 : decode cX6_end 52 = .ok (.iastore, 1) := by decide +kernel
theorem dX6_end_53 : decode cX6_end 53 = .ok (.aload_n 0, 1) := by decide +kernel
theorem dX6_end_54 : decode cX6_end 54 = .ok (.getfield 42, 3) := by decide +kernel
theorem dX6_end_57 : decode cX6_end 57 = .ok (.iload_n 2, 1) := by decide +kernel
theorem dX6_end_58 : decode cX6_end 58 = .ok (.iconst 0, 1) := by decide +kernel
theorem dX6_end_59 : decode cX6_end 59 = .ok (.bastore, 1) := by decide +kernel
theorem dX6_end_60 : decode cX6_end 60 = .ok (.iinc 2 1, 3) := by decide +kernel
theorem dX6_end_63 : decode cX6_end 63 = .ok (.goto (-23), 3) := by decide +kernel
theorem dX6_end_66 : decode cX6_end 66 = .ok (.iconst 0, 1) := by decide +kernel
theorem dX6_end_67 : decode cX6_end 67 = .ok (.istore_n 2, 1) := by decide +kernel
theorem dX6_end_68 : decode cX6_end 68 = .ok (.iload_n 2, 1) := by decide +kernel
theorem dX6_end_69 : decode cX6_end 69 = .ok (.bipush 16, 2) := by decide +kernel
theorem dX6_end_71 : decode cX6_end 71 = .ok (.if_icmp .ge 23, 3) := by decide +kernel
theorem dX6_end_74 : decode cX6_end 74 = .ok (.aload_n 0, 1) := by decide +kernel
theorem dX6_end_75 : decode cX6_end 75 = .ok (.getfield 46, 3) := by decide +kernel
theorem dX6_end_78 : decode cX6_end 78 = .ok (.iload_n 2, 1) := by decide +kernel
theorem dX6_end_79 : decode cX6_end 79 = .ok (.iconst 0, 1) := by decide +kernel
theorem dX6_end_80 : decode cX6_end 80 = .ok (.bastore, 1) := by decide +kernel
theorem dX6_end_81 : decode cX6_end 81 = .ok (.aload_n 0, 1) := by decide +kernel
theorem dX6_end_82 : decode cX6_end 82 = .ok (.getfield 49, 3) := by decide +kernel
theorem dX6_end_85 : decode cX6_end 85 = .ok (.iload_n 2, 1) := by decide +kernel
theorem dX6_end_86 : decode cX6_end 86 = .ok (.iconst 0, 1) := by decide +kernel
theorem dX6_end_87 : decode cX6_end 87 = .ok (.bastore, 1) := by decide +kernel
theorem dX6_end_88 : decode cX6_end 88 = .ok (.iinc 2 1, 3) := by decide +kernel
theorem dX6_end_91 : decode cX6_end 91 = .ok (.goto (-23), 3) := by decide +kernel
theorem dX6_end_94 : decode cX6_end 94 = .ok (.return_, 1) := by decide +kernel
theorem dX6_keep_0 : decode cX6_keep 0 = .ok (.aload_n 0, 1) := by decide +kernel
theorem dX6_keep_1 : decode cX6_keep 1 = .ok (.getfield 58, 3) := by decide +kernel
theorem dX6_keep_4 : decode cX6_keep 4 = .ok (.istore_n 3, 1) := by decide +kernel
theorem dX6_keep_5 : decode cX6_keep 5 = .ok (.aload_n 0, 1) := by decide +kernel
theorem dX6_keep_6 : decode cX6_keep 6 = .ok (.getfield 79, 3) := by decide +kernel
theorem dX6_keep_9 : decode cX6_keep 9 = .ok (.iload_n 3, 1) := by decide +kernel
theorem dX6_keep_10 : decode cX6_keep 10 = .ok (.iaload, 1) := by decide +kernel
theorem dX6_keep_11 : decode cX6_keep 11 = .ok (.iconst 1, 1) := by decide +kernel
theorem dX6_keep_12 : decode cX6_keep 12 = .ok (.iadd, 1) := by decide +kernel
theorem dX6_keep_13 : decode cX6_keep 13 = .ok (.aload_n 0, 1) := by decide +kernel
theorem dX6_keep_14 : decode cX6_keep 14 = .ok (.getfield 17, 3) := by decide +kernel
theorem dX6_keep_17 : decode cX6_keep 17 = .ok (.if_icmp .le 9, 3) := by decide +kernel
theorem dX6_keep_20 : decode cX6_keep 20 = .ok (.aload_n 0, 1) := by decide +kernel
theorem dX6_keep_21 : decode cX6_keep 21 = .ok (.iconst 2, 1) := by decide +kernel
theorem dX6_keep_22 : decode cX6_keep 22 = .ok (.invokevirtual 114, 3) := by decide +kernel
theorem dX6_keep_25 : decode cX6_keep 25 = .ok (.return_, 1) := by decide +kernel
theorem dX6_keep_26 : decode cX6_keep 26 = .ok (.aload_n 0, 1) := by decide +kernel
theorem dX6_keep_27 : decode cX6_keep 27 = .ok (.getfield 82, 3) := by decide +kernel
theorem dX6_keep_30 : decode cX6_keep 30 = .ok (.sipush 200, 3) := by decide +kernel
theorem dX6_keep_33 : decode cX6_keep 33 = .ok (.iload_n 3, 1) := by decide +kernel
theorem dX6_keep_34 : decode cX6_keep 34 = .ok (.imul, 1) := by decide +kernel
theorem dX6_keep_35 : decode cX6_keep 35 = .ok (.aload_n 0, 1) := by decide +kernel
theorem dX6_keep_36 : decode cX6_keep 36 = .ok (.getfield 79, 3) := by decide +kernel
theorem dX6_keep_39 : decode cX6_keep 39 = .ok (.iload_n 3, 1) := by decide +kernel
theorem dX6_keep_40 : decode cX6_keep 40 = .ok (.iaload, 1) := by decide +kernel
theorem dX6_keep_41 : decode cX6_keep 41 = .ok (.iadd, 1) := by decide +kernel
theorem dX6_keep_42 : decode cX6_keep 42 = .ok (.iload_n 1, 1) := by decide +kernel
theorem dX6_keep_43 : decode cX6_keep 43 = .ok (.iastore, 1) := by decide +kernel
theorem dX6_keep_44 : decode cX6_keep 44 = .ok (.aload_n 0, 1) := by decide +kernel
theorem dX6_keep_45 : decode cX6_keep 45 = .ok (.getfield 85, 3) := by decide +kernel
theorem dX6_keep_48 : decode cX6_keep 48 = .ok (.sipush 200, 3) := by decide +kernel
theorem dX6_keep_51 : decode cX6_keep 51 = .ok (.iload_n 3, 1) := by decide +kernel
theorem dX6_keep_52 : decode cX6_keep 52 = .ok (.imul, 1) := by decide +kernel
theorem dX6_keep_53 : decode cX6_keep 53 = .ok (.aload_n 0, 1) := by decide +kernel
theorem dX6_keep_54 : decode cX6_keep 54 = .ok (.getfield 79, 3) := by decide +kernel
theorem dX6_keep_57 : decode cX6_keep 57 = .ok (.iload_n 3, 1) := by decide +kernel
theorem dX6_keep_58 : decode cX6_keep 58 = .ok (.iaload, 1) := by decide +kernel
theorem dX6_keep_59 : decode cX6_keep 59 = .ok (.iadd, 1) := by decide +kernel
theorem dX6_keep_60 : decode cX6_keep 60 = .ok (.iload_n 2, 1) := by decide +kernel
theorem dX6_keep_61 : decode cX6_keep 61 = .ok (.iastore, 1) := by decide +kernel
theorem dX6_keep_62 : decode cX6_keep 62 = .ok (.aload_n 0, 1) := by decide +kernel
theorem dX6_keep_63 : decode cX6_keep 63 = .ok (.getfield 79, 3) := by decide +kernel
theorem dX6_keep_66 : decode cX6_keep 66 = .ok (.iload_n 3, 1) := by decide +kernel
theorem dX6_keep_67 : decode cX6_keep 67 = .ok (.dup2, 1) := by decide +kernel
theorem dX6_keep_68 : decode cX6_keep 68 = .ok (.iaload, 1) := by decide +kernel
theorem dX6_keep_69 : decode cX6_keep 69 = .ok (.iconst 1, 1) := by decide +kernel
theorem dX6_keep_70 : decode cX6_keep 70 = .ok (.iadd, 1) := by decide +kernel
theorem dX6_keep_71 : decode cX6_keep 71 = .ok (.iastore, 1) := by decide +kernel
theorem dX6_keep_72 : decode cX6_keep 72 = .ok (.return_, 1) := by decide +kernel
theorem dX6_takePart_0 : decode cX6_takePart 0 = .ok (.aload_n 0, 1) := by decide +kernel
theorem dX6_takePart_1 : decode cX6_takePart 1 = .ok (.getfield 58, 3) := by decide +kernel
theorem dX6_takePart_4 : decode cX6_takePart 4 = .ok (.istore 4, 2) := by decide +kernel
theorem dX6_takePart_6 : decode cX6_takePart 6 = .ok (.aload_n 0, 1) := by decide +kernel
theorem dX6_takePart_7 : decode cX6_takePart 7 = .ok (.getfield 46, 3) := by decide +kernel
theorem dX6_takePart_10 : decode cX6_takePart 10 = .ok (.iconst 4, 1) := by decide +kernel
theorem dX6_takePart_11 : decode cX6_takePart 11 = .ok (.iload_n 1, 1) := by decide +kernel
theorem dX6_takePart_12 : decode cX6_takePart 12 = .ok (.imul, 1) := by decide +kernel
theorem dX6_takePart_13 : decode cX6_takePart 13 = .ok (.iload_n 2, 1) := by decide +kernel
theorem dX6_takePart_14 : decode cX6_takePart 14 = .ok (.iadd, 1) := by decide +kernel
theorem dX6_takePart_15 : decode cX6_takePart 15 = .ok (.iconst 1, 1) := by decide +kernel
theorem dX6_takePart_16 : decode cX6_takePart 16 = .ok (.bastore, 1) := by decide +kernel
theorem dX6_takePart_17 : decode cX6_takePart 17 = .ok (.aload_n 0, 1) := by decide +kernel
theorem dX6_takePart_18 : decode cX6_takePart 18 = .ok (.getfield 49, 3) := by decide +kernel
theorem dX6_takePart_21 : decode cX6_takePart 21 = .ok (.iconst 4, 1) := by decide +kernel
theorem dX6_takePart_22 : decode cX6_takePart 22 = .ok (.iload_n 1, 1) := by decide +kernel
theorem dX6_takePart_23 : decode cX6_takePart 23 = .ok (.imul, 1) := by decide +kernel
theorem dX6_takePart_24 : decode cX6_takePart 24 = .ok (.iload_n 2, 1) := by decide +kernel
theorem dX6_takePart_25 : decode cX6_takePart 25 = .ok (.iadd, 1) := by decide +kernel
theorem dX6_takePart_26 : decode cX6_takePart 26 = .ok (.iconst 0, 1) := by decide +kernel
theorem dX6_takePart_27 : decode cX6_takePart 27 = .ok (.bastore, 1) := by decide +kernel
theorem dX6_takePart_28 : decode cX6_takePart 28 = .ok (.iload_n 2, 1) := by decide +kernel
theorem dX6_takePart_29 : decode cX6_takePart 29 = .ok (.istore 5, 2) := by decide +kernel
theorem dX6_takePart_31 : decode cX6_takePart 31 = .ok (.iload 5, 2) := by decide +kernel
theorem dX6_takePart_33 : decode cX6_takePart 33 = .ok (.bipush 16, 2) := by decide +kernel
theorem dX6_takePart_35 : decode cX6_takePart 35 = .ok (.if_icmp .ge 77, 3) := by decide +kernel
theorem dX6_takePart_38 : decode cX6_takePart 38 = .ok (.aload_n 0, 1) := by decide +kernel
theorem dX6_takePart_39 : decode cX6_takePart 39 = .ok (.getfield 73, 3) := by decide +kernel
theorem dX6_takePart_42 : decode cX6_takePart 42 = .ok (.bipush 64, 2) := by decide +kernel
theorem dX6_takePart_44 : decode cX6_takePart 44 = .ok (.iload 4, 2) := by decide +kernel
theorem dX6_takePart_46 : decode cX6_takePart 46 = .ok (.imul, 1) := by decide +kernel
theorem dX6_takePart_47 : decode cX6_takePart 47 = .ok (.bipush 16, 2) := by decide +kernel
theorem dX6_takePart_49 : decode cX6_takePart 49 = .ok (.iload_n 1, 1) := by decide +kernel
theorem dX6_takePart_50 : decode cX6_takePart 50 = .ok (.imul, 1) := by decide +kernel
theorem dX6_takePart_51 : decode cX6_takePart 51 = .ok (.iadd, 1) := by decide +kernel
theorem dX6_takePart_52 : decode cX6_takePart 52 = .ok (.iload 5, 2) := by decide +kernel
theorem dX6_takePart_54 : decode cX6_takePart 54 = .ok (.iadd, 1) := by decide +kernel
theorem dX6_takePart_55 : decode cX6_takePart 55 = .ok (.aload_n 0, 1) := by decide +kernel
theorem dX6_takePart_56 : decode cX6_takePart 56 = .ok (.getfield 27, 3) := by decide +kernel
theorem dX6_takePart_59 : decode cX6_takePart 59 = .ok (.bipush 16, 2) := by decide +kernel
theorem dX6_takePart_61 : decode cX6_takePart 61 = .ok (.iload_n 1, 1) := by decide +kernel
theorem dX6_takePart_62 : decode cX6_takePart 62 = .ok (.imul, 1) := by decide +kernel
theorem dX6_takePart_63 : decode cX6_takePart 63 = .ok (.iload 5, 2) := by decide +kernel
theorem dX6_takePart_65 : decode cX6_takePart 65 = .ok (.iadd, 1) := by decide +kernel
theorem dX6_takePart_66 : decode cX6_takePart 66 = .ok (.iaload, 1) := by decide +kernel
theorem dX6_takePart_67 : decode cX6_takePart 67 = .ok (.iastore, 1) := by decide +kernel
theorem dX6_takePart_68 : decode cX6_takePart 68 = .ok (.aload_n 0, 1) := by decide +kernel
theorem dX6_takePart_69 : decode cX6_takePart 69 = .ok (.getfield 76, 3) := by decide +kernel
theorem dX6_takePart_72 : decode cX6_takePart 72 = .ok (.bipush 64, 2) := by decide +kernel
theorem dX6_takePart_74 : decode cX6_takePart 74 = .ok (.iload 4, 2) := by decide +kernel
theorem dX6_takePart_76 : decode cX6_takePart 76 = .ok (.imul, 1) := by decide +kernel
theorem dX6_takePart_77 : decode cX6_takePart 77 = .ok (.bipush 16, 2) := by decide +kernel
theorem dX6_takePart_79 : decode cX6_takePart 79 = .ok (.iload_n 1, 1) := by decide +kernel
theorem dX6_takePart_80 : decode cX6_takePart 80 = .ok (.imul, 1) := by decide +kernel
theorem dX6_takePart_81 : decode cX6_takePart 81 = .ok (.iadd, 1) := by decide +kernel
theorem dX6_takePart_82 : decode cX6_takePart 82 = .ok (.iload 5, 2) := by decide +kernel
theorem dX6_takePart_84 : decode cX6_takePart 84 = .ok (.iadd, 1) := by decide +kernel
theorem dX6_takePart_85 : decode cX6_takePart 85 = .ok (.aload_n 0, 1) := by decide +kernel
theorem dX6_takePart_86 : decode cX6_takePart 86 = .ok (.getfield 30, 3) := by decide +kernel
theorem dX6_takePart_89 : decode cX6_takePart 89 = .ok (.bipush 16, 2) := by decide +kernel
theorem dX6_takePart_91 : decode cX6_takePart 91 = .ok (.iload_n 1, 1) := by decide +kernel
theorem dX6_takePart_92 : decode cX6_takePart 92 = .ok (.imul, 1) := by decide +kernel
theorem dX6_takePart_93 : decode cX6_takePart 93 = .ok (.iload 5, 2) := by decide +kernel
theorem dX6_takePart_95 : decode cX6_takePart 95 = .ok (.iadd, 1) := by decide +kernel
theorem dX6_takePart_96 : decode cX6_takePart 96 = .ok (.laload, 1) := by decide +kernel
theorem dX6_takePart_97 : decode cX6_takePart 97 = .ok (.lastore, 1) := by decide +kernel
theorem dX6_takePart_98 : decode cX6_takePart 98 = .ok (.iload 5, 2) := by decide +kernel
theorem dX6_takePart_100 : decode cX6_takePart 100 = .ok (.aload_n 0, 1) := by decide +kernel
theorem dX6_takePart_101 : decode cX6_takePart 101 = .ok (.getfield 7, 3) := by decide +kernel
theorem dX6_takePart_104 : decode cX6_takePart 104 = .ok (.iload_n 1, 1) := by decide +kernel
theorem dX6_takePart_105 : decode cX6_takePart 105 = .ok (.iaload, 1) := by decide +kernel
theorem dX6_takePart_106 : decode cX6_takePart 106 = .ok (.iadd, 1) := by decide +kernel
theorem dX6_takePart_107 : decode cX6_takePart 107 = .ok (.istore 5, 2) := by decide +kernel
theorem dX6_takePart_109 : decode cX6_takePart 109 = .ok (.goto (-78), 3) := by decide +kernel
theorem dX6_takePart_112 : decode cX6_takePart 112 = .ok (.iconst 0, 1) := by decide +kernel
theorem dX6_takePart_113 : decode cX6_takePart 113 = .ok (.istore 5, 2) := by decide +kernel
theorem dX6_takePart_115 : decode cX6_takePart 115 = .ok (.iload_n 1, 1) := by decide +kernel
theorem dX6_takePart_116 : decode cX6_takePart 116 = .ok (.iconst 1, 1) := by decide +kernel
theorem dX6_takePart_117 : decode cX6_takePart 117 = .ok (.iadd, 1) := by decide +kernel
theorem dX6_takePart_118 : decode cX6_takePart 118 = .ok (.aload_n 0, 1) := by decide +kernel
theorem dX6_takePart_119 : decode cX6_takePart 119 = .ok (.getfield 91, 3) := by decide +kernel
theorem dX6_takePart_122 : decode cX6_takePart 122 = .ok (.if_icmp .ge 152, 3) := by decide +kernel
theorem dX6_takePart_125 : decode cX6_takePart 125 = .ok (.iload 5, 2) := by decide +kernel
theorem dX6_takePart_127 : decode cX6_takePart 127 = .ok (.aload_n 0, 1) := by decide +kernel
theorem dX6_takePart_128 : decode cX6_takePart 128 = .ok (.getfield 7, 3) := by decide +kernel
theorem dX6_takePart_131 : decode cX6_takePart 131 = .ok (.iload_n 1, 1) := by decide +kernel
theorem dX6_takePart_132 : decode cX6_takePart 132 = .ok (.iconst 1, 1) := by decide +kernel
theorem dX6_takePart_133 : decode cX6_takePart 133 = .ok (.iadd, 1) := by decide +kernel
theorem dX6_takePart_134 : decode cX6_takePart 134 = .ok (.iaload, 1) := by decide +kernel
theorem dX6_takePart_135 : decode cX6_takePart 135 = .ok (.if_icmp .ge 139, 3) := by decide +kernel
theorem dX6_takePart_138 : decode cX6_takePart 138 = .ok (.aload_n 0, 1) := by decide +kernel
theorem dX6_takePart_139 : decode cX6_takePart 139 = .ok (.getfield 58, 3) := by decide +kernel
theorem dX6_takePart_142 : decode cX6_takePart 142 = .ok (.iconst (-1), 1) := by decide +kernel
theorem dX6_takePart_143 : decode cX6_takePart 143 = .ok (.if_icmp .eq 131, 3) := by decide +kernel
theorem dX6_takePart_146 : decode cX6_takePart 146 = .ok (.iload_n 1, 1) := by decide +kernel
theorem dX6_takePart_147 : decode cX6_takePart 147 = .ok (.iload_n 2, 1) := by decide +kernel
theorem dX6_takePart_148 : decode cX6_takePart 148 = .ok (.iload 5, 2) := by decide +kernel
theorem dX6_takePart_150 : decode cX6_takePart 150 = .ok (.invokestatic 118, 3) := by decide +kernel
theorem dX6_takePart_153 : decode cX6_takePart 153 = .ok (.istore 6, 2) := by decide +kernel
theorem dX6_takePart_155 : decode cX6_takePart 155 = .ok (.aload_n 0, 1) := by decide +kernel
theorem dX6_takePart_156 : decode cX6_takePart 156 = .ok (.getfield 39, 3) := by decide +kernel
theorem dX6_takePart_159 : decode cX6_takePart 159 = .ok (.iload 6, 2) := by decide +kernel
theorem dX6_takePart_161 : decode cX6_takePart 161 = .ok (.iload_n 3, 1) := by decide +kernel
theorem dX6_takePart_162 : decode cX6_takePart 162 = .ok (.ifCond .eq 7, 3) := by decide +kernel
theorem dX6_takePart_165 : decode cX6_takePart 165 = .ok (.iconst 0, 1) := by decide +kernel
theorem dX6_takePart_166 : decode cX6_takePart 166 = .ok (.goto 10, 3) := by decide +kernel
theorem dX6_takePart_169 : decode cX6_takePart 169 = .ok (.aload_n 0, 1) := by decide +kernel
theorem dX6_takePart_170 : decode cX6_takePart 170 = .ok (.getfield 36, 3) := by decide +kernel
theorem dX6_takePart_173 : decode cX6_takePart 173 = .ok (.iload 6, 2) := by decide +kernel
theorem dX6_takePart_175 : decode cX6_takePart 175 = .ok (.iaload, 1) := by decide +kernel
theorem dX6_takePart_176 : decode cX6_takePart 176 = .ok (.iastore, 1) := by decide +kernel
theorem dX6_takePart_177 : decode cX6_takePart 177 = .ok (.aload_n 0, 1) := by decide +kernel
theorem dX6_takePart_178 : decode cX6_takePart 178 = .ok (.getfield 88, 3) := by decide +kernel
theorem dX6_takePart_181 : decode cX6_takePart 181 = .ok (.bipush 48, 2) := by decide +kernel
theorem dX6_takePart_183 : decode cX6_takePart 183 = .ok (.iload 4, 2) := by decide +kernel
theorem dX6_takePart_185 : decode cX6_takePart 185 = .ok (.imul, 1) := by decide +kernel
theorem dX6_takePart_186 : decode cX6_takePart 186 = .ok (.iload 6, 2) := by decide +kernel
theorem dX6_takePart_188 : decode cX6_takePart 188 = .ok (.iadd, 1) := by decide +kernel
theorem dX6_takePart_189 : decode cX6_takePart 189 = .ok (.aload_n 0, 1) := by decide +kernel
theorem dX6_takePart_190 : decode cX6_takePart 190 = .ok (.getfield 88, 3) := by decide +kernel
theorem dX6_takePart_193 : decode cX6_takePart 193 = .ok (.bipush 48, 2) := by decide +kernel
theorem dX6_takePart_195 : decode cX6_takePart 195 = .ok (.iload 4, 2) := by decide +kernel
theorem dX6_takePart_197 : decode cX6_takePart 197 = .ok (.imul, 1) := by decide +kernel
theorem dX6_takePart_198 : decode cX6_takePart 198 = .ok (.iload 6, 2) := by decide +kernel
theorem dX6_takePart_200 : decode cX6_takePart 200 = .ok (.iadd, 1) := by decide +kernel
theorem dX6_takePart_201 : decode cX6_takePart 201 = .ok (.baload, 1) := by decide +kernel
theorem dX6_takePart_202 : decode cX6_takePart 202 = .ok (.ifCond .ne 7, 3) := by decide +kernel
theorem dX6_takePart_205 : decode cX6_takePart 205 = .ok (.iload_n 3, 1) := by decide +kernel
theorem dX6_takePart_206 : decode cX6_takePart 206 = .ok (.ifCond .eq 7, 3) := by decide +kernel
theorem dX6_takePart_209 : decode cX6_takePart 209 = .ok (.iconst 1, 1) := by decide +kernel
theorem dX6_takePart_210 : decode cX6_takePart 210 = .ok (.goto 4, 3) := by decide +kernel
theorem dX6_takePart_213 : decode cX6_takePart 213 = .ok (.iconst 0, 1) := by decide +kernel
theorem dX6_takePart_214 : decode cX6_takePart 214 = .ok (.bastore, 1) := by decide +kernel
theorem dX6_takePart_215 : decode cX6_takePart 215 = .ok (.iconst 0, 1) := by decide +kernel
theorem dX6_takePart_216 : decode cX6_takePart 216 = .ok (.istore 7, 2) := by decide +kernel
theorem dX6_takePart_218 : decode cX6_takePart 218 = .ok (.iload 7, 2) := by decide +kernel
theorem dX6_takePart_220 : decode cX6_takePart 220 = .ok (.aload_n 0, 1) := by decide +kernel
theorem dX6_takePart_221 : decode cX6_takePart 221 = .ok (.getfield 36, 3) := by decide +kernel
theorem dX6_takePart_224 : decode cX6_takePart 224 = .ok (.iload 6, 2) := by decide +kernel
theorem dX6_takePart_226 : decode cX6_takePart 226 = .ok (.iaload, 1) := by decide +kernel
theorem dX6_takePart_227 : decode cX6_takePart 227 = .ok (.if_icmp .ge 41, 3) := by decide +kernel
theorem dX6_takePart_230 : decode cX6_takePart 230 = .ok (.iload_n 3, 1) := by decide +kernel
theorem dX6_takePart_231 : decode cX6_takePart 231 = .ok (.ifCond .eq 37, 3) := by decide +kernel
theorem dX6_takePart_234 : decode cX6_takePart 234 = .ok (.aload_n 0, 1) := by decide +kernel
theorem dX6_takePart_235 : decode cX6_takePart 235 = .ok (.getfield 58, 3) := by decide +kernel
theorem dX6_takePart_238 : decode cX6_takePart 238 = .ok (.iconst (-1), 1) := by decide +kernel
theorem dX6_takePart_239 : decode cX6_takePart 239 = .ok (.if_icmp .eq 29, 3) := by decide +kernel
theorem dX6_takePart_242 : decode cX6_takePart 242 = .ok (.aload_n 0, 1) := by decide +kernel
theorem dX6_takePart_243 : decode cX6_takePart 243 = .ok (.iload 6, 2) := by decide +kernel
theorem dX6_takePart_245 : decode cX6_takePart 245 = .ok (.aload_n 0, 1) := by decide +kernel
theorem dX6_takePart_246 : decode cX6_takePart 246 = .ok (.getfield 33, 3) := by decide +kernel
theorem dX6_takePart_249 : decode cX6_takePart 249 = .ok (.sipush 200, 3) := by decide +kernel
theorem dX6_takePart_252 : decode cX6_takePart 252 = .ok (.iload 6, 2) := by decide +kernel
theorem dX6_takePart_254 : decode cX6_takePart 254 = .ok (.imul, 1) := by decide +kernel
theorem dX6_takePart_255 : decode cX6_takePart 255 = .ok (.iload 7, 2) := by decide +kernel
theorem dX6_takePart_257 : decode cX6_takePart 257 = .ok (.iadd, 1) := by decide +kernel
theorem dX6_takePart_258 : decode cX6_takePart 258 = .ok (.iaload, 1) := by decide +kernel
theorem dX6_takePart_259 : decode cX6_takePart 259 = .ok (.invokevirtual 122, 3) := by decide +kernel
theorem dX6_takePart_262 : decode cX6_takePart 262 = .ok (.iinc 7 1, 3) := by decide +kernel
theorem dX6_takePart_265 : decode cX6_takePart 265 = .ok (.goto (-47), 3) := by decide +kernel
theorem dX6_takePart_268 : decode cX6_takePart 268 = .ok (.iinc 5 1, 3) := by decide +kernel
theorem dX6_takePart_271 : decode cX6_takePart 271 = .ok (.goto (-156), 3) := by decide +kernel
theorem dX6_takePart_274 : decode cX6_takePart 274 = .ok (.return_, 1) := by decide +kernel
theorem dX6_allCame_0 : decode cX6_allCame 0 = .ok (.iconst 1, 1) := by decide +kernel
theorem dX6_allCame_1 : decode cX6_allCame 1 = .ok (.istore_n 3, 1) := by decide +kernel
theorem dX6_allCame_2 : decode cX6_allCame 2 = .ok (.iconst 0, 1) := by decide +kernel
theorem dX6_allCame_3 : decode cX6_allCame 3 = .ok (.istore 4, 2) := by decide +kernel
theorem dX6_allCame_5 : decode cX6_allCame 5 = .ok (.iload 4, 2) := by decide +kernel
theorem dX6_allCame_7 : decode cX6_allCame 7 = .ok (.aload_n 0, 1) := by decide +kernel
theorem dX6_allCame_8 : decode cX6_allCame 8 = .ok (.getfield 7, 3) := by decide +kernel
theorem dX6_allCame_11 : decode cX6_allCame 11 = .ok (.iload_n 1, 1) := by decide +kernel
theorem dX6_allCame_12 : decode cX6_allCame 12 = .ok (.iconst 1, 1) := by decide +kernel
theorem dX6_allCame_13 : decode cX6_allCame 13 = .ok (.isub, 1) := by decide +kernel
theorem dX6_allCame_14 : decode cX6_allCame 14 = .ok (.iaload, 1) := by decide +kernel
theorem dX6_allCame_15 : decode cX6_allCame 15 = .ok (.if_icmp .ge 36, 3) := by decide +kernel
theorem dX6_allCame_18 : decode cX6_allCame 18 = .ok (.iload_n 3, 1) := by decide +kernel
theorem dX6_allCame_19 : decode cX6_allCame 19 = .ok (.ifCond .eq 24, 3) := by decide +kernel
theorem dX6_allCame_22 : decode cX6_allCame 22 = .ok (.aload_n 0, 1) := by decide +kernel
theorem dX6_allCame_23 : decode cX6_allCame 23 = .ok (.getfield 42, 3) := by decide +kernel
theorem dX6_allCame_26 : decode cX6_allCame 26 = .ok (.iload_n 1, 1) := by decide +kernel
theorem dX6_allCame_27 : decode cX6_allCame 27 = .ok (.iconst 1, 1) := by decide +kernel
theorem dX6_allCame_28 : decode cX6_allCame 28 = .ok (.isub, 1) := by decide +kernel
theorem dX6_allCame_29 : decode cX6_allCame 29 = .ok (.iload 4, 2) := by decide +kernel
theorem dX6_allCame_31 : decode cX6_allCame 31 = .ok (.iload_n 2, 1) := by decide +kernel
theorem dX6_allCame_32 : decode cX6_allCame 32 = .ok (.invokestatic 118, 3) := by decide +kernel
theorem dX6_allCame_35 : decode cX6_allCame 35 = .ok (.baload, 1) := by decide +kernel
theorem dX6_allCame_36 : decode cX6_allCame 36 = .ok (.ifCond .eq 7, 3) := by decide +kernel
theorem dX6_allCame_39 : decode cX6_allCame 39 = .ok (.iconst 1, 1) := by decide +kernel
theorem dX6_allCame_40 : decode cX6_allCame 40 = .ok (.goto 4, 3) := by decide +kernel
theorem dX6_allCame_43 : decode cX6_allCame 43 = .ok (.iconst 0, 1) := by decide +kernel
theorem dX6_allCame_44 : decode cX6_allCame 44 = .ok (.istore_n 3, 1) := by decide +kernel
theorem dX6_allCame_45 : decode cX6_allCame 45 = .ok (.iinc 4 1, 3) := by decide +kernel
theorem dX6_allCame_48 : decode cX6_allCame 48 = .ok (.goto (-43), 3) := by decide +kernel
theorem dX6_allCame_51 : decode cX6_allCame 51 = .ok (.iload_n 3, 1) := by decide +kernel
theorem dX6_allCame_52 : decode cX6_allCame 52 = .ok (.ireturn, 1) := by decide +kernel
theorem dX6_settle_0 : decode cX6_settle 0 = .ok (.aload_n 0, 1) := by decide +kernel
theorem dX6_settle_1 : decode cX6_settle 1 = .ok (.getfield 58, 3) := by decide +kernel
theorem dX6_settle_4 : decode cX6_settle 4 = .ok (.iconst (-1), 1) := by decide +kernel
theorem dX6_settle_5 : decode cX6_settle 5 = .ok (.if_icmp .eq 7, 3) := by decide +kernel
theorem dX6_settle_8 : decode cX6_settle 8 = .ok (.iconst 1, 1) := by decide +kernel
theorem dX6_settle_9 : decode cX6_settle 9 = .ok (.goto 4, 3) := by decide +kernel
theorem dX6_settle_12 : decode cX6_settle 12 = .ok (.iconst 0, 1) := by decide +kernel
theorem dX6_settle_13 : decode cX6_settle 13 = .ok (.istore_n 1, 1) := by decide +kernel
theorem dX6_settle_14 : decode cX6_settle 14 = .ok (.iconst 0, 1) := by decide +kernel
theorem dX6_settle_15 : decode cX6_settle 15 = .ok (.istore_n 2, 1) := by decide +kernel
theorem dX6_settle_16 : decode cX6_settle 16 = .ok (.iload_n 2, 1) := by decide +kernel
theorem dX6_settle_17 : decode cX6_settle 17 = .ok (.aload_n 0, 1) := by decide +kernel
theorem dX6_settle_18 : decode cX6_settle 18 = .ok (.getfield 91, 3) := by decide +kernel
theorem dX6_settle_21 : decode cX6_settle 21 = .ok (.if_icmp .ge 67, 3) := by decide +kernel
theorem dX6_settle_24 : decode cX6_settle 24 = .ok (.iload_n 1, 1) := by decide +kernel
theorem dX6_settle_25 : decode cX6_settle 25 = .ok (.ifCond .eq 63, 3) := by decide +kernel
theorem dX6_settle_28 : decode cX6_settle 28 = .ok (.iconst 0, 1) := by decide +kernel
theorem dX6_settle_29 : decode cX6_settle 29 = .ok (.istore_n 3, 1) := by decide +kernel
theorem dX6_settle_30 : decode cX6_settle 30 = .ok (.iload_n 3, 1) := by decide +kernel
theorem dX6_settle_31 : decode cX6_settle 31 = .ok (.aload_n 0, 1) := by decide +kernel
theorem dX6_settle_32 : decode cX6_settle 32 = .ok (.getfield 7, 3) := by decide +kernel
theorem dX6_settle_35 : decode cX6_settle 35 = .ok (.iload_n 2, 1) := by decide +kernel
theorem dX6_settle_36 : decode cX6_settle 36 = .ok (.iaload, 1) := by decide +kernel
theorem dX6_settle_37 : decode cX6_settle 37 = .ok (.if_icmp .ge 45, 3) := by decide +kernel
theorem dX6_settle_40 : decode cX6_settle 40 = .ok (.iload_n 1, 1) := by decide +kernel
theorem dX6_settle_41 : decode cX6_settle 41 = .ok (.ifCond .eq 33, 3) := by decide +kernel
theorem dX6_settle_44 : decode cX6_settle 44 = .ok (.aload_n 0, 1) := by decide +kernel
theorem dX6_settle_45 : decode cX6_settle 45 = .ok (.getfield 46, 3) := by decide +kernel
theorem dX6_settle_48 : decode cX6_settle 48 = .ok (.iconst 4, 1) := by decide +kernel
theorem dX6_settle_49 : decode cX6_settle 49 = .ok (.iload_n 2, 1) := by decide +kernel
theorem dX6_settle_50 : decode cX6_settle 50 = .ok (.imul, 1) := by decide +kernel
theorem dX6_settle_51 : decode cX6_settle 51 = .ok (.iload_n 3, 1) := by decide +kernel
theorem dX6_settle_52 : decode cX6_settle 52 = .ok (.iadd, 1) := by decide +kernel
theorem dX6_settle_53 : decode cX6_settle 53 = .ok (.baload, 1) := by decide +kernel
theorem dX6_settle_54 : decode cX6_settle 54 = .ok (.ifCond .eq 20, 3) := by decide +kernel
theorem dX6_settle_57 : decode cX6_settle 57 = .ok (.iload_n 2, 1) := by decide +kernel
theorem dX6_settle_58 : decode cX6_settle 58 = .ok (.ifCond .eq 12, 3) := by decide +kernel
theorem dX6_settle_61 : decode cX6_settle 61 = .ok (.aload_n 0, 1) := by decide +kernel
theorem dX6_settle_62 : decode cX6_settle 62 = .ok (.iload_n 2, 1) := by decide +kernel
theorem dX6_settle_63 : decode cX6_settle 63 = .ok (.iload_n 3, 1) := by decide +kernel
theorem dX6_settle_64 : decode cX6_settle 64 = .ok (.invokevirtual 126, 3) := by decide +kernel
theorem dX6_settle_67 : decode cX6_settle 67 = .ok (.ifCond .eq 7, 3) := by decide +kernel
theorem dX6_settle_70 : decode cX6_settle 70 = .ok (.iconst 1, 1) := by decide +kernel
theorem dX6_settle_71 : decode cX6_settle 71 = .ok (.goto 4, 3) := by decide +kernel
theorem dX6_settle_74 : decode cX6_settle 74 = .ok (.iconst 0, 1) := by decide +kernel
theorem dX6_settle_75 : decode cX6_settle 75 = .ok (.istore_n 1, 1) := by decide +kernel
theorem dX6_settle_76 : decode cX6_settle 76 = .ok (.iinc 3 1, 3) := by decide +kernel
theorem dX6_settle_79 : decode cX6_settle 79 = .ok (.goto (-49), 3) := by decide +kernel
theorem dX6_settle_82 : decode cX6_settle 82 = .ok (.iinc 2 1, 3) := by decide +kernel
theorem dX6_settle_85 : decode cX6_settle 85 = .ok (.goto (-69), 3) := by decide +kernel
theorem dX6_settle_88 : decode cX6_settle 88 = .ok (.iload_n 1, 1) := by decide +kernel
theorem dX6_settle_89 : decode cX6_settle 89 = .ok (.ifCond .eq 8, 3) := by decide +kernel
theorem dX6_settle_92 : decode cX6_settle 92 = .ok (.aload_n 0, 1) := by decide +kernel
theorem dX6_settle_93 : decode cX6_settle 93 = .ok (.iconst 1, 1) := by decide +kernel
theorem dX6_settle_94 : decode cX6_settle 94 = .ok (.invokevirtual 114, 3) := by decide +kernel
theorem dX6_settle_97 : decode cX6_settle 97 = .ok (.return_, 1) := by decide +kernel
theorem dX6_came_0 : decode cX6_came 0 = .ok (.iconst 4, 1) := by decide +kernel
theorem dX6_came_1 : decode cX6_came 1 = .ok (.iload_n 1, 1) := by decide +kernel
theorem dX6_came_2 : decode cX6_came 2 = .ok (.imul, 1) := by decide +kernel
theorem dX6_came_3 : decode cX6_came 3 = .ok (.iload_n 2, 1) := by decide +kernel
theorem dX6_came_4 : decode cX6_came 4 = .ok (.iadd, 1) := by decide +kernel
theorem dX6_came_5 : decode cX6_came 5 = .ok (.istore 4, 2) := by decide +kernel
theorem dX6_came_7 : decode cX6_came 7 = .ok (.aload_n 0, 1) := by decide +kernel
theorem dX6_came_8 : decode cX6_came 8 = .ok (.getfield 42, 3) := by decide +kernel
theorem dX6_came_11 : decode cX6_came 11 = .ok (.iload_n 3, 1) := by decide +kernel
theorem dX6_came_12 : decode cX6_came 12 = .ok (.iconst 1, 1) := by decide +kernel
theorem dX6_came_13 : decode cX6_came 13 = .ok (.bastore, 1) := by decide +kernel
theorem dX6_came_14 : decode cX6_came 14 = .ok (.aload_n 0, 1) := by decide +kernel
theorem dX6_came_15 : decode cX6_came 15 = .ok (.getfield 39, 3) := by decide +kernel
theorem dX6_came_18 : decode cX6_came 18 = .ok (.iload_n 3, 1) := by decide +kernel
theorem dX6_came_19 : decode cX6_came 19 = .ok (.iconst (-1), 1) := by decide +kernel
theorem dX6_came_20 : decode cX6_came 20 = .ok (.iastore, 1) := by decide +kernel
theorem dX6_came_21 : decode cX6_came 21 = .ok (.aload_n 0, 1) := by decide +kernel
theorem dX6_came_22 : decode cX6_came 22 = .ok (.getfield 46, 3) := by decide +kernel
theorem dX6_came_25 : decode cX6_came 25 = .ok (.iload 4, 2) := by decide +kernel
theorem dX6_came_27 : decode cX6_came 27 = .ok (.baload, 1) := by decide +kernel
theorem dX6_came_28 : decode cX6_came 28 = .ok (.ifCond .ne 85, 3) := by decide +kernel
theorem dX6_came_31 : decode cX6_came 31 = .ok (.aload_n 0, 1) := by decide +kernel
theorem dX6_came_32 : decode cX6_came 32 = .ok (.getfield 88, 3) := by decide +kernel
theorem dX6_came_35 : decode cX6_came 35 = .ok (.bipush 48, 2) := by decide +kernel
theorem dX6_came_37 : decode cX6_came 37 = .ok (.aload_n 0, 1) := by decide +kernel
theorem dX6_came_38 : decode cX6_came 38 = .ok (.getfield 58, 3) := by decide +kernel
theorem dX6_came_41 : decode cX6_came 41 = .ok (.imul, 1) := by decide +kernel
theorem dX6_came_42 : decode cX6_came 42 = .ok (.iload_n 3, 1) := by decide +kernel
theorem dX6_came_43 : decode cX6_came 43 = .ok (.iadd, 1) := by decide +kernel
theorem dX6_came_44 : decode cX6_came 44 = .ok (.baload, 1) := by decide +kernel
theorem dX6_came_45 : decode cX6_came 45 = .ok (.ifCond .ne 10, 3) := by decide +kernel
theorem dX6_came_48 : decode cX6_came 48 = .ok (.aload_n 0, 1) := by decide +kernel
theorem dX6_came_49 : decode cX6_came 49 = .ok (.getfield 108, 3) := by decide +kernel
theorem dX6_came_52 : decode cX6_came 52 = .ok (.ifCond .ne 13, 3) := by decide +kernel
theorem dX6_came_55 : decode cX6_came 55 = .ok (.aload_n 0, 1) := by decide +kernel
theorem dX6_came_56 : decode cX6_came 56 = .ok (.iload_n 1, 1) := by decide +kernel
theorem dX6_came_57 : decode cX6_came 57 = .ok (.iload_n 2, 1) := by decide +kernel
theorem dX6_came_58 : decode cX6_came 58 = .ok (.iconst 1, 1) := by decide +kernel
theorem dX6_came_59 : decode cX6_came 59 = .ok (.invokevirtual 130, 3) := by decide +kernel
theorem dX6_came_62 : decode cX6_came 62 = .ok (.goto 51, 3) := by decide +kernel
theorem dX6_came_65 : decode cX6_came 65 = .ok (.aload_n 0, 1) := by decide +kernel
theorem dX6_came_66 : decode cX6_came 66 = .ok (.iload_n 1, 1) := by decide +kernel
theorem dX6_came_67 : decode cX6_came 67 = .ok (.iload_n 2, 1) := by decide +kernel
theorem dX6_came_68 : decode cX6_came 68 = .ok (.invokevirtual 126, 3) := by decide +kernel
theorem dX6_came_71 : decode cX6_came 71 = .ok (.ifCond .eq 13, 3) := by decide +kernel
theorem dX6_came_74 : decode cX6_came 74 = .ok (.aload_n 0, 1) := by decide +kernel
theorem dX6_came_75 : decode cX6_came 75 = .ok (.iload_n 1, 1) := by decide +kernel
theorem dX6_came_76 : decode cX6_came 76 = .ok (.iload_n 2, 1) := by decide +kernel
theorem dX6_came_77 : decode cX6_came 77 = .ok (.iconst 0, 1) := by decide +kernel
theorem dX6_came_78 : decode cX6_came 78 = .ok (.invokevirtual 130, 3) := by decide +kernel
theorem dX6_came_81 : decode cX6_came 81 = .ok (.goto 32, 3) := by decide +kernel
theorem dX6_came_84 : decode cX6_came 84 = .ok (.aload_n 0, 1) := by decide +kernel
theorem dX6_came_85 : decode cX6_came 85 = .ok (.getfield 49, 3) := by decide +kernel
theorem dX6_came_88 : decode cX6_came 88 = .ok (.iload 4, 2) := by decide +kernel
theorem dX6_came_90 : decode cX6_came 90 = .ok (.baload, 1) := by decide +kernel
theorem dX6_came_91 : decode cX6_came 91 = .ok (.ifCond .ne 22, 3) := by decide +kernel
theorem dX6_came_94 : decode cX6_came 94 = .ok (.aload_n 0, 1) := by decide +kernel
theorem dX6_came_95 : decode cX6_came 95 = .ok (.getfield 49, 3) := by decide +kernel
theorem dX6_came_98 : decode cX6_came 98 = .ok (.iload 4, 2) := by decide +kernel
theorem dX6_came_100 : decode cX6_came 100 = .ok (.iconst 1, 1) := by decide +kernel
theorem dX6_came_101 : decode cX6_came 101 = .ok (.bastore, 1) := by decide +kernel
theorem dX6_came_102 : decode cX6_came 102 = .ok (.aload_n 0, 1) := by decide +kernel
theorem dX6_came_103 : decode cX6_came 103 = .ok (.getfield 52, 3) := by decide +kernel
theorem dX6_came_106 : decode cX6_came 106 = .ok (.iload 4, 2) := by decide +kernel
theorem dX6_came_108 : decode cX6_came 108 = .ok (.aload_n 0, 1) := by decide +kernel
theorem dX6_came_109 : decode cX6_came 109 = .ok (.getfield 102, 3) := by decide +kernel
theorem dX6_came_112 : decode cX6_came 112 = .ok (.iastore, 1) := by decide +kernel
theorem dX6_came_113 : decode cX6_came 113 = .ok (.aload_n 0, 1) := by decide +kernel
theorem dX6_came_114 : decode cX6_came 114 = .ok (.invokevirtual 134, 3) := by decide +kernel
theorem dX6_came_117 : decode cX6_came 117 = .ok (.return_, 1) := by decide +kernel
theorem dX6_mark_0 : decode cX6_mark 0 = .ok (.aload_n 0, 1) := by decide +kernel
theorem dX6_mark_1 : decode cX6_mark 1 = .ok (.getfield 58, 3) := by decide +kernel
theorem dX6_mark_4 : decode cX6_mark 4 = .ok (.iconst (-1), 1) := by decide +kernel
theorem dX6_mark_5 : decode cX6_mark 5 = .ok (.if_icmp .eq 6, 3) := by decide +kernel
theorem dX6_mark_8 : decode cX6_mark 8 = .ok (.bipush (-103), 2) := by decide +kernel
theorem dX6_mark_10 : decode cX6_mark 10 = .ok (.ireturn, 1) := by decide +kernel
theorem dX6_mark_11 : decode cX6_mark 11 = .ok (.aload_n 0, 1) := by decide +kernel
theorem dX6_mark_12 : decode cX6_mark 12 = .ok (.getfield 105, 3) := by decide +kernel
theorem dX6_mark_15 : decode cX6_mark 15 = .ok (.bipush 8, 2) := by decide +kernel
theorem dX6_mark_17 : decode cX6_mark 17 = .ok (.if_icmp .ne 6, 3) := by decide +kernel
theorem dX6_mark_20 : decode cX6_mark 20 = .ok (.bipush (-104), 2) := by decide +kernel
theorem dX6_mark_22 : decode cX6_mark 22 = .ok (.ireturn, 1) := by decide +kernel
theorem dX6_mark_23 : decode cX6_mark 23 = .ok (.aload_n 0, 1) := by decide +kernel
theorem dX6_mark_24 : decode cX6_mark 24 = .ok (.getfield 105, 3) := by decide +kernel
theorem dX6_mark_27 : decode cX6_mark 27 = .ok (.istore_n 1, 1) := by decide +kernel
theorem dX6_mark_28 : decode cX6_mark 28 = .ok (.aload_n 0, 1) := by decide +kernel
theorem dX6_mark_29 : decode cX6_mark 29 = .ok (.dup, 1) := by decide +kernel
theorem dX6_mark_30 : decode cX6_mark 30 = .ok (.getfield 105, 3) := by decide +kernel
theorem dX6_mark_33 : decode cX6_mark 33 = .ok (.iconst 1, 1) := by decide +kernel
theorem dX6_mark_34 : decode cX6_mark 34 = .ok (.iadd, 1) := by decide +kernel
theorem dX6_mark_35 : decode cX6_mark 35 = .ok (.putfield 105, 3) := by decide +kernel
theorem dX6_mark_38 : decode cX6_mark 38 = .ok (.aload_n 0, 1) := by decide +kernel
theorem dX6_mark_39 : decode cX6_mark 39 = .ok (.iload_n 1, 1) := by decide +kernel
theorem dX6_mark_40 : decode cX6_mark 40 = .ok (.putfield 58, 3) := by decide +kernel
theorem dX6_mark_43 : decode cX6_mark 43 = .ok (.aload_n 0, 1) := by decide +kernel
theorem dX6_mark_44 : decode cX6_mark 44 = .ok (.getfield 61, 3) := by decide +kernel
theorem dX6_mark_47 : decode cX6_mark 47 = .ok (.iload_n 1, 1) := by decide +kernel
theorem dX6_mark_48 : decode cX6_mark 48 = .ok (.iconst 0, 1) := by decide +kernel
theorem dX6_mark_49 : decode cX6_mark 49 = .ok (.iastore, 1) := by decide +kernel
theorem dX6_mark_50 : decode cX6_mark 50 = .ok (.aload_n 0, 1) := by decide +kernel
theorem dX6_mark_51 : decode cX6_mark 51 = .ok (.getfield 64, 3) := by decide +kernel
theorem dX6_mark_54 : decode cX6_mark 54 = .ok (.iload_n 1, 1) := by decide +kernel
theorem dX6_mark_55 : decode cX6_mark 55 = .ok (.aload_n 0, 1) := by decide +kernel
theorem dX6_mark_56 : decode cX6_mark 56 = .ok (.getfield 102, 3) := by decide +kernel
theorem dX6_mark_59 : decode cX6_mark 59 = .ok (.iastore, 1) := by decide +kernel
theorem dX6_mark_60 : decode cX6_mark 60 = .ok (.iconst 0, 1) := by decide +kernel
theorem dX6_mark_61 : decode cX6_mark 61 = .ok (.istore_n 2, 1) := by decide +kernel
theorem dX6_mark_62 : decode cX6_mark 62 = .ok (.iload_n 2, 1) := by decide +kernel
theorem dX6_mark_63 : decode cX6_mark 63 = .ok (.aload_n 0, 1) := by decide +kernel
theorem dX6_mark_64 : decode cX6_mark 64 = .ok (.getfield 91, 3) := by decide +kernel
theorem dX6_mark_67 : decode cX6_mark 67 = .ok (.if_icmp .ge 25, 3) := by decide +kernel
theorem dX6_mark_70 : decode cX6_mark 70 = .ok (.aload_n 0, 1) := by decide +kernel
theorem dX6_mark_71 : decode cX6_mark 71 = .ok (.getfield 70, 3) := by decide +kernel
theorem dX6_mark_74 : decode cX6_mark 74 = .ok (.iconst 4, 1) := by decide +kernel
theorem dX6_mark_75 : decode cX6_mark 75 = .ok (.iload_n 1, 1) := by decide +kernel
theorem dX6_mark_76 : decode cX6_mark 76 = .ok (.imul, 1) := by decide +kernel
theorem dX6_mark_77 : decode cX6_mark 77 = .ok (.iload_n 2, 1) := by decide +kernel
theorem dX6_mark_78 : decode cX6_mark 78 = .ok (.iadd, 1) := by decide +kernel
theorem dX6_mark_79 : decode cX6_mark 79 = .ok (.aload_n 0, 1) := by decide +kernel
theorem dX6_mark_80 : decode cX6_mark 80 = .ok (.getfield 7, 3) := by decide +kernel
theorem dX6_mark_83 : decode cX6_mark 83 = .ok (.iload_n 2, 1) := by decide +kernel
theorem dX6_mark_84 : decode cX6_mark 84 = .ok (.iaload, 1) := by decide +kernel
theorem dX6_mark_85 : decode cX6_mark 85 = .ok (.iastore, 1) := by decide +kernel
theorem dX6_mark_86 : decode cX6_mark 86 = .ok (.iinc 2 1, 3) := by decide +kernel
theorem dX6_mark_89 : decode cX6_mark 89 = .ok (.goto (-27), 3) := by decide +kernel
theorem dX6_mark_92 : decode cX6_mark 92 = .ok (.iconst 0, 1) := by decide +kernel
theorem dX6_mark_93 : decode cX6_mark 93 = .ok (.istore_n 2, 1) := by decide +kernel
theorem dX6_mark_94 : decode cX6_mark 94 = .ok (.iload_n 2, 1) := by decide +kernel
theorem dX6_mark_95 : decode cX6_mark 95 = .ok (.aload_n 0, 1) := by decide +kernel
theorem dX6_mark_96 : decode cX6_mark 96 = .ok (.getfield 7, 3) := by decide +kernel
theorem dX6_mark_99 : decode cX6_mark 99 = .ok (.iconst 0, 1) := by decide +kernel
theorem dX6_mark_100 : decode cX6_mark 100 = .ok (.iaload, 1) := by decide +kernel
theorem dX6_mark_101 : decode cX6_mark 101 = .ok (.if_icmp .ge 35, 3) := by decide +kernel
theorem dX6_mark_104 : decode cX6_mark 104 = .ok (.aload_n 0, 1) := by decide +kernel
theorem dX6_mark_105 : decode cX6_mark 105 = .ok (.getfield 58, 3) := by decide +kernel
theorem dX6_mark_108 : decode cX6_mark 108 = .ok (.iconst (-1), 1) := by decide +kernel
theorem dX6_mark_109 : decode cX6_mark 109 = .ok (.if_icmp .eq 27, 3) := by decide +kernel
theorem dX6_mark_112 : decode cX6_mark 112 = .ok (.aload_n 0, 1) := by decide +kernel
theorem dX6_mark_113 : decode cX6_mark 113 = .ok (.iconst 0, 1) := by decide +kernel
theorem dX6_mark_114 : decode cX6_mark 114 = .ok (.iload_n 2, 1) := by decide +kernel
theorem dX6_mark_115 : decode cX6_mark 115 = .ok (.aload_n 0, 1) := by decide +kernel
theorem dX6_mark_116 : decode cX6_mark 116 = .ok (.getfield 108, 3) := by decide +kernel
theorem dX6_mark_119 : decode cX6_mark 119 = .ok (.ifCond .ne 7, 3) := by decide +kernel
theorem dX6_mark_122 : decode cX6_mark 122 = .ok (.iconst 1, 1) := by decide +kernel
theorem dX6_mark_123 : decode cX6_mark 123 = .ok (.goto 4, 3) := by decide +kernel
theorem dX6_mark_126 : decode cX6_mark 126 = .ok (.iconst 0, 1) := by decide +kernel
theorem dX6_mark_127 : decode cX6_mark 127 = .ok (.invokevirtual 130, 3) := by decide +kernel
theorem dX6_mark_130 : decode cX6_mark 130 = .ok (.iinc 2 1, 3) := by decide +kernel
theorem dX6_mark_133 : decode cX6_mark 133 = .ok (.goto (-39), 3) := by decide +kernel
theorem dX6_mark_136 : decode cX6_mark 136 = .ok (.iload_n 1, 1) := by decide +kernel
theorem dX6_mark_137 : decode cX6_mark 137 = .ok (.ireturn, 1) := by decide +kernel
theorem dX6_giveUp_0 : decode cX6_giveUp 0 = .ok (.aload_n 0, 1) := by decide +kernel
theorem dX6_giveUp_1 : decode cX6_giveUp 1 = .ok (.getfield 58, 3) := by decide +kernel
theorem dX6_giveUp_4 : decode cX6_giveUp 4 = .ok (.iconst (-1), 1) := by decide +kernel
theorem dX6_giveUp_5 : decode cX6_giveUp 5 = .ok (.if_icmp .ne 6, 3) := by decide +kernel
theorem dX6_giveUp_8 : decode cX6_giveUp 8 = .ok (.bipush (-103), 2) := by decide +kernel
theorem dX6_giveUp_10 : decode cX6_giveUp 10 = .ok (.ireturn, 1) := by decide +kernel
theorem dX6_giveUp_11 : decode cX6_giveUp 11 = .ok (.aload_n 0, 1) := by decide +kernel
theorem dX6_giveUp_12 : decode cX6_giveUp 12 = .ok (.getfield 58, 3) := by decide +kernel
theorem dX6_giveUp_15 : decode cX6_giveUp 15 = .ok (.istore_n 1, 1) := by decide +kernel
theorem dX6_giveUp_16 : decode cX6_giveUp 16 = .ok (.aload_n 0, 1) := by decide +kernel
theorem dX6_giveUp_17 : decode cX6_giveUp 17 = .ok (.iconst 3, 1) := by decide +kernel
theorem dX6_giveUp_18 : decode cX6_giveUp 18 = .ok (.invokevirtual 114, 3) := by decide +kernel
theorem dX6_giveUp_21 : decode cX6_giveUp 21 = .ok (.iload_n 1, 1) := by decide +kernel
theorem dX6_giveUp_22 : decode cX6_giveUp 22 = .ok (.ireturn, 1) := by decide +kernel
theorem dX6_isRead_0 : decode cX6_isRead 0 = .ok (.iconst 0, 1) := by decide +kernel
theorem dX6_isRead_1 : decode cX6_isRead 1 = .ok (.istore_n 2, 1) := by decide +kernel
theorem dX6_isRead_2 : decode cX6_isRead 2 = .ok (.iconst 0, 1) := by decide +kernel
theorem dX6_isRead_3 : decode cX6_isRead 3 = .ok (.istore_n 3, 1) := by decide +kernel
theorem dX6_isRead_4 : decode cX6_isRead 4 = .ok (.iload_n 3, 1) := by decide +kernel
theorem dX6_isRead_5 : decode cX6_isRead 5 = .ok (.iload_n 1, 1) := by decide +kernel
theorem dX6_isRead_6 : decode cX6_isRead 6 = .ok (.if_icmp .ge 32, 3) := by decide +kernel
theorem dX6_isRead_9 : decode cX6_isRead 9 = .ok (.iload_n 2, 1) := by decide +kernel
theorem dX6_isRead_10 : decode cX6_isRead 10 = .ok (.aload_n 0, 1) := by decide +kernel
theorem dX6_isRead_11 : decode cX6_isRead 11 = .ok (.getfield 20, 3) := by decide +kernel
theorem dX6_isRead_14 : decode cX6_isRead 14 = .ok (.iload_n 3, 1) := by decide +kernel
theorem dX6_isRead_15 : decode cX6_isRead 15 = .ok (.iaload, 1) := by decide +kernel
theorem dX6_isRead_16 : decode cX6_isRead 16 = .ok (.aload_n 0, 1) := by decide +kernel
theorem dX6_isRead_17 : decode cX6_isRead 17 = .ok (.getfield 20, 3) := by decide +kernel
theorem dX6_isRead_20 : decode cX6_isRead 20 = .ok (.iload_n 1, 1) := by decide +kernel
theorem dX6_isRead_21 : decode cX6_isRead 21 = .ok (.iaload, 1) := by decide +kernel
theorem dX6_isRead_22 : decode cX6_isRead 22 = .ok (.if_icmp .ne 7, 3) := by decide +kernel
theorem dX6_isRead_25 : decode cX6_isRead 25 = .ok (.iconst 1, 1) := by decide +kernel
theorem dX6_isRead_26 : decode cX6_isRead 26 = .ok (.goto 4, 3) := by decide +kernel
theorem dX6_isRead_29 : decode cX6_isRead 29 = .ok (.iconst 0, 1) := by decide +kernel
theorem dX6_isRead_30 : decode cX6_isRead 30 = .ok (.iadd, 1) := by decide +kernel
theorem dX6_isRead_31 : decode cX6_isRead 31 = .ok (.istore_n 2, 1) := by decide +kernel
theorem dX6_isRead_32 : decode cX6_isRead 32 = .ok (.iinc 3 1, 3) := by decide +kernel
theorem dX6_isRead_35 : decode cX6_isRead 35 = .ok (.goto (-31), 3) := by decide +kernel
theorem dX6_isRead_38 : decode cX6_isRead 38 = .ok (.iload_n 2, 1) := by decide +kernel
theorem dX6_isRead_39 : decode cX6_isRead 39 = .ok (.aload_n 0, 1) := by decide +kernel
theorem dX6_isRead_40 : decode cX6_isRead 40 = .ok (.getfield 27, 3) := by decide +kernel
theorem dX6_isRead_43 : decode cX6_isRead 43 = .ok (.aload_n 0, 1) := by decide +kernel
theorem dX6_isRead_44 : decode cX6_isRead 44 = .ok (.getfield 20, 3) := by decide +kernel
theorem dX6_isRead_47 : decode cX6_isRead 47 = .ok (.iload_n 1, 1) := by decide +kernel
theorem dX6_isRead_48 : decode cX6_isRead 48 = .ok (.iaload, 1) := by decide +kernel
theorem dX6_isRead_49 : decode cX6_isRead 49 = .ok (.iaload, 1) := by decide +kernel
theorem dX6_isRead_50 : decode cX6_isRead 50 = .ok (.if_icmp .ge 7, 3) := by decide +kernel
theorem dX6_isRead_53 : decode cX6_isRead 53 = .ok (.iconst 1, 1) := by decide +kernel
theorem dX6_isRead_54 : decode cX6_isRead 54 = .ok (.goto 4, 3) := by decide +kernel
theorem dX6_isRead_57 : decode cX6_isRead 57 = .ok (.iconst 0, 1) := by decide +kernel
theorem dX6_isRead_58 : decode cX6_isRead 58 = .ok (.ireturn, 1) := by decide +kernel
theorem dX6_take_0 : decode cX6_take 0 = .ok (.aload_n 0, 1) := by decide +kernel
theorem dX6_take_1 : decode cX6_take 1 = .ok (.getfield 27, 3) := by decide +kernel
theorem dX6_take_4 : decode cX6_take 4 = .ok (.bipush 16, 2) := by decide +kernel
theorem dX6_take_6 : decode cX6_take 6 = .ok (.iload_n 1, 1) := by decide +kernel
theorem dX6_take_7 : decode cX6_take 7 = .ok (.imul, 1) := by decide +kernel
theorem dX6_take_8 : decode cX6_take 8 = .ok (.aload_n 0, 1) := by decide +kernel
theorem dX6_take_9 : decode cX6_take 9 = .ok (.getfield 20, 3) := by decide +kernel
theorem dX6_take_12 : decode cX6_take 12 = .ok (.iload_n 2, 1) := by decide +kernel
theorem dX6_take_13 : decode cX6_take 13 = .ok (.iaload, 1) := by decide +kernel
theorem dX6_take_14 : decode cX6_take 14 = .ok (.iadd, 1) := by decide +kernel
theorem dX6_take_15 : decode cX6_take 15 = .ok (.dup2, 1) := by decide +kernel
theorem dX6_take_16 : decode cX6_take 16 = .ok (.iaload, 1) := by decide +kernel
theorem dX6_take_17 : decode cX6_take 17 = .ok (.iconst 1, 1) := by decide +kernel
theorem dX6_take_18 : decode cX6_take 18 = .ok (.iadd, 1) := by decide +kernel
theorem dX6_take_19 : decode cX6_take 19 = .ok (.iastore, 1) := by decide +kernel
theorem dX6_take_20 : decode cX6_take 20 = .ok (.aload_n 0, 1) := by decide +kernel
theorem dX6_take_21 : decode cX6_take 21 = .ok (.getfield 30, 3) := by decide +kernel
theorem dX6_take_24 : decode cX6_take 24 = .ok (.bipush 16, 2) := by decide +kernel
theorem dX6_take_26 : decode cX6_take 26 = .ok (.iload_n 1, 1) := by decide +kernel
theorem dX6_take_27 : decode cX6_take 27 = .ok (.imul, 1) := by decide +kernel
theorem dX6_take_28 : decode cX6_take 28 = .ok (.aload_n 0, 1) := by decide +kernel
theorem dX6_take_29 : decode cX6_take 29 = .ok (.getfield 20, 3) := by decide +kernel
theorem dX6_take_32 : decode cX6_take 32 = .ok (.iload_n 2, 1) := by decide +kernel
theorem dX6_take_33 : decode cX6_take 33 = .ok (.iaload, 1) := by decide +kernel
theorem dX6_take_34 : decode cX6_take 34 = .ok (.iadd, 1) := by decide +kernel
theorem dX6_take_35 : decode cX6_take 35 = .ok (.dup2, 1) := by decide +kernel
theorem dX6_take_36 : decode cX6_take 36 = .ok (.laload, 1) := by decide +kernel
theorem dX6_take_37 : decode cX6_take 37 = .ok (.aload_n 0, 1) := by decide +kernel
theorem dX6_take_38 : decode cX6_take 38 = .ok (.getfield 23, 3) := by decide +kernel
theorem dX6_take_41 : decode cX6_take 41 = .ok (.iload_n 2, 1) := by decide +kernel
theorem dX6_take_42 : decode cX6_take 42 = .ok (.laload, 1) := by decide +kernel
theorem dX6_take_43 : decode cX6_take 43 = .ok (.ladd, 1) := by decide +kernel
theorem dX6_take_44 : decode cX6_take 44 = .ok (.lastore, 1) := by decide +kernel
theorem dX6_take_45 : decode cX6_take 45 = .ok (.return_, 1) := by decide +kernel
theorem dX6_put_0 : decode cX6_put 0 = .ok (.aload_n 0, 1) := by decide +kernel
theorem dX6_put_1 : decode cX6_put 1 = .ok (.getfield 33, 3) := by decide +kernel
theorem dX6_put_4 : decode cX6_put 4 = .ok (.sipush 200, 3) := by decide +kernel
theorem dX6_put_7 : decode cX6_put 7 = .ok (.iload_n 1, 1) := by decide +kernel
theorem dX6_put_8 : decode cX6_put 8 = .ok (.imul, 1) := by decide +kernel
theorem dX6_put_9 : decode cX6_put 9 = .ok (.aload_n 0, 1) := by decide +kernel
theorem dX6_put_10 : decode cX6_put 10 = .ok (.getfield 36, 3) := by decide +kernel
theorem dX6_put_13 : decode cX6_put 13 = .ok (.iload_n 1, 1) := by decide +kernel
theorem dX6_put_14 : decode cX6_put 14 = .ok (.iaload, 1) := by decide +kernel
theorem dX6_put_15 : decode cX6_put 15 = .ok (.iadd, 1) := by decide +kernel
theorem dX6_put_16 : decode cX6_put 16 = .ok (.iload_n 2, 1) := by decide +kernel
theorem dX6_put_17 : decode cX6_put 17 = .ok (.iastore, 1) := by decide +kernel
theorem dX6_put_18 : decode cX6_put 18 = .ok (.aload_n 0, 1) := by decide +kernel
theorem dX6_put_19 : decode cX6_put 19 = .ok (.getfield 36, 3) := by decide +kernel
theorem dX6_put_22 : decode cX6_put 22 = .ok (.iload_n 1, 1) := by decide +kernel
theorem dX6_put_23 : decode cX6_put 23 = .ok (.dup2, 1) := by decide +kernel
theorem dX6_put_24 : decode cX6_put 24 = .ok (.iaload, 1) := by decide +kernel
theorem dX6_put_25 : decode cX6_put 25 = .ok (.iconst 1, 1) := by decide +kernel
theorem dX6_put_26 : decode cX6_put 26 = .ok (.iadd, 1) := by decide +kernel
theorem dX6_put_27 : decode cX6_put 27 = .ok (.iastore, 1) := by decide +kernel
theorem dX6_put_28 : decode cX6_put 28 = .ok (.return_, 1) := by decide +kernel
theorem dX6_source_0 : decode cX6_source 0 = .ok (.iconst 0, 1) := by decide +kernel
theorem dX6_source_1 : decode cX6_source 1 = .ok (.istore_n 2, 1) := by decide +kernel
theorem dX6_source_2 : decode cX6_source 2 = .ok (.iload_n 2, 1) := by decide +kernel
theorem dX6_source_3 : decode cX6_source 3 = .ok (.aload_n 0, 1) := by decide +kernel
theorem dX6_source_4 : decode cX6_source 4 = .ok (.getfield 111, 3) := by decide +kernel
theorem dX6_source_7 : decode cX6_source 7 = .ok (.if_icmp .ge 34, 3) := by decide +kernel
theorem dX6_source_10 : decode cX6_source 10 = .ok (.aload_n 0, 1) := by decide +kernel
theorem dX6_source_11 : decode cX6_source 11 = .ok (.getfield 20, 3) := by decide +kernel
theorem dX6_source_14 : decode cX6_source 14 = .ok (.iload_n 2, 1) := by decide +kernel
theorem dX6_source_15 : decode cX6_source 15 = .ok (.iaload, 1) := by decide +kernel
theorem dX6_source_16 : decode cX6_source 16 = .ok (.aload_n 0, 1) := by decide +kernel
theorem dX6_source_17 : decode cX6_source 17 = .ok (.getfield 7, 3) := by decide +kernel
theorem dX6_source_20 : decode cX6_source 20 = .ok (.iconst 0, 1) := by decide +kernel
theorem dX6_source_21 : decode cX6_source 21 = .ok (.iaload, 1) := by decide +kernel
theorem dX6_source_22 : decode cX6_source 22 = .ok (.irem, 1) := by decide +kernel
theorem dX6_source_23 : decode cX6_source 23 = .ok (.iload_n 1, 1) := by decide +kernel
theorem dX6_source_24 : decode cX6_source 24 = .ok (.if_icmp .ne 11, 3) := by decide +kernel
theorem dX6_source_27 : decode cX6_source 27 = .ok (.aload_n 0, 1) := by decide +kernel
theorem dX6_source_28 : decode cX6_source 28 = .ok (.iload_n 2, 1) := by decide +kernel
theorem dX6_source_29 : decode cX6_source 29 = .ok (.invokevirtual 137, 3) := by decide +kernel
theorem dX6_source_32 : decode cX6_source 32 = .ok (.ifCond .eq 9, 3) := by decide +kernel
theorem dX6_source_35 : decode cX6_source 35 = .ok (.iinc 2 1, 3) := by decide +kernel
theorem dX6_source_38 : decode cX6_source 38 = .ok (.goto (-36), 3) := by decide +kernel
theorem dX6_source_41 : decode cX6_source 41 = .ok (.iload_n 2, 1) := by decide +kernel
theorem dX6_source_42 : decode cX6_source 42 = .ok (.aload_n 0, 1) := by decide +kernel
theorem dX6_source_43 : decode cX6_source 43 = .ok (.getfield 111, 3) := by decide +kernel
theorem dX6_source_46 : decode cX6_source 46 = .ok (.if_icmp .ne 5, 3) := by decide +kernel
theorem dX6_source_49 : decode cX6_source 49 = .ok (.iconst 0, 1) := by decide +kernel
theorem dX6_source_50 : decode cX6_source 50 = .ok (.ireturn, 1) := by decide +kernel
theorem dX6_source_51 : decode cX6_source 51 = .ok (.iconst 0, 1) := by decide +kernel
theorem dX6_source_52 : decode cX6_source 52 = .ok (.iload_n 1, 1) := by decide +kernel
theorem dX6_source_53 : decode cX6_source 53 = .ok (.aload_n 0, 1) := by decide +kernel
theorem dX6_source_54 : decode cX6_source 54 = .ok (.getfield 20, 3) := by decide +kernel
theorem dX6_source_57 : decode cX6_source 57 = .ok (.iload_n 2, 1) := by decide +kernel
theorem dX6_source_58 : decode cX6_source 58 = .ok (.iaload, 1) := by decide +kernel
theorem dX6_source_59 : decode cX6_source 59 = .ok (.aload_n 0, 1) := by decide +kernel
theorem dX6_source_60 : decode cX6_source 60 = .ok (.getfield 7, 3) := by decide +kernel
theorem dX6_source_63 : decode cX6_source 63 = .ok (.iconst 1, 1) := by decide +kernel
theorem dX6_source_64 : decode cX6_source 64 = .ok (.iaload, 1) := by decide +kernel
theorem dX6_source_65 : decode cX6_source 65 = .ok (.irem, 1) := by decide +kernel
theorem dX6_source_66 : decode cX6_source 66 = .ok (.invokestatic 118, 3) := by decide +kernel
theorem dX6_source_69 : decode cX6_source 69 = .ok (.istore_n 3, 1) := by decide +kernel
theorem dX6_source_70 : decode cX6_source 70 = .ok (.aload_n 0, 1) := by decide +kernel
theorem dX6_source_71 : decode cX6_source 71 = .ok (.getfield 36, 3) := by decide +kernel
theorem dX6_source_74 : decode cX6_source 74 = .ok (.iload_n 3, 1) := by decide +kernel
theorem dX6_source_75 : decode cX6_source 75 = .ok (.iaload, 1) := by decide +kernel
theorem dX6_source_76 : decode cX6_source 76 = .ok (.aload_n 0, 1) := by decide +kernel
theorem dX6_source_77 : decode cX6_source 77 = .ok (.getfield 13, 3) := by decide +kernel
theorem dX6_source_80 : decode cX6_source 80 = .ok (.if_icmp .lt 5, 3) := by decide +kernel
theorem dX6_source_83 : decode cX6_source 83 = .ok (.iconst 0, 1) := by decide +kernel
theorem dX6_source_84 : decode cX6_source 84 = .ok (.ireturn, 1) := by decide +kernel
theorem dX6_source_85 : decode cX6_source 85 = .ok (.aload_n 0, 1) := by decide +kernel
theorem dX6_source_86 : decode cX6_source 86 = .ok (.iconst 0, 1) := by decide +kernel
theorem dX6_source_87 : decode cX6_source 87 = .ok (.iload_n 2, 1) := by decide +kernel
theorem dX6_source_88 : decode cX6_source 88 = .ok (.invokevirtual 140, 3) := by decide +kernel
theorem dX6_source_91 : decode cX6_source 91 = .ok (.aload_n 0, 1) := by decide +kernel
theorem dX6_source_92 : decode cX6_source 92 = .ok (.iload_n 3, 1) := by decide +kernel
theorem dX6_source_93 : decode cX6_source 93 = .ok (.iload_n 2, 1) := by decide +kernel
theorem dX6_source_94 : decode cX6_source 94 = .ok (.invokevirtual 143, 3) := by decide +kernel
theorem dX6_source_97 : decode cX6_source 97 = .ok (.iconst 1, 1) := by decide +kernel
theorem dX6_source_98 : decode cX6_source 98 = .ok (.ireturn, 1) := by decide +kernel
theorem dX6_isShut_0 : decode cX6_isShut 0 = .ok (.aload_n 0, 1) := by decide +kernel
theorem dX6_isShut_1 : decode cX6_isShut 1 = .ok (.getfield 58, 3) := by decide +kernel
theorem dX6_isShut_4 : decode cX6_isShut 4 = .ok (.iconst (-1), 1) := by decide +kernel
theorem dX6_isShut_5 : decode cX6_isShut 5 = .ok (.if_icmp .eq 29, 3) := by decide +kernel
theorem dX6_isShut_8 : decode cX6_isShut 8 = .ok (.aload_n 0, 1) := by decide +kernel
theorem dX6_isShut_9 : decode cX6_isShut 9 = .ok (.getfield 49, 3) := by decide +kernel
theorem dX6_isShut_12 : decode cX6_isShut 12 = .ok (.iconst 4, 1) := by decide +kernel
theorem dX6_isShut_13 : decode cX6_isShut 13 = .ok (.iload_n 1, 1) := by decide +kernel
theorem dX6_isShut_14 : decode cX6_isShut 14 = .ok (.imul, 1) := by decide +kernel
theorem dX6_isShut_15 : decode cX6_isShut 15 = .ok (.iload_n 2, 1) := by decide +kernel
theorem dX6_isShut_16 : decode cX6_isShut 16 = .ok (.iadd, 1) := by decide +kernel
theorem dX6_isShut_17 : decode cX6_isShut 17 = .ok (.baload, 1) := by decide +kernel
theorem dX6_isShut_18 : decode cX6_isShut 18 = .ok (.ifCond .eq 16, 3) := by decide +kernel
theorem dX6_isShut_21 : decode cX6_isShut 21 = .ok (.aload_n 0, 1) := by decide +kernel
theorem dX6_isShut_22 : decode cX6_isShut 22 = .ok (.getfield 42, 3) := by decide +kernel
theorem dX6_isShut_25 : decode cX6_isShut 25 = .ok (.iload_n 3, 1) := by decide +kernel
theorem dX6_isShut_26 : decode cX6_isShut 26 = .ok (.baload, 1) := by decide +kernel
theorem dX6_isShut_27 : decode cX6_isShut 27 = .ok (.ifCond .eq 7, 3) := by decide +kernel
theorem dX6_isShut_30 : decode cX6_isShut 30 = .ok (.iconst 1, 1) := by decide +kernel
theorem dX6_isShut_31 : decode cX6_isShut 31 = .ok (.goto 4, 3) := by decide +kernel
theorem dX6_isShut_34 : decode cX6_isShut 34 = .ok (.iconst 0, 1) := by decide +kernel
theorem dX6_isShut_35 : decode cX6_isShut 35 = .ok (.ireturn, 1) := by decide +kernel
theorem dX6_takeFrom_0 : decode cX6_takeFrom 0 = .ok (.iload_n 1, 1) := by decide +kernel
theorem dX6_takeFrom_1 : decode cX6_takeFrom 1 = .ok (.iconst 1, 1) := by decide +kernel
theorem dX6_takeFrom_2 : decode cX6_takeFrom 2 = .ok (.isub, 1) := by decide +kernel
theorem dX6_takeFrom_3 : decode cX6_takeFrom 3 = .ok (.iload_n 3, 1) := by decide +kernel
theorem dX6_takeFrom_4 : decode cX6_takeFrom 4 = .ok (.iload_n 2, 1) := by decide +kernel
theorem dX6_takeFrom_5 : decode cX6_takeFrom 5 = .ok (.invokestatic 118, 3) := by decide +kernel
theorem dX6_takeFrom_8 : decode cX6_takeFrom 8 = .ok (.istore 4, 2) := by decide +kernel
theorem dX6_takeFrom_10 : decode cX6_takeFrom 10 = .ok (.aload_n 0, 1) := by decide +kernel
theorem dX6_takeFrom_11 : decode cX6_takeFrom 11 = .ok (.getfield 36, 3) := by decide +kernel
theorem dX6_takeFrom_14 : decode cX6_takeFrom 14 = .ok (.iload 4, 2) := by decide +kernel
theorem dX6_takeFrom_16 : decode cX6_takeFrom 16 = .ok (.iaload, 1) := by decide +kernel
theorem dX6_takeFrom_17 : decode cX6_takeFrom 17 = .ok (.ifCond .eq 14, 3) := by decide +kernel
theorem dX6_takeFrom_20 : decode cX6_takeFrom 20 = .ok (.aload_n 0, 1) := by decide +kernel
theorem dX6_takeFrom_21 : decode cX6_takeFrom 21 = .ok (.iload_n 1, 1) := by decide +kernel
theorem dX6_takeFrom_22 : decode cX6_takeFrom 22 = .ok (.iload_n 2, 1) := by decide +kernel
theorem dX6_takeFrom_23 : decode cX6_takeFrom 23 = .ok (.iload 4, 2) := by decide +kernel
theorem dX6_takeFrom_25 : decode cX6_takeFrom 25 = .ok (.invokevirtual 146, 3) := by decide +kernel
theorem dX6_takeFrom_28 : decode cX6_takeFrom 28 = .ok (.ifCond .eq 5, 3) := by decide +kernel
theorem dX6_takeFrom_31 : decode cX6_takeFrom 31 = .ok (.iconst 0, 1) := by decide +kernel
theorem dX6_takeFrom_32 : decode cX6_takeFrom 32 = .ok (.ireturn, 1) := by decide +kernel
theorem dX6_takeFrom_33 : decode cX6_takeFrom 33 = .ok (.aload_n 0, 1) := by decide +kernel
theorem dX6_takeFrom_34 : decode cX6_takeFrom 34 = .ok (.getfield 33, 3) := by decide +kernel
theorem dX6_takeFrom_37 : decode cX6_takeFrom 37 = .ok (.sipush 200, 3) := by decide +kernel
theorem dX6_takeFrom_40 : decode cX6_takeFrom 40 = .ok (.iload 4, 2) := by decide +kernel
theorem dX6_takeFrom_42 : decode cX6_takeFrom 42 = .ok (.imul, 1) := by decide +kernel
theorem dX6_takeFrom_43 : decode cX6_takeFrom 43 = .ok (.iaload, 1) := by decide +kernel
theorem dX6_takeFrom_44 : decode cX6_takeFrom 44 = .ok (.istore 5, 2) := by decide +kernel
theorem dX6_takeFrom_46 : decode cX6_takeFrom 46 = .ok (.iload_n 1, 1) := by decide +kernel
theorem dX6_takeFrom_47 : decode cX6_takeFrom 47 = .ok (.iconst 1, 1) := by decide +kernel
theorem dX6_takeFrom_48 : decode cX6_takeFrom 48 = .ok (.iadd, 1) := by decide +kernel
theorem dX6_takeFrom_49 : decode cX6_takeFrom 49 = .ok (.aload_n 0, 1) := by decide +kernel
theorem dX6_takeFrom_50 : decode cX6_takeFrom 50 = .ok (.getfield 91, 3) := by decide +kernel
theorem dX6_takeFrom_53 : decode cX6_takeFrom 53 = .ok (.if_icmp .ge 27, 3) := by decide +kernel
theorem dX6_takeFrom_56 : decode cX6_takeFrom 56 = .ok (.iload_n 1, 1) := by decide +kernel
theorem dX6_takeFrom_57 : decode cX6_takeFrom 57 = .ok (.iload_n 2, 1) := by decide +kernel
theorem dX6_takeFrom_58 : decode cX6_takeFrom 58 = .ok (.aload_n 0, 1) := by decide +kernel
theorem dX6_takeFrom_59 : decode cX6_takeFrom 59 = .ok (.getfield 20, 3) := by decide +kernel
theorem dX6_takeFrom_62 : decode cX6_takeFrom 62 = .ok (.iload 5, 2) := by decide +kernel
theorem dX6_takeFrom_64 : decode cX6_takeFrom 64 = .ok (.iaload, 1) := by decide +kernel
theorem dX6_takeFrom_65 : decode cX6_takeFrom 65 = .ok (.aload_n 0, 1) := by decide +kernel
theorem dX6_takeFrom_66 : decode cX6_takeFrom 66 = .ok (.getfield 7, 3) := by decide +kernel
theorem dX6_takeFrom_69 : decode cX6_takeFrom 69 = .ok (.iload_n 1, 1) := by decide +kernel
theorem dX6_takeFrom_70 : decode cX6_takeFrom 70 = .ok (.iconst 1, 1) := by decide +kernel
theorem dX6_takeFrom_71 : decode cX6_takeFrom 71 = .ok (.iadd, 1) := by decide +kernel
theorem dX6_takeFrom_72 : decode cX6_takeFrom 72 = .ok (.iaload, 1) := by decide +kernel
theorem dX6_takeFrom_73 : decode cX6_takeFrom 73 = .ok (.irem, 1) := by decide +kernel
theorem dX6_takeFrom_74 : decode cX6_takeFrom 74 = .ok (.invokestatic 118, 3) := by decide +kernel
theorem dX6_takeFrom_77 : decode cX6_takeFrom 77 = .ok (.goto 4, 3) := by decide +kernel
theorem dX6_takeFrom_80 : decode cX6_takeFrom 80 = .ok (.iconst (-1), 1) := by decide +kernel
theorem dX6_takeFrom_81 : decode cX6_takeFrom 81 = .ok (.istore 6, 2) := by decide +kernel
theorem dX6_takeFrom_83 : decode cX6_takeFrom 83 = .ok (.iload 6, 2) := by decide +kernel
theorem dX6_takeFrom_85 : decode cX6_takeFrom 85 = .ok (.iconst (-1), 1) := by decide +kernel
theorem dX6_takeFrom_86 : decode cX6_takeFrom 86 = .ok (.if_icmp .eq 19, 3) := by decide +kernel
theorem dX6_takeFrom_89 : decode cX6_takeFrom 89 = .ok (.aload_n 0, 1) := by decide +kernel
theorem dX6_takeFrom_90 : decode cX6_takeFrom 90 = .ok (.getfield 36, 3) := by decide +kernel
theorem dX6_takeFrom_93 : decode cX6_takeFrom 93 = .ok (.iload 6, 2) := by decide +kernel
theorem dX6_takeFrom_95 : decode cX6_takeFrom 95 = .ok (.iaload, 1) := by decide +kernel
theorem dX6_takeFrom_96 : decode cX6_takeFrom 96 = .ok (.aload_n 0, 1) := by decide +kernel
theorem dX6_takeFrom_97 : decode cX6_takeFrom 97 = .ok (.getfield 13, 3) := by decide +kernel
theorem dX6_takeFrom_100 : decode cX6_takeFrom 100 = .ok (.if_icmp .lt 5, 3) := by decide +kernel
theorem dX6_takeFrom_103 : decode cX6_takeFrom 103 = .ok (.iconst 0, 1) := by decide +kernel
theorem dX6_takeFrom_104 : decode cX6_takeFrom 104 = .ok (.ireturn, 1) := by decide +kernel
theorem dX6_takeFrom_105 : decode cX6_takeFrom 105 = .ok (.aload_n 0, 1) := by decide +kernel
theorem dX6_takeFrom_106 : decode cX6_takeFrom 106 = .ok (.getfield 36, 3) := by decide +kernel
theorem dX6_takeFrom_109 : decode cX6_takeFrom 109 = .ok (.iload 4, 2) := by decide +kernel
theorem dX6_takeFrom_111 : decode cX6_takeFrom 111 = .ok (.dup2, 1) := by decide +kernel
theorem dX6_takeFrom_112 : decode cX6_takeFrom 112 = .ok (.iaload, 1) := by decide +kernel
theorem dX6_takeFrom_113 : decode cX6_takeFrom 113 = .ok (.iconst 1, 1) := by decide +kernel
theorem dX6_takeFrom_114 : decode cX6_takeFrom 114 = .ok (.isub, 1) := by decide +kernel
theorem dX6_takeFrom_115 : decode cX6_takeFrom 115 = .ok (.iastore, 1) := by decide +kernel
theorem dX6_takeFrom_116 : decode cX6_takeFrom 116 = .ok (.iconst 0, 1) := by decide +kernel
theorem dX6_takeFrom_117 : decode cX6_takeFrom 117 = .ok (.istore 7, 2) := by decide +kernel
theorem dX6_takeFrom_119 : decode cX6_takeFrom 119 = .ok (.iload 7, 2) := by decide +kernel
theorem dX6_takeFrom_121 : decode cX6_takeFrom 121 = .ok (.aload_n 0, 1) := by decide +kernel
theorem dX6_takeFrom_122 : decode cX6_takeFrom 122 = .ok (.getfield 36, 3) := by decide +kernel
theorem dX6_takeFrom_125 : decode cX6_takeFrom 125 = .ok (.iload 4, 2) := by decide +kernel
theorem dX6_takeFrom_127 : decode cX6_takeFrom 127 = .ok (.iaload, 1) := by decide +kernel
theorem dX6_takeFrom_128 : decode cX6_takeFrom 128 = .ok (.if_icmp .ge 39, 3) := by decide +kernel
theorem dX6_takeFrom_131 : decode cX6_takeFrom 131 = .ok (.aload_n 0, 1) := by decide +kernel
theorem dX6_takeFrom_132 : decode cX6_takeFrom 132 = .ok (.getfield 33, 3) := by decide +kernel
theorem dX6_takeFrom_135 : decode cX6_takeFrom 135 = .ok (.sipush 200, 3) := by decide +kernel
theorem dX6_takeFrom_138 : decode cX6_takeFrom 138 = .ok (.iload 4, 2) := by decide +kernel
theorem dX6_takeFrom_140 : decode cX6_takeFrom 140 = .ok (.imul, 1) := by decide +kernel
theorem dX6_takeFrom_141 : decode cX6_takeFrom 141 = .ok (.iload 7, 2) := by decide +kernel
theorem dX6_takeFrom_143 : decode cX6_takeFrom 143 = .ok (.iadd, 1) := by decide +kernel
theorem dX6_takeFrom_144 : decode cX6_takeFrom 144 = .ok (.aload_n 0, 1) := by decide +kernel
theorem dX6_takeFrom_145 : decode cX6_takeFrom 145 = .ok (.getfield 33, 3) := by decide +kernel
theorem dX6_takeFrom_148 : decode cX6_takeFrom 148 = .ok (.sipush 200, 3) := by decide +kernel
theorem dX6_takeFrom_151 : decode cX6_takeFrom 151 = .ok (.iload 4, 2) := by decide +kernel
theorem dX6_takeFrom_153 : decode cX6_takeFrom 153 = .ok (.imul, 1) := by decide +kernel
theorem dX6_takeFrom_154 : decode cX6_takeFrom 154 = .ok (.iload 7, 2) := by decide +kernel
theorem dX6_takeFrom_156 : decode cX6_takeFrom 156 = .ok (.iadd, 1) := by decide +kernel
theorem dX6_takeFrom_157 : decode cX6_takeFrom 157 = .ok (.iconst 1, 1) := by decide +kernel
theorem dX6_takeFrom_158 : decode cX6_takeFrom 158 = .ok (.iadd, 1) := by decide +kernel
theorem dX6_takeFrom_159 : decode cX6_takeFrom 159 = .ok (.iaload, 1) := by decide +kernel
theorem dX6_takeFrom_160 : decode cX6_takeFrom 160 = .ok (.iastore, 1) := by decide +kernel
theorem dX6_takeFrom_161 : decode cX6_takeFrom 161 = .ok (.iinc 7 1, 3) := by decide +kernel
theorem dX6_takeFrom_164 : decode cX6_takeFrom 164 = .ok (.goto (-45), 3) := by decide +kernel
theorem dX6_takeFrom_167 : decode cX6_takeFrom 167 = .ok (.aload_n 0, 1) := by decide +kernel
theorem dX6_takeFrom_168 : decode cX6_takeFrom 168 = .ok (.getfield 39, 3) := by decide +kernel
theorem dX6_takeFrom_171 : decode cX6_takeFrom 171 = .ok (.iload 4, 2) := by decide +kernel
theorem dX6_takeFrom_173 : decode cX6_takeFrom 173 = .ok (.aload_n 0, 1) := by decide +kernel
theorem dX6_takeFrom_174 : decode cX6_takeFrom 174 = .ok (.getfield 39, 3) := by decide +kernel
theorem dX6_takeFrom_177 : decode cX6_takeFrom 177 = .ok (.iload 4, 2) := by decide +kernel
theorem dX6_takeFrom_179 : decode cX6_takeFrom 179 = .ok (.iaload, 1) := by decide +kernel
theorem dX6_takeFrom_180 : decode cX6_takeFrom 180 = .ok (.ifCond .le 15, 3) := by decide +kernel
theorem dX6_takeFrom_183 : decode cX6_takeFrom 183 = .ok (.aload_n 0, 1) := by decide +kernel
theorem dX6_takeFrom_184 : decode cX6_takeFrom 184 = .ok (.getfield 39, 3) := by decide +kernel
theorem dX6_takeFrom_187 : decode cX6_takeFrom 187 = .ok (.iload 4, 2) := by decide +kernel
theorem dX6_takeFrom_189 : decode cX6_takeFrom 189 = .ok (.iaload, 1) := by decide +kernel
theorem dX6_takeFrom_190 : decode cX6_takeFrom 190 = .ok (.iconst 1, 1) := by decide +kernel
theorem dX6_takeFrom_191 : decode cX6_takeFrom 191 = .ok (.isub, 1) := by decide +kernel
theorem dX6_takeFrom_192 : decode cX6_takeFrom 192 = .ok (.goto 10, 3) := by decide +kernel
theorem dX6_takeFrom_195 : decode cX6_takeFrom 195 = .ok (.aload_n 0, 1) := by decide +kernel
theorem dX6_takeFrom_196 : decode cX6_takeFrom 196 = .ok (.getfield 39, 3) := by decide +kernel
theorem dX6_takeFrom_199 : decode cX6_takeFrom 199 = .ok (.iload 4, 2) := by decide +kernel
theorem dX6_takeFrom_201 : decode cX6_takeFrom 201 = .ok (.iaload, 1) := by decide +kernel
theorem dX6_takeFrom_202 : decode cX6_takeFrom 202 = .ok (.iastore, 1) := by decide +kernel
theorem dX6_takeFrom_203 : decode cX6_takeFrom 203 = .ok (.aload_n 0, 1) := by decide +kernel
theorem dX6_takeFrom_204 : decode cX6_takeFrom 204 = .ok (.iload_n 1, 1) := by decide +kernel
theorem dX6_takeFrom_205 : decode cX6_takeFrom 205 = .ok (.iload 5, 2) := by decide +kernel
theorem dX6_takeFrom_207 : decode cX6_takeFrom 207 = .ok (.invokevirtual 140, 3) := by decide +kernel
theorem dX6_takeFrom_210 : decode cX6_takeFrom 210 = .ok (.aload_n 0, 1) := by decide +kernel
theorem dX6_takeFrom_211 : decode cX6_takeFrom 211 = .ok (.getfield 55, 3) := by decide +kernel
theorem dX6_takeFrom_214 : decode cX6_takeFrom 214 = .ok (.iconst 4, 1) := by decide +kernel
theorem dX6_takeFrom_215 : decode cX6_takeFrom 215 = .ok (.iload_n 1, 1) := by decide +kernel
theorem dX6_takeFrom_216 : decode cX6_takeFrom 216 = .ok (.imul, 1) := by decide +kernel
theorem dX6_takeFrom_217 : decode cX6_takeFrom 217 = .ok (.iload_n 2, 1) := by decide +kernel
theorem dX6_takeFrom_218 : decode cX6_takeFrom 218 = .ok (.iadd, 1) := by decide +kernel
theorem dX6_takeFrom_219 : decode cX6_takeFrom 219 = .ok (.iload_n 3, 1) := by decide +kernel
theorem dX6_takeFrom_220 : decode cX6_takeFrom 220 = .ok (.iconst 1, 1) := by decide +kernel
theorem dX6_takeFrom_221 : decode cX6_takeFrom 221 = .ok (.iadd, 1) := by decide +kernel
theorem dX6_takeFrom_222 : decode cX6_takeFrom 222 = .ok (.aload_n 0, 1) := by decide +kernel
theorem dX6_takeFrom_223 : decode cX6_takeFrom 223 = .ok (.getfield 7, 3) := by decide +kernel
theorem dX6_takeFrom_226 : decode cX6_takeFrom 226 = .ok (.iload_n 1, 1) := by decide +kernel
theorem dX6_takeFrom_227 : decode cX6_takeFrom 227 = .ok (.iconst 1, 1) := by decide +kernel
theorem dX6_takeFrom_228 : decode cX6_takeFrom 228 = .ok (.isub, 1) := by decide +kernel
theorem dX6_takeFrom_229 : decode cX6_takeFrom 229 = .ok (.iaload, 1) := by decide +kernel
theorem dX6_takeFrom_230 : decode cX6_takeFrom 230 = .ok (.irem, 1) := by decide +kernel
theorem dX6_takeFrom_231 : decode cX6_takeFrom 231 = .ok (.iastore, 1) := by decide +kernel
theorem dX6_takeFrom_232 : decode cX6_takeFrom 232 = .ok (.aload_n 0, 1) := by decide +kernel
theorem dX6_takeFrom_233 : decode cX6_takeFrom 233 = .ok (.getfield 58, 3) := by decide +kernel
theorem dX6_takeFrom_236 : decode cX6_takeFrom 236 = .ok (.iconst (-1), 1) := by decide +kernel
theorem dX6_takeFrom_237 : decode cX6_takeFrom 237 = .ok (.if_icmp .eq 50, 3) := by decide +kernel
theorem dX6_takeFrom_240 : decode cX6_takeFrom 240 = .ok (.aload_n 0, 1) := by decide +kernel
theorem dX6_takeFrom_241 : decode cX6_takeFrom 241 = .ok (.getfield 46, 3) := by decide +kernel
theorem dX6_takeFrom_244 : decode cX6_takeFrom 244 = .ok (.iconst 4, 1) := by decide +kernel
theorem dX6_takeFrom_245 : decode cX6_takeFrom 245 = .ok (.iload_n 1, 1) := by decide +kernel
theorem dX6_takeFrom_246 : decode cX6_takeFrom 246 = .ok (.imul, 1) := by decide +kernel
theorem dX6_takeFrom_247 : decode cX6_takeFrom 247 = .ok (.iload_n 2, 1) := by decide +kernel
theorem dX6_takeFrom_248 : decode cX6_takeFrom 248 = .ok (.iadd, 1) := by decide +kernel
theorem dX6_takeFrom_249 : decode cX6_takeFrom 249 = .ok (.baload, 1) := by decide +kernel
theorem dX6_takeFrom_250 : decode cX6_takeFrom 250 = .ok (.ifCond .eq 37, 3) := by decide +kernel
theorem dX6_takeFrom_253 : decode cX6_takeFrom 253 = .ok (.aload_n 0, 1) := by decide +kernel
theorem dX6_takeFrom_254 : decode cX6_takeFrom 254 = .ok (.getfield 42, 3) := by decide +kernel
theorem dX6_takeFrom_257 : decode cX6_takeFrom 257 = .ok (.iload 4, 2) := by decide +kernel
theorem dX6_takeFrom_259 : decode cX6_takeFrom 259 = .ok (.baload, 1) := by decide +kernel
theorem dX6_takeFrom_260 : decode cX6_takeFrom 260 = .ok (.ifCond .ne 27, 3) := by decide +kernel
theorem dX6_takeFrom_263 : decode cX6_takeFrom 263 = .ok (.aload_n 0, 1) := by decide +kernel
theorem dX6_takeFrom_264 : decode cX6_takeFrom 264 = .ok (.getfield 88, 3) := by decide +kernel
theorem dX6_takeFrom_267 : decode cX6_takeFrom 267 = .ok (.bipush 48, 2) := by decide +kernel
theorem dX6_takeFrom_269 : decode cX6_takeFrom 269 = .ok (.aload_n 0, 1) := by decide +kernel
theorem dX6_takeFrom_270 : decode cX6_takeFrom 270 = .ok (.getfield 58, 3) := by decide +kernel
theorem dX6_takeFrom_273 : decode cX6_takeFrom 273 = .ok (.imul, 1) := by decide +kernel
theorem dX6_takeFrom_274 : decode cX6_takeFrom 274 = .ok (.iload 4, 2) := by decide +kernel
theorem dX6_takeFrom_276 : decode cX6_takeFrom 276 = .ok (.iadd, 1) := by decide +kernel
theorem dX6_takeFrom_277 : decode cX6_takeFrom 277 = .ok (.iconst 1, 1) := by decide +kernel
theorem dX6_takeFrom_278 : decode cX6_takeFrom 278 = .ok (.bastore, 1) := by decide +kernel
theorem dX6_takeFrom_279 : decode cX6_takeFrom 279 = .ok (.aload_n 0, 1) := by decide +kernel
theorem dX6_takeFrom_280 : decode cX6_takeFrom 280 = .ok (.iload 4, 2) := by decide +kernel
theorem dX6_takeFrom_282 : decode cX6_takeFrom 282 = .ok (.iload 5, 2) := by decide +kernel
theorem dX6_takeFrom_284 : decode cX6_takeFrom 284 = .ok (.invokevirtual 122, 3) := by decide +kernel
theorem dX6_takeFrom_287 : decode cX6_takeFrom 287 = .ok (.iload 6, 2) := by decide +kernel
theorem dX6_takeFrom_289 : decode cX6_takeFrom 289 = .ok (.iconst (-1), 1) := by decide +kernel
theorem dX6_takeFrom_290 : decode cX6_takeFrom 290 = .ok (.if_icmp .eq 11, 3) := by decide +kernel
theorem dX6_takeFrom_293 : decode cX6_takeFrom 293 = .ok (.aload_n 0, 1) := by decide +kernel
theorem dX6_takeFrom_294 : decode cX6_takeFrom 294 = .ok (.iload 6, 2) := by decide +kernel
theorem dX6_takeFrom_296 : decode cX6_takeFrom 296 = .ok (.iload 5, 2) := by decide +kernel
theorem dX6_takeFrom_298 : decode cX6_takeFrom 298 = .ok (.invokevirtual 143, 3) := by decide +kernel
theorem dX6_takeFrom_301 : decode cX6_takeFrom 301 = .ok (.iconst 1, 1) := by decide +kernel
theorem dX6_takeFrom_302 : decode cX6_takeFrom 302 = .ok (.ireturn, 1) := by decide +kernel
theorem dX6_turn_0 : decode cX6_turn 0 = .ok (.aload_n 0, 1) := by decide +kernel
theorem dX6_turn_1 : decode cX6_turn 1 = .ok (.iload_n 1, 1) := by decide +kernel
theorem dX6_turn_2 : decode cX6_turn 2 = .ok (.iload_n 2, 1) := by decide +kernel
theorem dX6_turn_3 : decode cX6_turn 3 = .ok (.invokevirtual 149, 3) := by decide +kernel
theorem dX6_turn_6 : decode cX6_turn 6 = .ok (.ifCond .ne 6, 3) := by decide +kernel
theorem dX6_turn_9 : decode cX6_turn 9 = .ok (.bipush (-101), 2) := by decide +kernel
theorem dX6_turn_11 : decode cX6_turn 11 = .ok (.ireturn, 1) := by decide +kernel
theorem dX6_turn_12 : decode cX6_turn 12 = .ok (.aload_n 0, 1) := by decide +kernel
theorem dX6_turn_13 : decode cX6_turn 13 = .ok (.dup, 1) := by decide +kernel
theorem dX6_turn_14 : decode cX6_turn 14 = .ok (.getfield 102, 3) := by decide +kernel
theorem dX6_turn_17 : decode cX6_turn 17 = .ok (.iconst 1, 1) := by decide +kernel
theorem dX6_turn_18 : decode cX6_turn 18 = .ok (.iadd, 1) := by decide +kernel
theorem dX6_turn_19 : decode cX6_turn 19 = .ok (.putfield 102, 3) := by decide +kernel
theorem dX6_turn_22 : decode cX6_turn 22 = .ok (.iload_n 1, 1) := by decide +kernel
theorem dX6_turn_23 : decode cX6_turn 23 = .ok (.ifCond .ne 9, 3) := by decide +kernel
theorem dX6_turn_26 : decode cX6_turn 26 = .ok (.aload_n 0, 1) := by decide +kernel
theorem dX6_turn_27 : decode cX6_turn 27 = .ok (.iload_n 2, 1) := by decide +kernel
theorem dX6_turn_28 : decode cX6_turn 28 = .ok (.invokevirtual 152, 3) := by decide +kernel
theorem dX6_turn_31 : decode cX6_turn 31 = .ok (.ireturn, 1) := by decide +kernel
theorem dX6_turn_32 : decode cX6_turn 32 = .ok (.iconst 0, 1) := by decide +kernel
theorem dX6_turn_33 : decode cX6_turn 33 = .ok (.istore_n 3, 1) := by decide +kernel
theorem dX6_turn_34 : decode cX6_turn 34 = .ok (.iload_n 3, 1) := by decide +kernel
theorem dX6_turn_35 : decode cX6_turn 35 = .ok (.aload_n 0, 1) := by decide +kernel
theorem dX6_turn_36 : decode cX6_turn 36 = .ok (.getfield 7, 3) := by decide +kernel
theorem dX6_turn_39 : decode cX6_turn 39 = .ok (.iload_n 1, 1) := by decide +kernel
theorem dX6_turn_40 : decode cX6_turn 40 = .ok (.iconst 1, 1) := by decide +kernel
theorem dX6_turn_41 : decode cX6_turn 41 = .ok (.isub, 1) := by decide +kernel
theorem dX6_turn_42 : decode cX6_turn 42 = .ok (.iaload, 1) := by decide +kernel
theorem dX6_turn_43 : decode cX6_turn 43 = .ok (.if_icmp .ge 39, 3) := by decide +kernel
theorem dX6_turn_46 : decode cX6_turn 46 = .ok (.iload_n 1, 1) := by decide +kernel
theorem dX6_turn_47 : decode cX6_turn 47 = .ok (.iconst 1, 1) := by decide +kernel
theorem dX6_turn_48 : decode cX6_turn 48 = .ok (.isub, 1) := by decide +kernel
theorem dX6_turn_49 : decode cX6_turn 49 = .ok (.iload_n 3, 1) := by decide +kernel
theorem dX6_turn_50 : decode cX6_turn 50 = .ok (.iload_n 2, 1) := by decide +kernel
theorem dX6_turn_51 : decode cX6_turn 51 = .ok (.invokestatic 118, 3) := by decide +kernel
theorem dX6_turn_54 : decode cX6_turn 54 = .ok (.istore 4, 2) := by decide +kernel
theorem dX6_turn_56 : decode cX6_turn 56 = .ok (.aload_n 0, 1) := by decide +kernel
theorem dX6_turn_57 : decode cX6_turn 57 = .ok (.getfield 39, 3) := by decide +kernel
theorem dX6_turn_60 : decode cX6_turn 60 = .ok (.iload 4, 2) := by decide +kernel
theorem dX6_turn_62 : decode cX6_turn 62 = .ok (.iaload, 1) := by decide +kernel
theorem dX6_turn_63 : decode cX6_turn 63 = .ok (.ifCond .ne 13, 3) := by decide +kernel
theorem dX6_turn_66 : decode cX6_turn 66 = .ok (.aload_n 0, 1) := by decide +kernel
theorem dX6_turn_67 : decode cX6_turn 67 = .ok (.iload_n 1, 1) := by decide +kernel
theorem dX6_turn_68 : decode cX6_turn 68 = .ok (.iload_n 2, 1) := by decide +kernel
theorem dX6_turn_69 : decode cX6_turn 69 = .ok (.iload 4, 2) := by decide +kernel
theorem dX6_turn_71 : decode cX6_turn 71 = .ok (.invokevirtual 156, 3) := by decide +kernel
theorem dX6_turn_74 : decode cX6_turn 74 = .ok (.iconst 2, 1) := by decide +kernel
theorem dX6_turn_75 : decode cX6_turn 75 = .ok (.ireturn, 1) := by decide +kernel
theorem dX6_turn_76 : decode cX6_turn 76 = .ok (.iinc 3 1, 3) := by decide +kernel
theorem dX6_turn_79 : decode cX6_turn 79 = .ok (.goto (-45), 3) := by decide +kernel
theorem dX6_turn_82 : decode cX6_turn 82 = .ok (.iconst 4, 1) := by decide +kernel
theorem dX6_turn_83 : decode cX6_turn 83 = .ok (.iload_n 1, 1) := by decide +kernel
theorem dX6_turn_84 : decode cX6_turn 84 = .ok (.imul, 1) := by decide +kernel
theorem dX6_turn_85 : decode cX6_turn 85 = .ok (.iload_n 2, 1) := by decide +kernel
theorem dX6_turn_86 : decode cX6_turn 86 = .ok (.iadd, 1) := by decide +kernel
theorem dX6_turn_87 : decode cX6_turn 87 = .ok (.istore_n 3, 1) := by decide +kernel
theorem dX6_turn_88 : decode cX6_turn 88 = .ok (.aload_n 0, 1) := by decide +kernel
theorem dX6_turn_89 : decode cX6_turn 89 = .ok (.getfield 49, 3) := by decide +kernel
theorem dX6_turn_92 : decode cX6_turn 92 = .ok (.iload_n 3, 1) := by decide +kernel
theorem dX6_turn_93 : decode cX6_turn 93 = .ok (.baload, 1) := by decide +kernel
theorem dX6_turn_94 : decode cX6_turn 94 = .ok (.ifCond .eq 42, 3) := by decide +kernel
theorem dX6_turn_97 : decode cX6_turn 97 = .ok (.aload_n 0, 1) := by decide +kernel
theorem dX6_turn_98 : decode cX6_turn 98 = .ok (.getfield 108, 3) := by decide +kernel
theorem dX6_turn_101 : decode cX6_turn 101 = .ok (.iconst (-1), 1) := by decide +kernel
theorem dX6_turn_102 : decode cX6_turn 102 = .ok (.if_icmp .eq 34, 3) := by decide +kernel
theorem dX6_turn_105 : decode cX6_turn 105 = .ok (.aload_n 0, 1) := by decide +kernel
theorem dX6_turn_106 : decode cX6_turn 106 = .ok (.getfield 102, 3) := by decide +kernel
theorem dX6_turn_109 : decode cX6_turn 109 = .ok (.aload_n 0, 1) := by decide +kernel
theorem dX6_turn_110 : decode cX6_turn 110 = .ok (.getfield 52, 3) := by decide +kernel
theorem dX6_turn_113 : decode cX6_turn 113 = .ok (.iload_n 3, 1) := by decide +kernel
theorem dX6_turn_114 : decode cX6_turn 114 = .ok (.iaload, 1) := by decide +kernel
theorem dX6_turn_115 : decode cX6_turn 115 = .ok (.isub, 1) := by decide +kernel
theorem dX6_turn_116 : decode cX6_turn 116 = .ok (.aload_n 0, 1) := by decide +kernel
theorem dX6_turn_117 : decode cX6_turn 117 = .ok (.getfield 108, 3) := by decide +kernel
theorem dX6_turn_120 : decode cX6_turn 120 = .ok (.if_icmp .lt 16, 3) := by decide +kernel
theorem dX6_turn_123 : decode cX6_turn 123 = .ok (.aload_n 0, 1) := by decide +kernel
theorem dX6_turn_124 : decode cX6_turn 124 = .ok (.iload_n 1, 1) := by decide +kernel
theorem dX6_turn_125 : decode cX6_turn 125 = .ok (.iload_n 2, 1) := by decide +kernel
theorem dX6_turn_126 : decode cX6_turn 126 = .ok (.iconst 1, 1) := by decide +kernel
theorem dX6_turn_127 : decode cX6_turn 127 = .ok (.invokevirtual 130, 3) := by decide +kernel
theorem dX6_turn_130 : decode cX6_turn 130 = .ok (.aload_n 0, 1) := by decide +kernel
theorem dX6_turn_131 : decode cX6_turn 131 = .ok (.invokevirtual 134, 3) := by decide +kernel
theorem dX6_turn_134 : decode cX6_turn 134 = .ok (.iconst 3, 1) := by decide +kernel
theorem dX6_turn_135 : decode cX6_turn 135 = .ok (.ireturn, 1) := by decide +kernel
theorem dX6_turn_136 : decode cX6_turn 136 = .ok (.aload_n 0, 1) := by decide +kernel
theorem dX6_turn_137 : decode cX6_turn 137 = .ok (.getfield 55, 3) := by decide +kernel
theorem dX6_turn_140 : decode cX6_turn 140 = .ok (.iload_n 3, 1) := by decide +kernel
theorem dX6_turn_141 : decode cX6_turn 141 = .ok (.iaload, 1) := by decide +kernel
theorem dX6_turn_142 : decode cX6_turn 142 = .ok (.istore 4, 2) := by decide +kernel
theorem dX6_turn_144 : decode cX6_turn 144 = .ok (.iconst 0, 1) := by decide +kernel
theorem dX6_turn_145 : decode cX6_turn 145 = .ok (.istore 5, 2) := by decide +kernel
theorem dX6_turn_147 : decode cX6_turn 147 = .ok (.iload 5, 2) := by decide +kernel
theorem dX6_turn_149 : decode cX6_turn 149 = .ok (.aload_n 0, 1) := by decide +kernel
theorem dX6_turn_150 : decode cX6_turn 150 = .ok (.getfield 7, 3) := by decide +kernel
theorem dX6_turn_153 : decode cX6_turn 153 = .ok (.iload_n 1, 1) := by decide +kernel
theorem dX6_turn_154 : decode cX6_turn 154 = .ok (.iconst 1, 1) := by decide +kernel
theorem dX6_turn_155 : decode cX6_turn 155 = .ok (.isub, 1) := by decide +kernel
theorem dX6_turn_156 : decode cX6_turn 156 = .ok (.iaload, 1) := by decide +kernel
theorem dX6_turn_157 : decode cX6_turn 157 = .ok (.if_icmp .ge 34, 3) := by decide +kernel
theorem dX6_turn_160 : decode cX6_turn 160 = .ok (.aload_n 0, 1) := by decide +kernel
theorem dX6_turn_161 : decode cX6_turn 161 = .ok (.iload_n 1, 1) := by decide +kernel
theorem dX6_turn_162 : decode cX6_turn 162 = .ok (.iload_n 2, 1) := by decide +kernel
theorem dX6_turn_163 : decode cX6_turn 163 = .ok (.iload 4, 2) := by decide +kernel
theorem dX6_turn_165 : decode cX6_turn 165 = .ok (.iload 5, 2) := by decide +kernel
theorem dX6_turn_167 : decode cX6_turn 167 = .ok (.iadd, 1) := by decide +kernel
theorem dX6_turn_168 : decode cX6_turn 168 = .ok (.aload_n 0, 1) := by decide +kernel
theorem dX6_turn_169 : decode cX6_turn 169 = .ok (.getfield 7, 3) := by decide +kernel
theorem dX6_turn_172 : decode cX6_turn 172 = .ok (.iload_n 1, 1) := by decide +kernel
theorem dX6_turn_173 : decode cX6_turn 173 = .ok (.iconst 1, 1) := by decide +kernel
theorem dX6_turn_174 : decode cX6_turn 174 = .ok (.isub, 1) := by decide +kernel
theorem dX6_turn_175 : decode cX6_turn 175 = .ok (.iaload, 1) := by decide +kernel
theorem dX6_turn_176 : decode cX6_turn 176 = .ok (.irem, 1) := by decide +kernel
theorem dX6_turn_177 : decode cX6_turn 177 = .ok (.invokevirtual 160, 3) := by decide +kernel
theorem dX6_turn_180 : decode cX6_turn 180 = .ok (.ifCond .eq 5, 3) := by decide +kernel
theorem dX6_turn_183 : decode cX6_turn 183 = .ok (.iconst 1, 1) := by decide +kernel
theorem dX6_turn_184 : decode cX6_turn 184 = .ok (.ireturn, 1) := by decide +kernel
theorem dX6_turn_185 : decode cX6_turn 185 = .ok (.iinc 5 1, 3) := by decide +kernel
theorem dX6_turn_188 : decode cX6_turn 188 = .ok (.goto (-41), 3) := by decide +kernel
theorem dX6_turn_191 : decode cX6_turn 191 = .ok (.iconst 0, 1) := by decide +kernel
theorem dX6_turn_192 : decode cX6_turn 192 = .ok (.ireturn, 1) := by decide +kernel
theorem dX6_run_0 : decode cX6_run 0 = .ok (.iload_n 1, 1) := by decide +kernel
theorem dX6_run_1 : decode cX6_run 1 = .ok (.iconst 1, 1) := by decide +kernel
theorem dX6_run_2 : decode cX6_run 2 = .ok (.bipush 50, 2) := by decide +kernel
theorem dX6_run_4 : decode cX6_run 4 = .ok (.invokestatic 94, 3) := by decide +kernel
theorem dX6_run_7 : decode cX6_run 7 = .ok (.ifCond .ne 6, 3) := by decide +kernel
theorem dX6_run_10 : decode cX6_run 10 = .ok (.bipush (-102), 2) := by decide +kernel
theorem dX6_run_12 : decode cX6_run 12 = .ok (.ireturn, 1) := by decide +kernel
theorem dX6_run_13 : decode cX6_run 13 = .ok (.iconst 0, 1) := by decide +kernel
theorem dX6_run_14 : decode cX6_run 14 = .ok (.istore_n 2, 1) := by decide +kernel
theorem dX6_run_15 : decode cX6_run 15 = .ok (.iconst 0, 1) := by decide +kernel
theorem dX6_run_16 : decode cX6_run 16 = .ok (.istore_n 3, 1) := by decide +kernel
theorem dX6_run_17 : decode cX6_run 17 = .ok (.iload_n 3, 1) := by decide +kernel
theorem dX6_run_18 : decode cX6_run 18 = .ok (.iload_n 1, 1) := by decide +kernel
theorem dX6_run_19 : decode cX6_run 19 = .ok (.if_icmp .ge 67, 3) := by decide +kernel
theorem dX6_run_22 : decode cX6_run 22 = .ok (.iconst 0, 1) := by decide +kernel
theorem dX6_run_23 : decode cX6_run 23 = .ok (.istore 4, 2) := by decide +kernel
theorem dX6_run_25 : decode cX6_run 25 = .ok (.iload 4, 2) := by decide +kernel
theorem dX6_run_27 : decode cX6_run 27 = .ok (.aload_n 0, 1) := by decide +kernel
theorem dX6_run_28 : decode cX6_run 28 = .ok (.getfield 91, 3) := by decide +kernel
theorem dX6_run_31 : decode cX6_run 31 = .ok (.if_icmp .ge 49, 3) := by decide +kernel
theorem dX6_run_34 : decode cX6_run 34 = .ok (.iconst 0, 1) := by decide +kernel
theorem dX6_run_35 : decode cX6_run 35 = .ok (.istore 5, 2) := by decide +kernel
theorem dX6_run_37 : decode cX6_run 37 = .ok (.iload 5, 2) := by decide +kernel
theorem dX6_run_39 : decode cX6_run 39 = .ok (.aload_n 0, 1) := by decide +kernel
theorem dX6_run_40 : decode cX6_run 40 = .ok (.getfield 7, 3) := by decide +kernel
theorem dX6_run_43 : decode cX6_run 43 = .ok (.iload 4, 2) := by decide +kernel
theorem dX6_run_45 : decode cX6_run 45 = .ok (.iaload, 1) := by decide +kernel
theorem dX6_run_46 : decode cX6_run 46 = .ok (.if_icmp .ge 28, 3) := by decide +kernel
theorem dX6_run_49 : decode cX6_run 49 = .ok (.iload_n 2, 1) := by decide +kernel
theorem dX6_run_50 : decode cX6_run 50 = .ok (.aload_n 0, 1) := by decide +kernel
theorem dX6_run_51 : decode cX6_run 51 = .ok (.iload 4, 2) := by decide +kernel
theorem dX6_run_53 : decode cX6_run 53 = .ok (.iload 5, 2) := by decide +kernel
theorem dX6_run_55 : decode cX6_run 55 = .ok (.invokevirtual 163, 3) := by decide +kernel
theorem dX6_run_58 : decode cX6_run 58 = .ok (.ifCond .eq 7, 3) := by decide +kernel
theorem dX6_run_61 : decode cX6_run 61 = .ok (.iconst 1, 1) := by decide +kernel
theorem dX6_run_62 : decode cX6_run 62 = .ok (.goto 4, 3) := by decide +kernel
theorem dX6_run_65 : decode cX6_run 65 = .ok (.iconst 0, 1) := by decide +kernel
theorem dX6_run_66 : decode cX6_run 66 = .ok (.iadd, 1) := by decide +kernel
theorem dX6_run_67 : decode cX6_run 67 = .ok (.istore_n 2, 1) := by decide +kernel
theorem dX6_run_68 : decode cX6_run 68 = .ok (.iinc 5 1, 3) := by decide +kernel
theorem dX6_run_71 : decode cX6_run 71 = .ok (.goto (-34), 3) := by decide +kernel
theorem dX6_run_74 : decode cX6_run 74 = .ok (.iinc 4 1, 3) := by decide +kernel
theorem dX6_run_77 : decode cX6_run 77 = .ok (.goto (-52), 3) := by decide +kernel
theorem dX6_run_80 : decode cX6_run 80 = .ok (.iinc 3 1, 3) := by decide +kernel
theorem dX6_run_83 : decode cX6_run 83 = .ok (.goto (-66), 3) := by decide +kernel
theorem dX6_run_86 : decode cX6_run 86 = .ok (.iload_n 2, 1) := by decide +kernel
theorem dX6_run_87 : decode cX6_run 87 = .ok (.ireturn, 1) := by decide +kernel
theorem dX6_restore_0 : decode cX6_restore 0 = .ok (.iload_n 1, 1) := by decide +kernel
theorem dX6_restore_1 : decode cX6_restore 1 = .ok (.iconst 0, 1) := by decide +kernel
theorem dX6_restore_2 : decode cX6_restore 2 = .ok (.aload_n 0, 1) := by decide +kernel
theorem dX6_restore_3 : decode cX6_restore 3 = .ok (.getfield 105, 3) := by decide +kernel
theorem dX6_restore_6 : decode cX6_restore 6 = .ok (.iconst 1, 1) := by decide +kernel
theorem dX6_restore_7 : decode cX6_restore 7 = .ok (.isub, 1) := by decide +kernel
theorem dX6_restore_8 : decode cX6_restore 8 = .ok (.invokestatic 94, 3) := by decide +kernel
theorem dX6_restore_11 : decode cX6_restore 11 = .ok (.ifCond .ne 6, 3) := by decide +kernel
theorem dX6_restore_14 : decode cX6_restore 14 = .ok (.bipush (-101), 2) := by decide +kernel
theorem dX6_restore_16 : decode cX6_restore 16 = .ok (.ireturn, 1) := by decide +kernel
theorem dX6_restore_17 : decode cX6_restore 17 = .ok (.iload_n 2, 1) := by decide +kernel
theorem dX6_restore_18 : decode cX6_restore 18 = .ok (.iconst 1, 1) := by decide +kernel
theorem dX6_restore_19 : decode cX6_restore 19 = .ok (.iconst 4, 1) := by decide +kernel
theorem dX6_restore_20 : decode cX6_restore 20 = .ok (.invokestatic 94, 3) := by decide +kernel
theorem dX6_restore_23 : decode cX6_restore 23 = .ok (.ifCond .eq 52, 3) := by decide +kernel
theorem dX6_restore_26 : decode cX6_restore 26 = .ok (.iload_n 3, 1) := by decide +kernel
theorem dX6_restore_27 : decode cX6_restore 27 = .ok (.iconst 1, 1) := by decide +kernel
theorem dX6_restore_28 : decode cX6_restore 28 = .ok (.iconst 4, 1) := by decide +kernel
theorem dX6_restore_29 : decode cX6_restore 29 = .ok (.invokestatic 94, 3) := by decide +kernel
theorem dX6_restore_32 : decode cX6_restore 32 = .ok (.ifCond .eq 43, 3) := by decide +kernel
theorem dX6_restore_35 : decode cX6_restore 35 = .ok (.aload_n 0, 1) := by decide +kernel
theorem dX6_restore_36 : decode cX6_restore 36 = .ok (.getfield 91, 3) := by decide +kernel
theorem dX6_restore_39 : decode cX6_restore 39 = .ok (.iconst 3, 1) := by decide +kernel
theorem dX6_restore_40 : decode cX6_restore 40 = .ok (.if_icmp .lt 13, 3) := by decide +kernel
theorem dX6_restore_43 : decode cX6_restore 43 = .ok (.iload 4, 2) := by decide +kernel
theorem dX6_restore_45 : decode cX6_restore 45 = .ok (.iconst 1, 1) := by decide +kernel
theorem dX6_restore_46 : decode cX6_restore 46 = .ok (.iconst 4, 1) := by decide +kernel
theorem dX6_restore_47 : decode cX6_restore 47 = .ok (.invokestatic 94, 3) := by decide +kernel
theorem dX6_restore_50 : decode cX6_restore 50 = .ok (.ifCond .eq 25, 3) := by decide +kernel
theorem dX6_restore_53 : decode cX6_restore 53 = .ok (.aload_n 0, 1) := by decide +kernel
theorem dX6_restore_54 : decode cX6_restore 54 = .ok (.getfield 91, 3) := by decide +kernel
theorem dX6_restore_57 : decode cX6_restore 57 = .ok (.iconst 4, 1) := by decide +kernel
theorem dX6_restore_58 : decode cX6_restore 58 = .ok (.if_icmp .lt 13, 3) := by decide +kernel
theorem dX6_restore_61 : decode cX6_restore 61 = .ok (.iload 5, 2) := by decide +kernel
theorem dX6_restore_63 : decode cX6_restore 63 = .ok (.iconst 1, 1) := by decide +kernel
theorem dX6_restore_64 : decode cX6_restore 64 = .ok (.iconst 4, 1) := by decide +kernel
theorem dX6_restore_65 : decode cX6_restore 65 = .ok (.invokestatic 94, 3) := by decide +kernel
theorem dX6_restore_68 : decode cX6_restore 68 = .ok (.ifCond .eq 7, 3) := by decide +kernel
theorem dX6_restore_71 : decode cX6_restore 71 = .ok (.iconst 1, 1) := by decide +kernel
theorem dX6_restore_72 : decode cX6_restore 72 = .ok (.goto 4, 3) := by decide +kernel
theorem dX6_restore_75 : decode cX6_restore 75 = .ok (.iconst 0, 1) := by decide +kernel
theorem dX6_restore_76 : decode cX6_restore 76 = .ok (.istore 6, 2) := by decide +kernel
theorem dX6_restore_78 : decode cX6_restore 78 = .ok (.iload 6, 2) := by decide +kernel
theorem dX6_restore_80 : decode cX6_restore 80 = .ok (.ifCond .ne 6, 3) := by decide +kernel
theorem dX6_restore_83 : decode cX6_restore 83 = .ok (.bipush (-102), 2) := by decide +kernel
theorem dX6_restore_85 : decode cX6_restore 85 = .ok (.ireturn, 1) := by decide +kernel
theorem dX6_restore_86 : decode cX6_restore 86 = .ok (.aload_n 0, 1) := by decide +kernel
theorem dX6_restore_87 : decode cX6_restore 87 = .ok (.getfield 61, 3) := by decide +kernel
theorem dX6_restore_90 : decode cX6_restore 90 = .ok (.iload_n 1, 1) := by decide +kernel
theorem dX6_restore_91 : decode cX6_restore 91 = .ok (.iaload, 1) := by decide +kernel
theorem dX6_restore_92 : decode cX6_restore 92 = .ok (.iconst 1, 1) := by decide +kernel
theorem dX6_restore_93 : decode cX6_restore 93 = .ok (.if_icmp .eq 6, 3) := by decide +kernel
theorem dX6_restore_96 : decode cX6_restore 96 = .ok (.bipush (-103), 2) := by decide +kernel
theorem dX6_restore_98 : decode cX6_restore 98 = .ok (.ireturn, 1) := by decide +kernel
theorem dX6_restore_99 : decode cX6_restore 99 = .ok (.aload_n 0, 1) := by decide +kernel
theorem dX6_restore_100 : decode cX6_restore 100 = .ok (.getfield 58, 3) := by decide +kernel
theorem dX6_restore_103 : decode cX6_restore 103 = .ok (.iconst (-1), 1) := by decide +kernel
theorem dX6_restore_104 : decode cX6_restore 104 = .ok (.if_icmp .eq 8, 3) := by decide +kernel
theorem dX6_restore_107 : decode cX6_restore 107 = .ok (.aload_n 0, 1) := by decide +kernel
theorem dX6_restore_108 : decode cX6_restore 108 = .ok (.iconst 2, 1) := by decide +kernel
theorem dX6_restore_109 : decode cX6_restore 109 = .ok (.invokevirtual 114, 3) := by decide +kernel
theorem dX6_restore_112 : decode cX6_restore 112 = .ok (.iconst 0, 1) := by decide +kernel
theorem dX6_restore_113 : decode cX6_restore 113 = .ok (.istore 7, 2) := by decide +kernel
theorem dX6_restore_115 : decode cX6_restore 115 = .ok (.iload 7, 2) := by decide +kernel
theorem dX6_restore_117 : decode cX6_restore 117 = .ok (.aload_n 0, 1) := by decide +kernel
theorem dX6_restore_118 : decode cX6_restore 118 = .ok (.getfield 91, 3) := by decide +kernel
theorem dX6_restore_121 : decode cX6_restore 121 = .ok (.if_icmp .ge 48, 3) := by decide +kernel
theorem dX6_restore_124 : decode cX6_restore 124 = .ok (.aload_n 0, 1) := by decide +kernel
theorem dX6_restore_125 : decode cX6_restore 125 = .ok (.getfield 7, 3) := by decide +kernel
theorem dX6_restore_128 : decode cX6_restore 128 = .ok (.iload 7, 2) := by decide +kernel
theorem dX6_restore_130 : decode cX6_restore 130 = .ok (.iload 7, 2) := by decide +kernel
theorem dX6_restore_132 : decode cX6_restore 132 = .ok (.ifCond .ne 7, 3) := by decide +kernel
theorem dX6_restore_135 : decode cX6_restore 135 = .ok (.iload_n 2, 1) := by decide +kernel
theorem dX6_restore_136 : decode cX6_restore 136 = .ok (.goto 26, 3) := by decide +kernel
theorem dX6_restore_139 : decode cX6_restore 139 = .ok (.iload 7, 2) := by decide +kernel
theorem dX6_restore_141 : decode cX6_restore 141 = .ok (.iconst 1, 1) := by decide +kernel
theorem dX6_restore_142 : decode cX6_restore 142 = .ok (.if_icmp .ne 7, 3) := by decide +kernel
theorem dX6_restore_145 : decode cX6_restore 145 = .ok (.iload_n 3, 1) := by decide +kernel
theorem dX6_restore_146 : decode cX6_restore 146 = .ok (.goto 16, 3) := by decide +kernel
theorem dX6_restore_149 : decode cX6_restore 149 = .ok (.iload 7, 2) := by decide +kernel
theorem dX6_restore_151 : decode cX6_restore 151 = .ok (.iconst 2, 1) := by decide +kernel
theorem dX6_restore_152 : decode cX6_restore 152 = .ok (.if_icmp .ne 8, 3) := by decide +kernel
theorem dX6_restore_155 : decode cX6_restore 155 = .ok (.iload 4, 2) := by decide +kernel
theorem dX6_restore_157 : decode cX6_restore 157 = .ok (.goto 5, 3) := by decide +kernel
theorem dX6_restore_160 : decode cX6_restore 160 = .ok (.iload 5, 2) := by decide +kernel
theorem dX6_restore_162 : decode cX6_restore 162 = .ok (.iastore, 1) := by decide +kernel
theorem dX6_restore_163 : decode cX6_restore 163 = .ok (.iinc 7 1, 3) := by decide +kernel
theorem dX6_restore_166 : decode cX6_restore 166 = .ok (.goto (-51), 3) := by decide +kernel
theorem dX6_restore_169 : decode cX6_restore 169 = .ok (.iconst 0, 1) := by decide +kernel
theorem dX6_restore_170 : decode cX6_restore 170 = .ok (.istore 7, 2) := by decide +kernel
theorem dX6_restore_172 : decode cX6_restore 172 = .ok (.iload 7, 2) := by decide +kernel
theorem dX6_restore_174 : decode cX6_restore 174 = .ok (.bipush 64, 2) := by decide +kernel
theorem dX6_restore_176 : decode cX6_restore 176 = .ok (.if_icmp .ge 47, 3) := by decide +kernel
theorem dX6_restore_179 : decode cX6_restore 179 = .ok (.aload_n 0, 1) := by decide +kernel
theorem dX6_restore_180 : decode cX6_restore 180 = .ok (.getfield 27, 3) := by decide +kernel
theorem dX6_restore_183 : decode cX6_restore 183 = .ok (.iload 7, 2) := by decide +kernel
theorem dX6_restore_185 : decode cX6_restore 185 = .ok (.aload_n 0, 1) := by decide +kernel
theorem dX6_restore_186 : decode cX6_restore 186 = .ok (.getfield 73, 3) := by decide +kernel
theorem dX6_restore_189 : decode cX6_restore 189 = .ok (.bipush 64, 2) := by decide +kernel
theorem dX6_restore_191 : decode cX6_restore 191 = .ok (.iload_n 1, 1) := by decide +kernel
theorem dX6_restore_192 : decode cX6_restore 192 = .ok (.imul, 1) := by decide +kernel
theorem dX6_restore_193 : decode cX6_restore 193 = .ok (.iload 7, 2) := by decide +kernel
theorem dX6_restore_195 : decode cX6_restore 195 = .ok (.iadd, 1) := by decide +kernel
theorem dX6_restore_196 : decode cX6_restore 196 = .ok (.iaload, 1) := by decide +kernel
theorem dX6_restore_197 : decode cX6_restore 197 = .ok (.iastore, 1) := by decide +kernel
theorem dX6_restore_198 : decode cX6_restore 198 = .ok (.aload_n 0, 1) := by decide +kernel
theorem dX6_restore_199 : decode cX6_restore 199 = .ok (.getfield 30, 3) := by decide +kernel
theorem dX6_restore_202 : decode cX6_restore 202 = .ok (.iload 7, 2) := by decide +kernel
theorem dX6_restore_204 : decode cX6_restore 204 = .ok (.aload_n 0, 1) := by decide +kernel
theorem dX6_restore_205 : decode cX6_restore 205 = .ok (.getfield 76, 3) := by decide +kernel
theorem dX6_restore_208 : decode cX6_restore 208 = .ok (.bipush 64, 2) := by decide +kernel
theorem dX6_restore_210 : decode cX6_restore 210 = .ok (.iload_n 1, 1) := by decide +kernel
theorem dX6_restore_211 : decode cX6_restore 211 = .ok (.imul, 1) := by decide +kernel
theorem dX6_restore_212 : decode cX6_restore 212 = .ok (.iload 7, 2) := by decide +kernel
theorem dX6_restore_214 : decode cX6_restore 214 = .ok (.iadd, 1) := by decide +kernel
theorem dX6_restore_215 : decode cX6_restore 215 = .ok (.laload, 1) := by decide +kernel
theorem dX6_restore_216 : decode cX6_restore 216 = .ok (.lastore, 1) := by decide +kernel
theorem dX6_restore_217 : decode cX6_restore 217 = .ok (.iinc 7 1, 3) := by decide +kernel
theorem dX6_restore_220 : decode cX6_restore 220 = .ok (.goto (-48), 3) := by decide +kernel
theorem dX6_restore_223 : decode cX6_restore 223 = .ok (.iconst 0, 1) := by decide +kernel
theorem dX6_restore_224 : decode cX6_restore 224 = .ok (.istore 7, 2) := by decide +kernel
theorem dX6_restore_226 : decode cX6_restore 226 = .ok (.iload 7, 2) := by decide +kernel
theorem dX6_restore_228 : decode cX6_restore 228 = .ok (.bipush 16, 2) := by decide +kernel
theorem dX6_restore_230 : decode cX6_restore 230 = .ok (.if_icmp .ge 17, 3) := by decide +kernel
theorem dX6_restore_233 : decode cX6_restore 233 = .ok (.aload_n 0, 1) := by decide +kernel
theorem dX6_restore_234 : decode cX6_restore 234 = .ok (.getfield 55, 3) := by decide +kernel
theorem dX6_restore_237 : decode cX6_restore 237 = .ok (.iload 7, 2) := by decide +kernel
theorem dX6_restore_239 : decode cX6_restore 239 = .ok (.iconst 0, 1) := by decide +kernel
theorem dX6_restore_240 : decode cX6_restore 240 = .ok (.iastore, 1) := by decide +kernel
theorem dX6_restore_241 : decode cX6_restore 241 = .ok (.iinc 7 1, 3) := by decide +kernel
theorem dX6_restore_244 : decode cX6_restore 244 = .ok (.goto (-18), 3) := by decide +kernel
theorem dX6_restore_247 : decode cX6_restore 247 = .ok (.iconst 0, 1) := by decide +kernel
theorem dX6_restore_248 : decode cX6_restore 248 = .ok (.istore 7, 2) := by decide +kernel
theorem dX6_restore_250 : decode cX6_restore 250 = .ok (.iload 7, 2) := by decide +kernel
theorem dX6_restore_252 : decode cX6_restore 252 = .ok (.bipush 48, 2) := by decide +kernel
theorem dX6_restore_254 : decode cX6_restore 254 = .ok (.if_icmp .ge 17, 3) := by decide +kernel
theorem dX6_restore_257 : decode cX6_restore 257 = .ok (.aload_n 0, 1) := by decide +kernel
theorem dX6_restore_258 : decode cX6_restore 258 = .ok (.getfield 36, 3) := by decide +kernel
theorem dX6_restore_261 : decode cX6_restore 261 = .ok (.iload 7, 2) := by decide +kernel
theorem dX6_restore_263 : decode cX6_restore 263 = .ok (.iconst 0, 1) := by decide +kernel
theorem dX6_restore_264 : decode cX6_restore 264 = .ok (.iastore, 1) := by decide +kernel
theorem dX6_restore_265 : decode cX6_restore 265 = .ok (.iinc 7 1, 3) := by decide +kernel
theorem dX6_restore_268 : decode cX6_restore 268 = .ok (.goto (-18), 3) := by decide +kernel
theorem dX6_restore_271 : decode cX6_restore 271 = .ok (.iconst 0, 1) := by decide +kernel
theorem dX6_restore_272 : decode cX6_restore 272 = .ok (.istore 7, 2) := by decide +kernel
theorem dX6_restore_274 : decode cX6_restore 274 = .ok (.iload 7, 2) := by decide +kernel
theorem dX6_restore_276 : decode cX6_restore 276 = .ok (.bipush 48, 2) := by decide +kernel
theorem dX6_restore_278 : decode cX6_restore 278 = .ok (.if_icmp .ge 114, 3) := by decide +kernel
theorem dX6_restore_281 : decode cX6_restore 281 = .ok (.iconst 0, 1) := by decide +kernel
theorem dX6_restore_282 : decode cX6_restore 282 = .ok (.istore 8, 2) := by decide +kernel
theorem dX6_restore_284 : decode cX6_restore 284 = .ok (.iload 8, 2) := by decide +kernel
theorem dX6_restore_286 : decode cX6_restore 286 = .ok (.aload_n 0, 1) := by decide +kernel
theorem dX6_restore_287 : decode cX6_restore 287 = .ok (.getfield 79, 3) := by decide +kernel
theorem dX6_restore_290 : decode cX6_restore 290 = .ok (.iload_n 1, 1) := by decide +kernel
theorem dX6_restore_291 : decode cX6_restore 291 = .ok (.iaload, 1) := by decide +kernel
theorem dX6_restore_292 : decode cX6_restore 292 = .ok (.if_icmp .ge 94, 3) := by decide +kernel
theorem dX6_restore_295 : decode cX6_restore 295 = .ok (.aload_n 0, 1) := by decide +kernel
theorem dX6_restore_296 : decode cX6_restore 296 = .ok (.getfield 82, 3) := by decide +kernel
theorem dX6_restore_299 : decode cX6_restore 299 = .ok (.sipush 200, 3) := by decide +kernel
theorem dX6_restore_302 : decode cX6_restore 302 = .ok (.iload_n 1, 1) := by decide +kernel
theorem dX6_restore_303 : decode cX6_restore 303 = .ok (.imul, 1) := by decide +kernel
theorem dX6_restore_304 : decode cX6_restore 304 = .ok (.iload 8, 2) := by decide +kernel
theorem dX6_restore_306 : decode cX6_restore 306 = .ok (.iadd, 1) := by decide +kernel
theorem dX6_restore_307 : decode cX6_restore 307 = .ok (.iaload, 1) := by decide +kernel
theorem dX6_restore_308 : decode cX6_restore 308 = .ok (.iload 7, 2) := by decide +kernel
theorem dX6_restore_310 : decode cX6_restore 310 = .ok (.if_icmp .ne 70, 3) := by decide +kernel
theorem dX6_restore_313 : decode cX6_restore 313 = .ok (.aload_n 0, 1) := by decide +kernel
theorem dX6_restore_314 : decode cX6_restore 314 = .ok (.getfield 85, 3) := by decide +kernel
theorem dX6_restore_317 : decode cX6_restore 317 = .ok (.sipush 200, 3) := by decide +kernel
theorem dX6_restore_320 : decode cX6_restore 320 = .ok (.iload_n 1, 1) := by decide +kernel
theorem dX6_restore_321 : decode cX6_restore 321 = .ok (.imul, 1) := by decide +kernel
theorem dX6_restore_322 : decode cX6_restore 322 = .ok (.iload 8, 2) := by decide +kernel
theorem dX6_restore_324 : decode cX6_restore 324 = .ok (.iadd, 1) := by decide +kernel
theorem dX6_restore_325 : decode cX6_restore 325 = .ok (.iaload, 1) := by decide +kernel
theorem dX6_restore_326 : decode cX6_restore 326 = .ok (.istore 9, 2) := by decide +kernel
theorem dX6_restore_328 : decode cX6_restore 328 = .ok (.aload_n 0, 1) := by decide +kernel
theorem dX6_restore_329 : decode cX6_restore 329 = .ok (.iload 7, 2) := by decide +kernel
theorem dX6_restore_331 : decode cX6_restore 331 = .ok (.bipush 16, 2) := by decide +kernel
theorem dX6_restore_333 : decode cX6_restore 333 = .ok (.idiv, 1) := by decide +kernel
theorem dX6_restore_334 : decode cX6_restore 334 = .ok (.aload_n 0, 1) := by decide +kernel
theorem dX6_restore_335 : decode cX6_restore 335 = .ok (.getfield 20, 3) := by decide +kernel
theorem dX6_restore_338 : decode cX6_restore 338 = .ok (.iload 9, 2) := by decide +kernel
theorem dX6_restore_340 : decode cX6_restore 340 = .ok (.iaload, 1) := by decide +kernel
theorem dX6_restore_341 : decode cX6_restore 341 = .ok (.aload_n 0, 1) := by decide +kernel
theorem dX6_restore_342 : decode cX6_restore 342 = .ok (.getfield 7, 3) := by decide +kernel
theorem dX6_restore_345 : decode cX6_restore 345 = .ok (.iload 7, 2) := by decide +kernel
theorem dX6_restore_347 : decode cX6_restore 347 = .ok (.bipush 16, 2) := by decide +kernel
theorem dX6_restore_349 : decode cX6_restore 349 = .ok (.idiv, 1) := by decide +kernel
theorem dX6_restore_350 : decode cX6_restore 350 = .ok (.iaload, 1) := by decide +kernel
theorem dX6_restore_351 : decode cX6_restore 351 = .ok (.irem, 1) := by decide +kernel
theorem dX6_restore_352 : decode cX6_restore 352 = .ok (.aload_n 0, 1) := by decide +kernel
theorem dX6_restore_353 : decode cX6_restore 353 = .ok (.getfield 20, 3) := by decide +kernel
theorem dX6_restore_356 : decode cX6_restore 356 = .ok (.iload 9, 2) := by decide +kernel
theorem dX6_restore_358 : decode cX6_restore 358 = .ok (.iaload, 1) := by decide +kernel
theorem dX6_restore_359 : decode cX6_restore 359 = .ok (.aload_n 0, 1) := by decide +kernel
theorem dX6_restore_360 : decode cX6_restore 360 = .ok (.getfield 7, 3) := by decide +kernel
theorem dX6_restore_363 : decode cX6_restore 363 = .ok (.iload 7, 2) := by decide +kernel
theorem dX6_restore_365 : decode cX6_restore 365 = .ok (.bipush 16, 2) := by decide +kernel
theorem dX6_restore_367 : decode cX6_restore 367 = .ok (.idiv, 1) := by decide +kernel
theorem dX6_restore_368 : decode cX6_restore 368 = .ok (.iconst 1, 1) := by decide +kernel
theorem dX6_restore_369 : decode cX6_restore 369 = .ok (.iadd, 1) := by decide +kernel
theorem dX6_restore_370 : decode cX6_restore 370 = .ok (.iaload, 1) := by decide +kernel
theorem dX6_restore_371 : decode cX6_restore 371 = .ok (.irem, 1) := by decide +kernel
theorem dX6_restore_372 : decode cX6_restore 372 = .ok (.invokestatic 118, 3) := by decide +kernel
theorem dX6_restore_375 : decode cX6_restore 375 = .ok (.iload 9, 2) := by decide +kernel
theorem dX6_restore_377 : decode cX6_restore 377 = .ok (.invokevirtual 143, 3) := by decide +kernel
theorem dX6_restore_380 : decode cX6_restore 380 = .ok (.iinc 8 1, 3) := by decide +kernel
theorem dX6_restore_383 : decode cX6_restore 383 = .ok (.goto (-99), 3) := by decide +kernel
theorem dX6_restore_386 : decode cX6_restore 386 = .ok (.iinc 7 1, 3) := by decide +kernel
theorem dX6_restore_389 : decode cX6_restore 389 = .ok (.goto (-115), 3) := by decide +kernel
theorem dX6_restore_392 : decode cX6_restore 392 = .ok (.aload_n 0, 1) := by decide +kernel
theorem dX6_restore_393 : decode cX6_restore 393 = .ok (.getfield 79, 3) := by decide +kernel
theorem dX6_restore_396 : decode cX6_restore 396 = .ok (.iload_n 1, 1) := by decide +kernel
theorem dX6_restore_397 : decode cX6_restore 397 = .ok (.iaload, 1) := by decide +kernel
theorem dX6_restore_398 : decode cX6_restore 398 = .ok (.ireturn, 1) := by decide +kernel
theorem dX6_readMany_0 : decode cX6_readMany 0 = .ok (.iconst 0, 1) := by decide +kernel
theorem dX6_readMany_1 : decode cX6_readMany 1 = .ok (.istore_n 1, 1) := by decide +kernel
theorem dX6_readMany_2 : decode cX6_readMany 2 = .ok (.iconst 0, 1) := by decide +kernel
theorem dX6_readMany_3 : decode cX6_readMany 3 = .ok (.istore_n 2, 1) := by decide +kernel
theorem dX6_readMany_4 : decode cX6_readMany 4 = .ok (.iload_n 2, 1) := by decide +kernel
theorem dX6_readMany_5 : decode cX6_readMany 5 = .ok (.aload_n 0, 1) := by decide +kernel
theorem dX6_readMany_6 : decode cX6_readMany 6 = .ok (.getfield 111, 3) := by decide +kernel
theorem dX6_readMany_9 : decode cX6_readMany 9 = .ok (.if_icmp .ge 25, 3) := by decide +kernel
theorem dX6_readMany_12 : decode cX6_readMany 12 = .ok (.iload_n 1, 1) := by decide +kernel
theorem dX6_readMany_13 : decode cX6_readMany 13 = .ok (.aload_n 0, 1) := by decide +kernel
theorem dX6_readMany_14 : decode cX6_readMany 14 = .ok (.iload_n 2, 1) := by decide +kernel
theorem dX6_readMany_15 : decode cX6_readMany 15 = .ok (.invokevirtual 137, 3) := by decide +kernel
theorem dX6_readMany_18 : decode cX6_readMany 18 = .ok (.ifCond .eq 7, 3) := by decide +kernel
theorem dX6_readMany_21 : decode cX6_readMany 21 = .ok (.iconst 1, 1) := by decide +kernel
theorem dX6_readMany_22 : decode cX6_readMany 22 = .ok (.goto 4, 3) := by decide +kernel
theorem dX6_readMany_25 : decode cX6_readMany 25 = .ok (.iconst 0, 1) := by decide +kernel
theorem dX6_readMany_26 : decode cX6_readMany 26 = .ok (.iadd, 1) := by decide +kernel
theorem dX6_readMany_27 : decode cX6_readMany 27 = .ok (.istore_n 1, 1) := by decide +kernel
theorem dX6_readMany_28 : decode cX6_readMany 28 = .ok (.iinc 2 1, 3) := by decide +kernel
theorem dX6_readMany_31 : decode cX6_readMany 31 = .ok (.goto (-27), 3) := by decide +kernel
theorem dX6_readMany_34 : decode cX6_readMany 34 = .ok (.iload_n 1, 1) := by decide +kernel
theorem dX6_readMany_35 : decode cX6_readMany 35 = .ok (.ireturn, 1) := by decide +kernel
theorem dX6_heldAll_0 : decode cX6_heldAll 0 = .ok (.iconst 0, 1) := by decide +kernel
theorem dX6_heldAll_1 : decode cX6_heldAll 1 = .ok (.istore_n 1, 1) := by decide +kernel
theorem dX6_heldAll_2 : decode cX6_heldAll 2 = .ok (.iconst 0, 1) := by decide +kernel
theorem dX6_heldAll_3 : decode cX6_heldAll 3 = .ok (.istore_n 2, 1) := by decide +kernel
theorem dX6_heldAll_4 : decode cX6_heldAll 4 = .ok (.iload_n 2, 1) := by decide +kernel
theorem dX6_heldAll_5 : decode cX6_heldAll 5 = .ok (.bipush 48, 2) := by decide +kernel
theorem dX6_heldAll_7 : decode cX6_heldAll 7 = .ok (.if_icmp .ge 18, 3) := by decide +kernel
theorem dX6_heldAll_10 : decode cX6_heldAll 10 = .ok (.iload_n 1, 1) := by decide +kernel
theorem dX6_heldAll_11 : decode cX6_heldAll 11 = .ok (.aload_n 0, 1) := by decide +kernel
theorem dX6_heldAll_12 : decode cX6_heldAll 12 = .ok (.getfield 36, 3) := by decide +kernel
theorem dX6_heldAll_15 : decode cX6_heldAll 15 = .ok (.iload_n 2, 1) := by decide +kernel
theorem dX6_heldAll_16 : decode cX6_heldAll 16 = .ok (.iaload, 1) := by decide +kernel
theorem dX6_heldAll_17 : decode cX6_heldAll 17 = .ok (.iadd, 1) := by decide +kernel
theorem dX6_heldAll_18 : decode cX6_heldAll 18 = .ok (.istore_n 1, 1) := by decide +kernel
theorem dX6_heldAll_19 : decode cX6_heldAll 19 = .ok (.iinc 2 1, 3) := by decide +kernel
theorem dX6_heldAll_22 : decode cX6_heldAll 22 = .ok (.goto (-18), 3) := by decide +kernel
theorem dX6_heldAll_25 : decode cX6_heldAll 25 = .ok (.iload_n 1, 1) := by decide +kernel
theorem dX6_heldAll_26 : decode cX6_heldAll 26 = .ok (.ireturn, 1) := by decide +kernel
theorem dX6_about_0 : decode cX6_about 0 = .ok (.iload_n 1, 1) := by decide +kernel
theorem dX6_about_1 : decode cX6_about 1 = .ok (.tableswitch 105 0 9 #[55, 60, 65, 70, 75, 80, 85, 90, 95, 100], 55) := by decide +kernel
theorem dX6_about_56 : decode cX6_about 56 = .ok (.aload_n 0, 1) := by decide +kernel
theorem dX6_about_57 : decode cX6_about 57 = .ok (.getfield 91, 3) := by decide +kernel
theorem dX6_about_60 : decode cX6_about 60 = .ok (.ireturn, 1) := by decide +kernel
theorem dX6_about_61 : decode cX6_about 61 = .ok (.aload_n 0, 1) := by decide +kernel
theorem dX6_about_62 : decode cX6_about 62 = .ok (.getfield 111, 3) := by decide +kernel
theorem dX6_about_65 : decode cX6_about 65 = .ok (.ireturn, 1) := by decide +kernel
theorem dX6_about_66 : decode cX6_about 66 = .ok (.aload_n 0, 1) := by decide +kernel
theorem dX6_about_67 : decode cX6_about 67 = .ok (.invokevirtual 167, 3) := by decide +kernel
theorem dX6_about_70 : decode cX6_about 70 = .ok (.ireturn, 1) := by decide +kernel
theorem dX6_about_71 : decode cX6_about 71 = .ok (.aload_n 0, 1) := by decide +kernel
theorem dX6_about_72 : decode cX6_about 72 = .ok (.getfield 102, 3) := by decide +kernel
theorem dX6_about_75 : decode cX6_about 75 = .ok (.ireturn, 1) := by decide +kernel
theorem dX6_about_76 : decode cX6_about 76 = .ok (.aload_n 0, 1) := by decide +kernel
theorem dX6_about_77 : decode cX6_about 77 = .ok (.getfield 105, 3) := by decide +kernel
theorem dX6_about_80 : decode cX6_about 80 = .ok (.ireturn, 1) := by decide +kernel
theorem dX6_about_81 : decode cX6_about 81 = .ok (.aload_n 0, 1) := by decide +kernel
theorem dX6_about_82 : decode cX6_about 82 = .ok (.getfield 58, 3) := by decide +kernel
theorem dX6_about_85 : decode cX6_about 85 = .ok (.ireturn, 1) := by decide +kernel
theorem dX6_about_86 : decode cX6_about 86 = .ok (.aload_n 0, 1) := by decide +kernel
theorem dX6_about_87 : decode cX6_about 87 = .ok (.invokevirtual 171, 3) := by decide +kernel
theorem dX6_about_90 : decode cX6_about 90 = .ok (.ireturn, 1) := by decide +kernel
theorem dX6_about_91 : decode cX6_about 91 = .ok (.aload_n 0, 1) := by decide +kernel
theorem dX6_about_92 : decode cX6_about 92 = .ok (.getfield 13, 3) := by decide +kernel
theorem dX6_about_95 : decode cX6_about 95 = .ok (.ireturn, 1) := by decide +kernel
theorem dX6_about_96 : decode cX6_about 96 = .ok (.aload_n 0, 1) := by decide +kernel
theorem dX6_about_97 : decode cX6_about 97 = .ok (.getfield 108, 3) := by decide +kernel
theorem dX6_about_100 : decode cX6_about 100 = .ok (.ireturn, 1) := by decide +kernel
theorem dX6_about_101 : decode cX6_about 101 = .ok (.aload_n 0, 1) := by decide +kernel
theorem dX6_about_102 : decode cX6_about 102 = .ok (.getfield 17, 3) := by decide +kernel
theorem dX6_about_105 : decode cX6_about 105 = .ok (.ireturn, 1) := by decide +kernel
theorem dX6_about_106 : decode cX6_about 106 = .ok (.iload_n 1, 1) := by decide +kernel
theorem dX6_about_107 : decode cX6_about 107 = .ok (.bipush 10, 2) := by decide +kernel
theorem dX6_about_109 : decode cX6_about 109 = .ok (.if_icmp .lt 26, 3) := by decide +kernel
theorem dX6_about_112 : decode cX6_about 112 = .ok (.aload_n 0, 1) := by decide +kernel
theorem dX6_about_113 : decode cX6_about 113 = .ok (.iload_n 1, 1) := by decide +kernel
theorem dX6_about_114 : decode cX6_about 114 = .ok (.bipush 10, 2) := by decide +kernel
theorem dX6_about_116 : decode cX6_about 116 = .ok (.isub, 1) := by decide +kernel
theorem dX6_about_117 : decode cX6_about 117 = .ok (.invokevirtual 98, 3) := by decide +kernel
theorem dX6_about_120 : decode cX6_about 120 = .ok (.ifCond .eq 15, 3) := by decide +kernel
theorem dX6_about_123 : decode cX6_about 123 = .ok (.aload_n 0, 1) := by decide +kernel
theorem dX6_about_124 : decode cX6_about 124 = .ok (.getfield 7, 3) := by decide +kernel
theorem dX6_about_127 : decode cX6_about 127 = .ok (.iload_n 1, 1) := by decide +kernel
theorem dX6_about_128 : decode cX6_about 128 = .ok (.bipush 10, 2) := by decide +kernel
theorem dX6_about_130 : decode cX6_about 130 = .ok (.isub, 1) := by decide +kernel
theorem dX6_about_131 : decode cX6_about 131 = .ok (.iaload, 1) := by decide +kernel
theorem dX6_about_132 : decode cX6_about 132 = .ok (.goto 5, 3) := by decide +kernel
theorem dX6_about_135 : decode cX6_about 135 = .ok (.bipush (-102), 2) := by decide +kernel
theorem dX6_about_137 : decode cX6_about 137 = .ok (.ireturn, 1) := by decide +kernel
theorem dX6_many_0 : decode cX6_many 0 = .ok (.aload_n 0, 1) := by decide +kernel
theorem dX6_many_1 : decode cX6_many 1 = .ok (.iload_n 1, 1) := by decide +kernel
theorem dX6_many_2 : decode cX6_many 2 = .ok (.invokevirtual 98, 3) := by decide +kernel
theorem dX6_many_5 : decode cX6_many 5 = .ok (.ifCond .ne 8, 3) := by decide +kernel
theorem dX6_many_8 : decode cX6_many 8 = .ok (.bipush (-101), 2) := by decide +kernel
theorem dX6_many_10 : decode cX6_many 10 = .ok (.goto 29, 3) := by decide +kernel
theorem dX6_many_13 : decode cX6_many 13 = .ok (.iload_n 2, 1) := by decide +kernel
theorem dX6_many_14 : decode cX6_many 14 = .ok (.iconst 0, 1) := by decide +kernel
theorem dX6_many_15 : decode cX6_many 15 = .ok (.bipush 15, 2) := by decide +kernel
theorem dX6_many_17 : decode cX6_many 17 = .ok (.invokestatic 94, 3) := by decide +kernel
theorem dX6_many_20 : decode cX6_many 20 = .ok (.ifCond .eq 17, 3) := by decide +kernel
theorem dX6_many_23 : decode cX6_many 23 = .ok (.aload_n 0, 1) := by decide +kernel
theorem dX6_many_24 : decode cX6_many 24 = .ok (.getfield 27, 3) := by decide +kernel
theorem dX6_many_27 : decode cX6_many 27 = .ok (.bipush 16, 2) := by decide +kernel
theorem dX6_many_29 : decode cX6_many 29 = .ok (.iload_n 1, 1) := by decide +kernel
theorem dX6_many_30 : decode cX6_many 30 = .ok (.imul, 1) := by decide +kernel
theorem dX6_many_31 : decode cX6_many 31 = .ok (.iload_n 2, 1) := by decide +kernel
theorem dX6_many_32 : decode cX6_many 32 = .ok (.iadd, 1) := by decide +kernel
theorem dX6_many_33 : decode cX6_many 33 = .ok (.iaload, 1) := by decide +kernel
theorem dX6_many_34 : decode cX6_many 34 = .ok (.goto 5, 3) := by decide +kernel
theorem dX6_many_37 : decode cX6_many 37 = .ok (.bipush (-102), 2) := by decide +kernel
theorem dX6_many_39 : decode cX6_many 39 = .ok (.ireturn, 1) := by decide +kernel
theorem dX6_sum_0 : decode cX6_sum 0 = .ok (.aload_n 0, 1) := by decide +kernel
theorem dX6_sum_1 : decode cX6_sum 1 = .ok (.iload_n 1, 1) := by decide +kernel
theorem dX6_sum_2 : decode cX6_sum 2 = .ok (.invokevirtual 98, 3) := by decide +kernel
theorem dX6_sum_5 : decode cX6_sum 5 = .ok (.ifCond .eq 27, 3) := by decide +kernel
theorem dX6_sum_8 : decode cX6_sum 8 = .ok (.iload_n 2, 1) := by decide +kernel
theorem dX6_sum_9 : decode cX6_sum 9 = .ok (.iconst 0, 1) := by decide +kernel
theorem dX6_sum_10 : decode cX6_sum 10 = .ok (.bipush 15, 2) := by decide +kernel
theorem dX6_sum_12 : decode cX6_sum 12 = .ok (.invokestatic 94, 3) := by decide +kernel
theorem dX6_sum_15 : decode cX6_sum 15 = .ok (.ifCond .eq 17, 3) := by decide +kernel
theorem dX6_sum_18 : decode cX6_sum 18 = .ok (.aload_n 0, 1) := by decide +kernel
theorem dX6_sum_19 : decode cX6_sum 19 = .ok (.getfield 30, 3) := by decide +kernel
theorem dX6_sum_22 : decode cX6_sum 22 = .ok (.bipush 16, 2) := by decide +kernel
theorem dX6_sum_24 : decode cX6_sum 24 = .ok (.iload_n 1, 1) := by decide +kernel
theorem dX6_sum_25 : decode cX6_sum 25 = .ok (.imul, 1) := by decide +kernel
theorem dX6_sum_26 : decode cX6_sum 26 = .ok (.iload_n 2, 1) := by decide +kernel
theorem dX6_sum_27 : decode cX6_sum 27 = .ok (.iadd, 1) := by decide +kernel
theorem dX6_sum_28 : decode cX6_sum 28 = .ok (.laload, 1) := by decide +kernel
theorem dX6_sum_29 : decode cX6_sum 29 = .ok (.goto 4, 3) := by decide +kernel
theorem dX6_sum_32 : decode cX6_sum 32 = .ok (.lconst 0, 1) := by decide +kernel
theorem dX6_sum_33 : decode cX6_sum 33 = .ok (.lreturn, 1) := by decide +kernel
theorem dX6_task_0 : decode cX6_task 0 = .ok (.aload_n 0, 1) := by decide +kernel
theorem dX6_task_1 : decode cX6_task 1 = .ok (.iload_n 1, 1) := by decide +kernel
theorem dX6_task_2 : decode cX6_task 2 = .ok (.iload_n 2, 1) := by decide +kernel
theorem dX6_task_3 : decode cX6_task 3 = .ok (.invokevirtual 149, 3) := by decide +kernel
theorem dX6_task_6 : decode cX6_task 6 = .ok (.ifCond .ne 6, 3) := by decide +kernel
theorem dX6_task_9 : decode cX6_task 9 = .ok (.bipush (-101), 2) := by decide +kernel
theorem dX6_task_11 : decode cX6_task 11 = .ok (.ireturn, 1) := by decide +kernel
theorem dX6_task_12 : decode cX6_task 12 = .ok (.iconst 0, 1) := by decide +kernel
theorem dX6_task_13 : decode cX6_task 13 = .ok (.istore 4, 2) := by decide +kernel
theorem dX6_task_15 : decode cX6_task 15 = .ok (.iconst 0, 1) := by decide +kernel
theorem dX6_task_16 : decode cX6_task 16 = .ok (.istore 5, 2) := by decide +kernel
theorem dX6_task_18 : decode cX6_task 18 = .ok (.iload_n 1, 1) := by decide +kernel
theorem dX6_task_19 : decode cX6_task 19 = .ok (.ifCond .le 49, 3) := by decide +kernel
theorem dX6_task_22 : decode cX6_task 22 = .ok (.iload 5, 2) := by decide +kernel
theorem dX6_task_24 : decode cX6_task 24 = .ok (.aload_n 0, 1) := by decide +kernel
theorem dX6_task_25 : decode cX6_task 25 = .ok (.getfield 7, 3) := by decide +kernel
theorem dX6_task_28 : decode cX6_task 28 = .ok (.iload_n 1, 1) := by decide +kernel
theorem dX6_task_29 : decode cX6_task 29 = .ok (.iconst 1, 1) := by decide +kernel
theorem dX6_task_30 : decode cX6_task 30 = .ok (.isub, 1) := by decide +kernel
theorem dX6_task_31 : decode cX6_task 31 = .ok (.iaload, 1) := by decide +kernel
theorem dX6_task_32 : decode cX6_task 32 = .ok (.if_icmp .ge 36, 3) := by decide +kernel
theorem dX6_task_35 : decode cX6_task 35 = .ok (.iload 4, 2) := by decide +kernel
theorem dX6_task_37 : decode cX6_task 37 = .ok (.aload_n 0, 1) := by decide +kernel
theorem dX6_task_38 : decode cX6_task 38 = .ok (.getfield 42, 3) := by decide +kernel
theorem dX6_task_41 : decode cX6_task 41 = .ok (.iload_n 1, 1) := by decide +kernel
theorem dX6_task_42 : decode cX6_task 42 = .ok (.iconst 1, 1) := by decide +kernel
theorem dX6_task_43 : decode cX6_task 43 = .ok (.isub, 1) := by decide +kernel
theorem dX6_task_44 : decode cX6_task 44 = .ok (.iload 5, 2) := by decide +kernel
theorem dX6_task_46 : decode cX6_task 46 = .ok (.iload_n 2, 1) := by decide +kernel
theorem dX6_task_47 : decode cX6_task 47 = .ok (.invokestatic 118, 3) := by decide +kernel
theorem dX6_task_50 : decode cX6_task 50 = .ok (.baload, 1) := by decide +kernel
theorem dX6_task_51 : decode cX6_task 51 = .ok (.ifCond .eq 7, 3) := by decide +kernel
theorem dX6_task_54 : decode cX6_task 54 = .ok (.iconst 1, 1) := by decide +kernel
theorem dX6_task_55 : decode cX6_task 55 = .ok (.goto 4, 3) := by decide +kernel
theorem dX6_task_58 : decode cX6_task 58 = .ok (.iconst 0, 1) := by decide +kernel
theorem dX6_task_59 : decode cX6_task 59 = .ok (.iadd, 1) := by decide +kernel
theorem dX6_task_60 : decode cX6_task 60 = .ok (.istore 4, 2) := by decide +kernel
theorem dX6_task_62 : decode cX6_task 62 = .ok (.iinc 5 1, 3) := by decide +kernel
theorem dX6_task_65 : decode cX6_task 65 = .ok (.goto (-47), 3) := by decide +kernel
theorem dX6_task_68 : decode cX6_task 68 = .ok (.iload_n 3, 1) := by decide +kernel
theorem dX6_task_69 : decode cX6_task 69 = .ok (.tableswitch 91 0 3 #[31, 50, 69, 72], 31) := by decide +kernel
theorem dX6_task_100 : decode cX6_task 100 = .ok (.aload_n 0, 1) := by decide +kernel
theorem dX6_task_101 : decode cX6_task 101 = .ok (.getfield 46, 3) := by decide +kernel
theorem dX6_task_104 : decode cX6_task 104 = .ok (.iconst 4, 1) := by decide +kernel
theorem dX6_task_105 : decode cX6_task 105 = .ok (.iload_n 1, 1) := by decide +kernel
theorem dX6_task_106 : decode cX6_task 106 = .ok (.imul, 1) := by decide +kernel
theorem dX6_task_107 : decode cX6_task 107 = .ok (.iload_n 2, 1) := by decide +kernel
theorem dX6_task_108 : decode cX6_task 108 = .ok (.iadd, 1) := by decide +kernel
theorem dX6_task_109 : decode cX6_task 109 = .ok (.baload, 1) := by decide +kernel
theorem dX6_task_110 : decode cX6_task 110 = .ok (.ifCond .eq 7, 3) := by decide +kernel
theorem dX6_task_113 : decode cX6_task 113 = .ok (.iconst 1, 1) := by decide +kernel
theorem dX6_task_114 : decode cX6_task 114 = .ok (.goto 4, 3) := by decide +kernel
theorem dX6_task_117 : decode cX6_task 117 = .ok (.iconst 0, 1) := by decide +kernel
theorem dX6_task_118 : decode cX6_task 118 = .ok (.ireturn, 1) := by decide +kernel
theorem dX6_task_119 : decode cX6_task 119 = .ok (.aload_n 0, 1) := by decide +kernel
theorem dX6_task_120 : decode cX6_task 120 = .ok (.getfield 49, 3) := by decide +kernel
theorem dX6_task_123 : decode cX6_task 123 = .ok (.iconst 4, 1) := by decide +kernel
theorem dX6_task_124 : decode cX6_task 124 = .ok (.iload_n 1, 1) := by decide +kernel
theorem dX6_task_125 : decode cX6_task 125 = .ok (.imul, 1) := by decide +kernel
theorem dX6_task_126 : decode cX6_task 126 = .ok (.iload_n 2, 1) := by decide +kernel
theorem dX6_task_127 : decode cX6_task 127 = .ok (.iadd, 1) := by decide +kernel
theorem dX6_task_128 : decode cX6_task 128 = .ok (.baload, 1) := by decide +kernel
theorem dX6_task_129 : decode cX6_task 129 = .ok (.ifCond .eq 7, 3) := by decide +kernel
theorem dX6_task_132 : decode cX6_task 132 = .ok (.iconst 1, 1) := by decide +kernel
theorem dX6_task_133 : decode cX6_task 133 = .ok (.goto 4, 3) := by decide +kernel
theorem dX6_task_136 : decode cX6_task 136 = .ok (.iconst 0, 1) := by decide +kernel
theorem dX6_task_137 : decode cX6_task 137 = .ok (.ireturn, 1) := by decide +kernel
theorem dX6_task_138 : decode cX6_task 138 = .ok (.iload 4, 2) := by decide +kernel
theorem dX6_task_140 : decode cX6_task 140 = .ok (.ireturn, 1) := by decide +kernel
theorem dX6_task_141 : decode cX6_task 141 = .ok (.iload_n 1, 1) := by decide +kernel
theorem dX6_task_142 : decode cX6_task 142 = .ok (.ifCond .ne 7, 3) := by decide +kernel
theorem dX6_task_145 : decode cX6_task 145 = .ok (.iconst (-1), 1) := by decide +kernel
theorem dX6_task_146 : decode cX6_task 146 = .ok (.goto 13, 3) := by decide +kernel
theorem dX6_task_149 : decode cX6_task 149 = .ok (.aload_n 0, 1) := by decide +kernel
theorem dX6_task_150 : decode cX6_task 150 = .ok (.getfield 55, 3) := by decide +kernel
theorem dX6_task_153 : decode cX6_task 153 = .ok (.iconst 4, 1) := by decide +kernel
theorem dX6_task_154 : decode cX6_task 154 = .ok (.iload_n 1, 1) := by decide +kernel
theorem dX6_task_155 : decode cX6_task 155 = .ok (.imul, 1) := by decide +kernel
theorem dX6_task_156 : decode cX6_task 156 = .ok (.iload_n 2, 1) := by decide +kernel
theorem dX6_task_157 : decode cX6_task 157 = .ok (.iadd, 1) := by decide +kernel
theorem dX6_task_158 : decode cX6_task 158 = .ok (.iaload, 1) := by decide +kernel
theorem dX6_task_159 : decode cX6_task 159 = .ok (.ireturn, 1) := by decide +kernel
theorem dX6_task_160 : decode cX6_task 160 = .ok (.bipush (-102), 2) := by decide +kernel
theorem dX6_task_162 : decode cX6_task 162 = .ok (.ireturn, 1) := by decide +kernel
theorem dX6_channel_0 : decode cX6_channel 0 = .ok (.aload_n 0, 1) := by decide +kernel
theorem dX6_channel_1 : decode cX6_channel 1 = .ok (.iload_n 1, 1) := by decide +kernel
theorem dX6_channel_2 : decode cX6_channel 2 = .ok (.iload_n 2, 1) := by decide +kernel
theorem dX6_channel_3 : decode cX6_channel 3 = .ok (.iload_n 3, 1) := by decide +kernel
theorem dX6_channel_4 : decode cX6_channel 4 = .ok (.invokevirtual 174, 3) := by decide +kernel
theorem dX6_channel_7 : decode cX6_channel 7 = .ok (.ifCond .ne 6, 3) := by decide +kernel
theorem dX6_channel_10 : decode cX6_channel 10 = .ok (.bipush (-101), 2) := by decide +kernel
theorem dX6_channel_12 : decode cX6_channel 12 = .ok (.ireturn, 1) := by decide +kernel
theorem dX6_channel_13 : decode cX6_channel 13 = .ok (.iload_n 1, 1) := by decide +kernel
theorem dX6_channel_14 : decode cX6_channel 14 = .ok (.iload_n 2, 1) := by decide +kernel
theorem dX6_channel_15 : decode cX6_channel 15 = .ok (.iload_n 3, 1) := by decide +kernel
theorem dX6_channel_16 : decode cX6_channel 16 = .ok (.invokestatic 118, 3) := by decide +kernel
theorem dX6_channel_19 : decode cX6_channel 19 = .ok (.istore 5, 2) := by decide +kernel
theorem dX6_channel_21 : decode cX6_channel 21 = .ok (.iload 4, 2) := by decide +kernel
theorem dX6_channel_23 : decode cX6_channel 23 = .ok (.tableswitch 80 0 3 #[29, 37, 45, 61], 29) := by decide +kernel
theorem dX6_channel_52 : decode cX6_channel 52 = .ok (.aload_n 0, 1) := by decide +kernel
theorem dX6_channel_53 : decode cX6_channel 53 = .ok (.getfield 36, 3) := by decide +kernel
theorem dX6_channel_56 : decode cX6_channel 56 = .ok (.iload 5, 2) := by decide +kernel
theorem dX6_channel_58 : decode cX6_channel 58 = .ok (.iaload, 1) := by decide +kernel
theorem dX6_channel_59 : decode cX6_channel 59 = .ok (.ireturn, 1) := by decide +kernel
theorem dX6_channel_60 : decode cX6_channel 60 = .ok (.aload_n 0, 1) := by decide +kernel
theorem dX6_channel_61 : decode cX6_channel 61 = .ok (.getfield 39, 3) := by decide +kernel
theorem dX6_channel_64 : decode cX6_channel 64 = .ok (.iload 5, 2) := by decide +kernel
theorem dX6_channel_66 : decode cX6_channel 66 = .ok (.iaload, 1) := by decide +kernel
theorem dX6_channel_67 : decode cX6_channel 67 = .ok (.ireturn, 1) := by decide +kernel
theorem dX6_channel_68 : decode cX6_channel 68 = .ok (.aload_n 0, 1) := by decide +kernel
theorem dX6_channel_69 : decode cX6_channel 69 = .ok (.getfield 42, 3) := by decide +kernel
theorem dX6_channel_72 : decode cX6_channel 72 = .ok (.iload 5, 2) := by decide +kernel
theorem dX6_channel_74 : decode cX6_channel 74 = .ok (.baload, 1) := by decide +kernel
theorem dX6_channel_75 : decode cX6_channel 75 = .ok (.ifCond .eq 7, 3) := by decide +kernel
theorem dX6_channel_78 : decode cX6_channel 78 = .ok (.iconst 1, 1) := by decide +kernel
theorem dX6_channel_79 : decode cX6_channel 79 = .ok (.goto 4, 3) := by decide +kernel
theorem dX6_channel_82 : decode cX6_channel 82 = .ok (.iconst 0, 1) := by decide +kernel
theorem dX6_channel_83 : decode cX6_channel 83 = .ok (.ireturn, 1) := by decide +kernel
theorem dX6_channel_84 : decode cX6_channel 84 = .ok (.aload_n 0, 1) := by decide +kernel
theorem dX6_channel_85 : decode cX6_channel 85 = .ok (.iload_n 1, 1) := by decide +kernel
theorem dX6_channel_86 : decode cX6_channel 86 = .ok (.iconst 1, 1) := by decide +kernel
theorem dX6_channel_87 : decode cX6_channel 87 = .ok (.iadd, 1) := by decide +kernel
theorem dX6_channel_88 : decode cX6_channel 88 = .ok (.iload_n 3, 1) := by decide +kernel
theorem dX6_channel_89 : decode cX6_channel 89 = .ok (.iload 5, 2) := by decide +kernel
theorem dX6_channel_91 : decode cX6_channel 91 = .ok (.invokevirtual 146, 3) := by decide +kernel
theorem dX6_channel_94 : decode cX6_channel 94 = .ok (.ifCond .eq 7, 3) := by decide +kernel
theorem dX6_channel_97 : decode cX6_channel 97 = .ok (.iconst 1, 1) := by decide +kernel
theorem dX6_channel_98 : decode cX6_channel 98 = .ok (.goto 4, 3) := by decide +kernel
theorem dX6_channel_101 : decode cX6_channel 101 = .ok (.iconst 0, 1) := by decide +kernel
theorem dX6_channel_102 : decode cX6_channel 102 = .ok (.ireturn, 1) := by decide +kernel
theorem dX6_channel_103 : decode cX6_channel 103 = .ok (.bipush (-102), 2) := by decide +kernel
theorem dX6_channel_105 : decode cX6_channel 105 = .ok (.ireturn, 1) := by decide +kernel
theorem dX6_key_0 : decode cX6_key 0 = .ok (.aload_n 0, 1) := by decide +kernel
theorem dX6_key_1 : decode cX6_key 1 = .ok (.iload_n 1, 1) := by decide +kernel
theorem dX6_key_2 : decode cX6_key 2 = .ok (.iload_n 2, 1) := by decide +kernel
theorem dX6_key_3 : decode cX6_key 3 = .ok (.iload_n 3, 1) := by decide +kernel
theorem dX6_key_4 : decode cX6_key 4 = .ok (.invokevirtual 174, 3) := by decide +kernel
theorem dX6_key_7 : decode cX6_key 7 = .ok (.ifCond .ne 6, 3) := by decide +kernel
theorem dX6_key_10 : decode cX6_key 10 = .ok (.bipush (-101), 2) := by decide +kernel
theorem dX6_key_12 : decode cX6_key 12 = .ok (.ireturn, 1) := by decide +kernel
theorem dX6_key_13 : decode cX6_key 13 = .ok (.iload_n 1, 1) := by decide +kernel
theorem dX6_key_14 : decode cX6_key 14 = .ok (.iload_n 2, 1) := by decide +kernel
theorem dX6_key_15 : decode cX6_key 15 = .ok (.iload_n 3, 1) := by decide +kernel
theorem dX6_key_16 : decode cX6_key 16 = .ok (.invokestatic 118, 3) := by decide +kernel
theorem dX6_key_19 : decode cX6_key 19 = .ok (.istore 5, 2) := by decide +kernel
theorem dX6_key_21 : decode cX6_key 21 = .ok (.iload 4, 2) := by decide +kernel
theorem dX6_key_23 : decode cX6_key 23 = .ok (.iconst 0, 1) := by decide +kernel
theorem dX6_key_24 : decode cX6_key 24 = .ok (.aload_n 0, 1) := by decide +kernel
theorem dX6_key_25 : decode cX6_key 25 = .ok (.getfield 36, 3) := by decide +kernel
theorem dX6_key_28 : decode cX6_key 28 = .ok (.iload 5, 2) := by decide +kernel
theorem dX6_key_30 : decode cX6_key 30 = .ok (.iaload, 1) := by decide +kernel
theorem dX6_key_31 : decode cX6_key 31 = .ok (.iconst 1, 1) := by decide +kernel
theorem dX6_key_32 : decode cX6_key 32 = .ok (.isub, 1) := by decide +kernel
theorem dX6_key_33 : decode cX6_key 33 = .ok (.invokestatic 94, 3) := by decide +kernel
theorem dX6_key_36 : decode cX6_key 36 = .ok (.ifCond .eq 25, 3) := by decide +kernel
theorem dX6_key_39 : decode cX6_key 39 = .ok (.aload_n 0, 1) := by decide +kernel
theorem dX6_key_40 : decode cX6_key 40 = .ok (.getfield 20, 3) := by decide +kernel
theorem dX6_key_43 : decode cX6_key 43 = .ok (.aload_n 0, 1) := by decide +kernel
theorem dX6_key_44 : decode cX6_key 44 = .ok (.getfield 33, 3) := by decide +kernel
theorem dX6_key_47 : decode cX6_key 47 = .ok (.sipush 200, 3) := by decide +kernel
theorem dX6_key_50 : decode cX6_key 50 = .ok (.iload 5, 2) := by decide +kernel
theorem dX6_key_52 : decode cX6_key 52 = .ok (.imul, 1) := by decide +kernel
theorem dX6_key_53 : decode cX6_key 53 = .ok (.iload 4, 2) := by decide +kernel
theorem dX6_key_55 : decode cX6_key 55 = .ok (.iadd, 1) := by decide +kernel
theorem dX6_key_56 : decode cX6_key 56 = .ok (.iaload, 1) := by decide +kernel
theorem dX6_key_57 : decode cX6_key 57 = .ok (.iaload, 1) := by decide +kernel
theorem dX6_key_58 : decode cX6_key 58 = .ok (.goto 4, 3) := by decide +kernel
theorem dX6_key_61 : decode cX6_key 61 = .ok (.iconst (-1), 1) := by decide +kernel
theorem dX6_key_62 : decode cX6_key 62 = .ok (.ireturn, 1) := by decide +kernel
theorem dX6_value_0 : decode cX6_value 0 = .ok (.aload_n 0, 1) := by decide +kernel
theorem dX6_value_1 : decode cX6_value 1 = .ok (.iload_n 1, 1) := by decide +kernel
theorem dX6_value_2 : decode cX6_value 2 = .ok (.iload_n 2, 1) := by decide +kernel
theorem dX6_value_3 : decode cX6_value 3 = .ok (.iload_n 3, 1) := by decide +kernel
theorem dX6_value_4 : decode cX6_value 4 = .ok (.invokevirtual 174, 3) := by decide +kernel
theorem dX6_value_7 : decode cX6_value 7 = .ok (.ifCond .eq 29, 3) := by decide +kernel
theorem dX6_value_10 : decode cX6_value 10 = .ok (.iload 4, 2) := by decide +kernel
theorem dX6_value_12 : decode cX6_value 12 = .ok (.iconst 0, 1) := by decide +kernel
theorem dX6_value_13 : decode cX6_value 13 = .ok (.aload_n 0, 1) := by decide +kernel
theorem dX6_value_14 : decode cX6_value 14 = .ok (.getfield 36, 3) := by decide +kernel
theorem dX6_value_17 : decode cX6_value 17 = .ok (.iload_n 1, 1) := by decide +kernel
theorem dX6_value_18 : decode cX6_value 18 = .ok (.iload_n 2, 1) := by decide +kernel
theorem dX6_value_19 : decode cX6_value 19 = .ok (.iload_n 3, 1) := by decide +kernel
theorem dX6_value_20 : decode cX6_value 20 = .ok (.invokestatic 118, 3) := by decide +kernel
theorem dX6_value_23 : decode cX6_value 23 = .ok (.iaload, 1) := by decide +kernel
theorem dX6_value_24 : decode cX6_value 24 = .ok (.iconst 1, 1) := by decide +kernel
theorem dX6_value_25 : decode cX6_value 25 = .ok (.isub, 1) := by decide +kernel
theorem dX6_value_26 : decode cX6_value 26 = .ok (.invokestatic 94, 3) := by decide +kernel
theorem dX6_value_29 : decode cX6_value 29 = .ok (.ifCond .eq 7, 3) := by decide +kernel
theorem dX6_value_32 : decode cX6_value 32 = .ok (.iconst 1, 1) := by decide +kernel
theorem dX6_value_33 : decode cX6_value 33 = .ok (.goto 4, 3) := by decide +kernel
theorem dX6_value_36 : decode cX6_value 36 = .ok (.iconst 0, 1) := by decide +kernel
theorem dX6_value_37 : decode cX6_value 37 = .ok (.istore 5, 2) := by decide +kernel
theorem dX6_value_39 : decode cX6_value 39 = .ok (.iload 5, 2) := by decide +kernel
theorem dX6_value_41 : decode cX6_value 41 = .ok (.ifCond .eq 29, 3) := by decide +kernel
theorem dX6_value_44 : decode cX6_value 44 = .ok (.aload_n 0, 1) := by decide +kernel
theorem dX6_value_45 : decode cX6_value 45 = .ok (.getfield 23, 3) := by decide +kernel
theorem dX6_value_48 : decode cX6_value 48 = .ok (.aload_n 0, 1) := by decide +kernel
theorem dX6_value_49 : decode cX6_value 49 = .ok (.getfield 33, 3) := by decide +kernel
theorem dX6_value_52 : decode cX6_value 52 = .ok (.sipush 200, 3) := by decide +kernel
theorem dX6_value_55 : decode cX6_value 55 = .ok (.iload_n 1, 1) := by decide +kernel
theorem dX6_value_56 : decode cX6_value 56 = .ok (.iload_n 2, 1) := by decide +kernel
theorem dX6_value_57 : decode cX6_value 57 = .ok (.iload_n 3, 1) := by decide +kernel
theorem dX6_value_58 : decode cX6_value 58 = .ok (.invokestatic 118, 3) := by decide +kernel
theorem dX6_value_61 : decode cX6_value 61 = .ok (.imul, 1) := by decide +kernel
theorem dX6_value_62 : decode cX6_value 62 = .ok (.iload 4, 2) := by decide +kernel
theorem dX6_value_64 : decode cX6_value 64 = .ok (.iadd, 1) := by decide +kernel
theorem dX6_value_65 : decode cX6_value 65 = .ok (.iaload, 1) := by decide +kernel
theorem dX6_value_66 : decode cX6_value 66 = .ok (.laload, 1) := by decide +kernel
theorem dX6_value_67 : decode cX6_value 67 = .ok (.goto 4, 3) := by decide +kernel
theorem dX6_value_70 : decode cX6_value 70 = .ok (.lconst 0, 1) := by decide +kernel
theorem dX6_value_71 : decode cX6_value 71 = .ok (.lreturn, 1) := by decide +kernel
theorem dX6_isMark_0 : decode cX6_isMark 0 = .ok (.iload_n 1, 1) := by decide +kernel
theorem dX6_isMark_1 : decode cX6_isMark 1 = .ok (.iconst 0, 1) := by decide +kernel
theorem dX6_isMark_2 : decode cX6_isMark 2 = .ok (.aload_n 0, 1) := by decide +kernel
theorem dX6_isMark_3 : decode cX6_isMark 3 = .ok (.getfield 105, 3) := by decide +kernel
theorem dX6_isMark_6 : decode cX6_isMark 6 = .ok (.iconst 1, 1) := by decide +kernel
theorem dX6_isMark_7 : decode cX6_isMark 7 = .ok (.isub, 1) := by decide +kernel
theorem dX6_isMark_8 : decode cX6_isMark 8 = .ok (.invokestatic 94, 3) := by decide +kernel
theorem dX6_isMark_11 : decode cX6_isMark 11 = .ok (.ireturn, 1) := by decide +kernel
theorem dX6_marked_0 : decode cX6_marked 0 = .ok (.aload_n 0, 1) := by decide +kernel
theorem dX6_marked_1 : decode cX6_marked 1 = .ok (.iload_n 1, 1) := by decide +kernel
theorem dX6_marked_2 : decode cX6_marked 2 = .ok (.invokevirtual 177, 3) := by decide +kernel
theorem dX6_marked_5 : decode cX6_marked 5 = .ok (.ifCond .ne 6, 3) := by decide +kernel
theorem dX6_marked_8 : decode cX6_marked 8 = .ok (.bipush (-101), 2) := by decide +kernel
theorem dX6_marked_10 : decode cX6_marked 10 = .ok (.ireturn, 1) := by decide +kernel
theorem dX6_marked_11 : decode cX6_marked 11 = .ok (.iconst 0, 1) := by decide +kernel
theorem dX6_marked_12 : decode cX6_marked 12 = .ok (.istore_n 3, 1) := by decide +kernel
theorem dX6_marked_13 : decode cX6_marked 13 = .ok (.iconst 0, 1) := by decide +kernel
theorem dX6_marked_14 : decode cX6_marked 14 = .ok (.istore 4, 2) := by decide +kernel
theorem dX6_marked_16 : decode cX6_marked 16 = .ok (.iload 4, 2) := by decide +kernel
theorem dX6_marked_18 : decode cX6_marked 18 = .ok (.bipush 48, 2) := by decide +kernel
theorem dX6_marked_20 : decode cX6_marked 20 = .ok (.if_icmp .ge 32, 3) := by decide +kernel
theorem dX6_marked_23 : decode cX6_marked 23 = .ok (.iload_n 3, 1) := by decide +kernel
theorem dX6_marked_24 : decode cX6_marked 24 = .ok (.aload_n 0, 1) := by decide +kernel
theorem dX6_marked_25 : decode cX6_marked 25 = .ok (.getfield 88, 3) := by decide +kernel
theorem dX6_marked_28 : decode cX6_marked 28 = .ok (.bipush 48, 2) := by decide +kernel
theorem dX6_marked_30 : decode cX6_marked 30 = .ok (.iload_n 1, 1) := by decide +kernel
theorem dX6_marked_31 : decode cX6_marked 31 = .ok (.imul, 1) := by decide +kernel
theorem dX6_marked_32 : decode cX6_marked 32 = .ok (.iload 4, 2) := by decide +kernel
theorem dX6_marked_34 : decode cX6_marked 34 = .ok (.iadd, 1) := by decide +kernel
theorem dX6_marked_35 : decode cX6_marked 35 = .ok (.baload, 1) := by decide +kernel
theorem dX6_marked_36 : decode cX6_marked 36 = .ok (.ifCond .eq 7, 3) := by decide +kernel
theorem dX6_marked_39 : decode cX6_marked 39 = .ok (.iconst 1, 1) := by decide +kernel
theorem dX6_marked_40 : decode cX6_marked 40 = .ok (.goto 4, 3) := by decide +kernel
theorem dX6_marked_43 : decode cX6_marked 43 = .ok (.iconst 0, 1) := by decide +kernel
theorem dX6_marked_44 : decode cX6_marked 44 = .ok (.iadd, 1) := by decide +kernel
theorem dX6_marked_45 : decode cX6_marked 45 = .ok (.istore_n 3, 1) := by decide +kernel
theorem dX6_marked_46 : decode cX6_marked 46 = .ok (.iinc 4 1, 3) := by decide +kernel
theorem dX6_marked_49 : decode cX6_marked 49 = .ok (.goto (-33), 3) := by decide +kernel
theorem dX6_marked_52 : decode cX6_marked 52 = .ok (.iload_n 2, 1) := by decide +kernel
theorem dX6_marked_53 : decode cX6_marked 53 = .ok (.tableswitch 76 0 3 #[31, 38, 45, 47], 31) := by decide +kernel
theorem dX6_marked_84 : decode cX6_marked 84 = .ok (.aload_n 0, 1) := by decide +kernel
theorem dX6_marked_85 : decode cX6_marked 85 = .ok (.getfield 61, 3) := by decide +kernel
theorem dX6_marked_88 : decode cX6_marked 88 = .ok (.iload_n 1, 1) := by decide +kernel
theorem dX6_marked_89 : decode cX6_marked 89 = .ok (.iaload, 1) := by decide +kernel
theorem dX6_marked_90 : decode cX6_marked 90 = .ok (.ireturn, 1) := by decide +kernel
theorem dX6_marked_91 : decode cX6_marked 91 = .ok (.aload_n 0, 1) := by decide +kernel
theorem dX6_marked_92 : decode cX6_marked 92 = .ok (.getfield 79, 3) := by decide +kernel
theorem dX6_marked_95 : decode cX6_marked 95 = .ok (.iload_n 1, 1) := by decide +kernel
theorem dX6_marked_96 : decode cX6_marked 96 = .ok (.iaload, 1) := by decide +kernel
theorem dX6_marked_97 : decode cX6_marked 97 = .ok (.ireturn, 1) := by decide +kernel
theorem dX6_marked_98 : decode cX6_marked 98 = .ok (.iload_n 3, 1) := by decide +kernel
theorem dX6_marked_99 : decode cX6_marked 99 = .ok (.ireturn, 1) := by decide +kernel
theorem dX6_marked_100 : decode cX6_marked 100 = .ok (.iload_n 1, 1) := by decide +kernel
theorem dX6_marked_101 : decode cX6_marked 101 = .ok (.aload_n 0, 1) := by decide +kernel
theorem dX6_marked_102 : decode cX6_marked 102 = .ok (.getfield 58, 3) := by decide +kernel
theorem dX6_marked_105 : decode cX6_marked 105 = .ok (.if_icmp .ne 17, 3) := by decide +kernel
theorem dX6_marked_108 : decode cX6_marked 108 = .ok (.aload_n 0, 1) := by decide +kernel
theorem dX6_marked_109 : decode cX6_marked 109 = .ok (.getfield 102, 3) := by decide +kernel
theorem dX6_marked_112 : decode cX6_marked 112 = .ok (.aload_n 0, 1) := by decide +kernel
theorem dX6_marked_113 : decode cX6_marked 113 = .ok (.getfield 64, 3) := by decide +kernel
theorem dX6_marked_116 : decode cX6_marked 116 = .ok (.iload_n 1, 1) := by decide +kernel
theorem dX6_marked_117 : decode cX6_marked 117 = .ok (.iaload, 1) := by decide +kernel
theorem dX6_marked_118 : decode cX6_marked 118 = .ok (.isub, 1) := by decide +kernel
theorem dX6_marked_119 : decode cX6_marked 119 = .ok (.goto 9, 3) := by decide +kernel
theorem dX6_marked_122 : decode cX6_marked 122 = .ok (.aload_n 0, 1) := by decide +kernel
theorem dX6_marked_123 : decode cX6_marked 123 = .ok (.getfield 67, 3) := by decide +kernel
theorem dX6_marked_126 : decode cX6_marked 126 = .ok (.iload_n 1, 1) := by decide +kernel
theorem dX6_marked_127 : decode cX6_marked 127 = .ok (.iaload, 1) := by decide +kernel
theorem dX6_marked_128 : decode cX6_marked 128 = .ok (.ireturn, 1) := by decide +kernel
theorem dX6_marked_129 : decode cX6_marked 129 = .ok (.iload_n 2, 1) := by decide +kernel
theorem dX6_marked_130 : decode cX6_marked 130 = .ok (.bipush 10, 2) := by decide +kernel
theorem dX6_marked_132 : decode cX6_marked 132 = .ok (.if_icmp .lt 30, 3) := by decide +kernel
theorem dX6_marked_135 : decode cX6_marked 135 = .ok (.aload_n 0, 1) := by decide +kernel
theorem dX6_marked_136 : decode cX6_marked 136 = .ok (.iload_n 2, 1) := by decide +kernel
theorem dX6_marked_137 : decode cX6_marked 137 = .ok (.bipush 10, 2) := by decide +kernel
theorem dX6_marked_139 : decode cX6_marked 139 = .ok (.isub, 1) := by decide +kernel
theorem dX6_marked_140 : decode cX6_marked 140 = .ok (.invokevirtual 98, 3) := by decide +kernel
theorem dX6_marked_143 : decode cX6_marked 143 = .ok (.ifCond .eq 19, 3) := by decide +kernel
theorem dX6_marked_146 : decode cX6_marked 146 = .ok (.aload_n 0, 1) := by decide +kernel
theorem dX6_marked_147 : decode cX6_marked 147 = .ok (.getfield 70, 3) := by decide +kernel
theorem dX6_marked_150 : decode cX6_marked 150 = .ok (.iconst 4, 1) := by decide +kernel
theorem dX6_marked_151 : decode cX6_marked 151 = .ok (.iload_n 1, 1) := by decide +kernel
theorem dX6_marked_152 : decode cX6_marked 152 = .ok (.imul, 1) := by decide +kernel
theorem dX6_marked_153 : decode cX6_marked 153 = .ok (.iload_n 2, 1) := by decide +kernel
theorem dX6_marked_154 : decode cX6_marked 154 = .ok (.iadd, 1) := by decide +kernel
theorem dX6_marked_155 : decode cX6_marked 155 = .ok (.bipush 10, 2) := by decide +kernel
theorem dX6_marked_157 : decode cX6_marked 157 = .ok (.isub, 1) := by decide +kernel
theorem dX6_marked_158 : decode cX6_marked 158 = .ok (.iaload, 1) := by decide +kernel
theorem dX6_marked_159 : decode cX6_marked 159 = .ok (.goto 5, 3) := by decide +kernel
theorem dX6_marked_162 : decode cX6_marked 162 = .ok (.bipush (-102), 2) := by decide +kernel
theorem dX6_marked_164 : decode cX6_marked 164 = .ok (.ireturn, 1) := by decide +kernel
theorem dX6_keptMany_0 : decode cX6_keptMany 0 = .ok (.aload_n 0, 1) := by decide +kernel
theorem dX6_keptMany_1 : decode cX6_keptMany 1 = .ok (.iload_n 1, 1) := by decide +kernel
theorem dX6_keptMany_2 : decode cX6_keptMany 2 = .ok (.invokevirtual 177, 3) := by decide +kernel
theorem dX6_keptMany_5 : decode cX6_keptMany 5 = .ok (.ifCond .eq 11, 3) := by decide +kernel
theorem dX6_keptMany_8 : decode cX6_keptMany 8 = .ok (.aload_n 0, 1) := by decide +kernel
theorem dX6_keptMany_9 : decode cX6_keptMany 9 = .ok (.iload_n 2, 1) := by decide +kernel
theorem dX6_keptMany_10 : decode cX6_keptMany 10 = .ok (.invokevirtual 98, 3) := by decide +kernel
theorem dX6_keptMany_13 : decode cX6_keptMany 13 = .ok (.ifCond .ne 8, 3) := by decide +kernel
theorem dX6_keptMany_16 : decode cX6_keptMany 16 = .ok (.bipush (-101), 2) := by decide +kernel
theorem dX6_keptMany_18 : decode cX6_keptMany 18 = .ok (.goto 34, 3) := by decide +kernel
theorem dX6_keptMany_21 : decode cX6_keptMany 21 = .ok (.iload_n 3, 1) := by decide +kernel
theorem dX6_keptMany_22 : decode cX6_keptMany 22 = .ok (.iconst 0, 1) := by decide +kernel
theorem dX6_keptMany_23 : decode cX6_keptMany 23 = .ok (.bipush 15, 2) := by decide +kernel
theorem dX6_keptMany_25 : decode cX6_keptMany 25 = .ok (.invokestatic 94, 3) := by decide +kernel
theorem dX6_keptMany_28 : decode cX6_keptMany 28 = .ok (.ifCond .eq 22, 3) := by decide +kernel
theorem dX6_keptMany_31 : decode cX6_keptMany 31 = .ok (.aload_n 0, 1) := by decide +kernel
theorem dX6_keptMany_32 : decode cX6_keptMany 32 = .ok (.getfield 73, 3) := by decide +kernel
theorem dX6_keptMany_35 : decode cX6_keptMany 35 = .ok (.bipush 64, 2) := by decide +kernel
theorem dX6_keptMany_37 : decode cX6_keptMany 37 = .ok (.iload_n 1, 1) := by decide +kernel
theorem dX6_keptMany_38 : decode cX6_keptMany 38 = .ok (.imul, 1) := by decide +kernel
theorem dX6_keptMany_39 : decode cX6_keptMany 39 = .ok (.bipush 16, 2) := by decide +kernel
theorem dX6_keptMany_41 : decode cX6_keptMany 41 = .ok (.iload_n 2, 1) := by decide +kernel
theorem dX6_keptMany_42 : decode cX6_keptMany 42 = .ok (.imul, 1) := by decide +kernel
theorem dX6_keptMany_43 : decode cX6_keptMany 43 = .ok (.iadd, 1) := by decide +kernel
theorem dX6_keptMany_44 : decode cX6_keptMany 44 = .ok (.iload_n 3, 1) := by decide +kernel
theorem dX6_keptMany_45 : decode cX6_keptMany 45 = .ok (.iadd, 1) := by decide +kernel
theorem dX6_keptMany_46 : decode cX6_keptMany 46 = .ok (.iaload, 1) := by decide +kernel
theorem dX6_keptMany_47 : decode cX6_keptMany 47 = .ok (.goto 5, 3) := by decide +kernel
theorem dX6_keptMany_50 : decode cX6_keptMany 50 = .ok (.bipush (-102), 2) := by decide +kernel
theorem dX6_keptMany_52 : decode cX6_keptMany 52 = .ok (.ireturn, 1) := by decide +kernel
theorem dX6_keptSum_0 : decode cX6_keptSum 0 = .ok (.aload_n 0, 1) := by decide +kernel
theorem dX6_keptSum_1 : decode cX6_keptSum 1 = .ok (.iload_n 1, 1) := by decide +kernel
theorem dX6_keptSum_2 : decode cX6_keptSum 2 = .ok (.invokevirtual 177, 3) := by decide +kernel
theorem dX6_keptSum_5 : decode cX6_keptSum 5 = .ok (.ifCond .eq 40, 3) := by decide +kernel
theorem dX6_keptSum_8 : decode cX6_keptSum 8 = .ok (.aload_n 0, 1) := by decide +kernel
theorem dX6_keptSum_9 : decode cX6_keptSum 9 = .ok (.iload_n 2, 1) := by decide +kernel
theorem dX6_keptSum_10 : decode cX6_keptSum 10 = .ok (.invokevirtual 98, 3) := by decide +kernel
theorem dX6_keptSum_13 : decode cX6_keptSum 13 = .ok (.ifCond .eq 32, 3) := by decide +kernel
theorem dX6_keptSum_16 : decode cX6_keptSum 16 = .ok (.iload_n 3, 1) := by decide +kernel
theorem dX6_keptSum_17 : decode cX6_keptSum 17 = .ok (.iconst 0, 1) := by decide +kernel
theorem dX6_keptSum_18 : decode cX6_keptSum 18 = .ok (.bipush 15, 2) := by decide +kernel
theorem dX6_keptSum_20 : decode cX6_keptSum 20 = .ok (.invokestatic 94, 3) := by decide +kernel
theorem dX6_keptSum_23 : decode cX6_keptSum 23 = .ok (.ifCond .eq 22, 3) := by decide +kernel
theorem dX6_keptSum_26 : decode cX6_keptSum 26 = .ok (.aload_n 0, 1) := by decide +kernel
theorem dX6_keptSum_27 : decode cX6_keptSum 27 = .ok (.getfield 76, 3) := by decide +kernel
theorem dX6_keptSum_30 : decode cX6_keptSum 30 = .ok (.bipush 64, 2) := by decide +kernel
theorem dX6_keptSum_32 : decode cX6_keptSum 32 = .ok (.iload_n 1, 1) := by decide +kernel
theorem dX6_keptSum_33 : decode cX6_keptSum 33 = .ok (.imul, 1) := by decide +kernel
theorem dX6_keptSum_34 : decode cX6_keptSum 34 = .ok (.bipush 16, 2) := by decide +kernel
theorem dX6_keptSum_36 : decode cX6_keptSum 36 = .ok (.iload_n 2, 1) := by decide +kernel
theorem dX6_keptSum_37 : decode cX6_keptSum 37 = .ok (.imul, 1) := by decide +kernel
theorem dX6_keptSum_38 : decode cX6_keptSum 38 = .ok (.iadd, 1) := by decide +kernel
theorem dX6_keptSum_39 : decode cX6_keptSum 39 = .ok (.iload_n 3, 1) := by decide +kernel
theorem dX6_keptSum_40 : decode cX6_keptSum 40 = .ok (.iadd, 1) := by decide +kernel
theorem dX6_keptSum_41 : decode cX6_keptSum 41 = .ok (.laload, 1) := by decide +kernel
theorem dX6_keptSum_42 : decode cX6_keptSum 42 = .ok (.goto 4, 3) := by decide +kernel
theorem dX6_keptSum_45 : decode cX6_keptSum 45 = .ok (.lconst 0, 1) := by decide +kernel
theorem dX6_keptSum_46 : decode cX6_keptSum 46 = .ok (.lreturn, 1) := by decide +kernel
theorem dX6_wasChannel_0 : decode cX6_wasChannel 0 = .ok (.aload_n 0, 1) := by decide +kernel
theorem dX6_wasChannel_1 : decode cX6_wasChannel 1 = .ok (.iload_n 1, 1) := by decide +kernel
theorem dX6_wasChannel_2 : decode cX6_wasChannel 2 = .ok (.invokevirtual 177, 3) := by decide +kernel
theorem dX6_wasChannel_5 : decode cX6_wasChannel 5 = .ok (.ifCond .eq 64, 3) := by decide +kernel
theorem dX6_wasChannel_8 : decode cX6_wasChannel 8 = .ok (.iload_n 2, 1) := by decide +kernel
theorem dX6_wasChannel_9 : decode cX6_wasChannel 9 = .ok (.iconst 0, 1) := by decide +kernel
theorem dX6_wasChannel_10 : decode cX6_wasChannel 10 = .ok (.aload_n 0, 1) := by decide +kernel
theorem dX6_wasChannel_11 : decode cX6_wasChannel 11 = .ok (.getfield 91, 3) := by decide +kernel
theorem dX6_wasChannel_14 : decode cX6_wasChannel 14 = .ok (.iconst 2, 1) := by decide +kernel
theorem dX6_wasChannel_15 : decode cX6_wasChannel 15 = .ok (.isub, 1) := by decide +kernel
theorem dX6_wasChannel_16 : decode cX6_wasChannel 16 = .ok (.invokestatic 94, 3) := by decide +kernel
theorem dX6_wasChannel_19 : decode cX6_wasChannel 19 = .ok (.ifCond .eq 50, 3) := by decide +kernel
theorem dX6_wasChannel_22 : decode cX6_wasChannel 22 = .ok (.iload_n 3, 1) := by decide +kernel
theorem dX6_wasChannel_23 : decode cX6_wasChannel 23 = .ok (.iconst 0, 1) := by decide +kernel
theorem dX6_wasChannel_24 : decode cX6_wasChannel 24 = .ok (.aload_n 0, 1) := by decide +kernel
theorem dX6_wasChannel_25 : decode cX6_wasChannel 25 = .ok (.getfield 70, 3) := by decide +kernel
theorem dX6_wasChannel_28 : decode cX6_wasChannel 28 = .ok (.iconst 4, 1) := by decide +kernel
theorem dX6_wasChannel_29 : decode cX6_wasChannel 29 = .ok (.iload_n 1, 1) := by decide +kernel
theorem dX6_wasChannel_30 : decode cX6_wasChannel 30 = .ok (.imul, 1) := by decide +kernel
theorem dX6_wasChannel_31 : decode cX6_wasChannel 31 = .ok (.iload_n 2, 1) := by decide +kernel
theorem dX6_wasChannel_32 : decode cX6_wasChannel 32 = .ok (.iadd, 1) := by decide +kernel
theorem dX6_wasChannel_33 : decode cX6_wasChannel 33 = .ok (.iaload, 1) := by decide +kernel
theorem dX6_wasChannel_34 : decode cX6_wasChannel 34 = .ok (.iconst 1, 1) := by decide +kernel
theorem dX6_wasChannel_35 : decode cX6_wasChannel 35 = .ok (.isub, 1) := by decide +kernel
theorem dX6_wasChannel_36 : decode cX6_wasChannel 36 = .ok (.invokestatic 94, 3) := by decide +kernel
theorem dX6_wasChannel_39 : decode cX6_wasChannel 39 = .ok (.ifCond .eq 30, 3) := by decide +kernel
theorem dX6_wasChannel_42 : decode cX6_wasChannel 42 = .ok (.iload 4, 2) := by decide +kernel
theorem dX6_wasChannel_44 : decode cX6_wasChannel 44 = .ok (.iconst 0, 1) := by decide +kernel
theorem dX6_wasChannel_45 : decode cX6_wasChannel 45 = .ok (.aload_n 0, 1) := by decide +kernel
theorem dX6_wasChannel_46 : decode cX6_wasChannel 46 = .ok (.getfield 70, 3) := by decide +kernel
theorem dX6_wasChannel_49 : decode cX6_wasChannel 49 = .ok (.iconst 4, 1) := by decide +kernel
theorem dX6_wasChannel_50 : decode cX6_wasChannel 50 = .ok (.iload_n 1, 1) := by decide +kernel
theorem dX6_wasChannel_51 : decode cX6_wasChannel 51 = .ok (.imul, 1) := by decide +kernel
theorem dX6_wasChannel_52 : decode cX6_wasChannel 52 = .ok (.iload_n 2, 1) := by decide +kernel
theorem dX6_wasChannel_53 : decode cX6_wasChannel 53 = .ok (.iadd, 1) := by decide +kernel
theorem dX6_wasChannel_54 : decode cX6_wasChannel 54 = .ok (.iconst 1, 1) := by decide +kernel
theorem dX6_wasChannel_55 : decode cX6_wasChannel 55 = .ok (.iadd, 1) := by decide +kernel
theorem dX6_wasChannel_56 : decode cX6_wasChannel 56 = .ok (.iaload, 1) := by decide +kernel
theorem dX6_wasChannel_57 : decode cX6_wasChannel 57 = .ok (.iconst 1, 1) := by decide +kernel
theorem dX6_wasChannel_58 : decode cX6_wasChannel 58 = .ok (.isub, 1) := by decide +kernel
theorem dX6_wasChannel_59 : decode cX6_wasChannel 59 = .ok (.invokestatic 94, 3) := by decide +kernel
theorem dX6_wasChannel_62 : decode cX6_wasChannel 62 = .ok (.ifCond .eq 7, 3) := by decide +kernel
theorem dX6_wasChannel_65 : decode cX6_wasChannel 65 = .ok (.iconst 1, 1) := by decide +kernel
theorem dX6_wasChannel_66 : decode cX6_wasChannel 66 = .ok (.goto 4, 3) := by decide +kernel
theorem dX6_wasChannel_69 : decode cX6_wasChannel 69 = .ok (.iconst 0, 1) := by decide +kernel
theorem dX6_wasChannel_70 : decode cX6_wasChannel 70 = .ok (.ireturn, 1) := by decide +kernel
theorem dX6_keptAt_0 : decode cX6_keptAt 0 = .ok (.iload_n 3, 1) := by decide +kernel
theorem dX6_keptAt_1 : decode cX6_keptAt 1 = .ok (.istore 4, 2) := by decide +kernel
theorem dX6_keptAt_3 : decode cX6_keptAt 3 = .ok (.iconst 0, 1) := by decide +kernel
theorem dX6_keptAt_4 : decode cX6_keptAt 4 = .ok (.istore 5, 2) := by decide +kernel
theorem dX6_keptAt_6 : decode cX6_keptAt 6 = .ok (.iload 5, 2) := by decide +kernel
theorem dX6_keptAt_8 : decode cX6_keptAt 8 = .ok (.aload_n 0, 1) := by decide +kernel
theorem dX6_keptAt_9 : decode cX6_keptAt 9 = .ok (.getfield 79, 3) := by decide +kernel
theorem dX6_keptAt_12 : decode cX6_keptAt 12 = .ok (.iload_n 1, 1) := by decide +kernel
theorem dX6_keptAt_13 : decode cX6_keptAt 13 = .ok (.iaload, 1) := by decide +kernel
theorem dX6_keptAt_14 : decode cX6_keptAt 14 = .ok (.if_icmp .ge 52, 3) := by decide +kernel
theorem dX6_keptAt_17 : decode cX6_keptAt 17 = .ok (.iload_n 3, 1) := by decide +kernel
theorem dX6_keptAt_18 : decode cX6_keptAt 18 = .ok (.ifCond .lt 48, 3) := by decide +kernel
theorem dX6_keptAt_21 : decode cX6_keptAt 21 = .ok (.aload_n 0, 1) := by decide +kernel
theorem dX6_keptAt_22 : decode cX6_keptAt 22 = .ok (.getfield 82, 3) := by decide +kernel
theorem dX6_keptAt_25 : decode cX6_keptAt 25 = .ok (.sipush 200, 3) := by decide +kernel
theorem dX6_keptAt_28 : decode cX6_keptAt 28 = .ok (.iload_n 1, 1) := by decide +kernel
theorem dX6_keptAt_29 : decode cX6_keptAt 29 = .ok (.imul, 1) := by decide +kernel
theorem dX6_keptAt_30 : decode cX6_keptAt 30 = .ok (.iload 5, 2) := by decide +kernel
theorem dX6_keptAt_32 : decode cX6_keptAt 32 = .ok (.iadd, 1) := by decide +kernel
theorem dX6_keptAt_33 : decode cX6_keptAt 33 = .ok (.iaload, 1) := by decide +kernel
theorem dX6_keptAt_34 : decode cX6_keptAt 34 = .ok (.iload_n 2, 1) := by decide +kernel
theorem dX6_keptAt_35 : decode cX6_keptAt 35 = .ok (.if_icmp .ne 25, 3) := by decide +kernel
theorem dX6_keptAt_38 : decode cX6_keptAt 38 = .ok (.iload 4, 2) := by decide +kernel
theorem dX6_keptAt_40 : decode cX6_keptAt 40 = .ok (.ifCond .ne 17, 3) := by decide +kernel
theorem dX6_keptAt_43 : decode cX6_keptAt 43 = .ok (.aload_n 0, 1) := by decide +kernel
theorem dX6_keptAt_44 : decode cX6_keptAt 44 = .ok (.getfield 85, 3) := by decide +kernel
theorem dX6_keptAt_47 : decode cX6_keptAt 47 = .ok (.sipush 200, 3) := by decide +kernel
theorem dX6_keptAt_50 : decode cX6_keptAt 50 = .ok (.iload_n 1, 1) := by decide +kernel
theorem dX6_keptAt_51 : decode cX6_keptAt 51 = .ok (.imul, 1) := by decide +kernel
theorem dX6_keptAt_52 : decode cX6_keptAt 52 = .ok (.iload 5, 2) := by decide +kernel
theorem dX6_keptAt_54 : decode cX6_keptAt 54 = .ok (.iadd, 1) := by decide +kernel
theorem dX6_keptAt_55 : decode cX6_keptAt 55 = .ok (.iaload, 1) := by decide +kernel
theorem dX6_keptAt_56 : decode cX6_keptAt 56 = .ok (.ireturn, 1) := by decide +kernel
theorem dX6_keptAt_57 : decode cX6_keptAt 57 = .ok (.iinc 4 (-1), 3) := by decide +kernel
theorem dX6_keptAt_60 : decode cX6_keptAt 60 = .ok (.iinc 5 1, 3) := by decide +kernel
theorem dX6_keptAt_63 : decode cX6_keptAt 63 = .ok (.goto (-57), 3) := by decide +kernel
theorem dX6_keptAt_66 : decode cX6_keptAt 66 = .ok (.iconst (-1), 1) := by decide +kernel
theorem dX6_keptAt_67 : decode cX6_keptAt 67 = .ok (.ireturn, 1) := by decide +kernel
theorem dX6_kept_0 : decode cX6_kept 0 = .ok (.aload_n 0, 1) := by decide +kernel
theorem dX6_kept_1 : decode cX6_kept 1 = .ok (.iload_n 1, 1) := by decide +kernel
theorem dX6_kept_2 : decode cX6_kept 2 = .ok (.iload_n 2, 1) := by decide +kernel
theorem dX6_kept_3 : decode cX6_kept 3 = .ok (.iload_n 3, 1) := by decide +kernel
theorem dX6_kept_4 : decode cX6_kept 4 = .ok (.iload 4, 2) := by decide +kernel
theorem dX6_kept_6 : decode cX6_kept 6 = .ok (.invokevirtual 180, 3) := by decide +kernel
theorem dX6_kept_9 : decode cX6_kept 9 = .ok (.ifCond .ne 6, 3) := by decide +kernel
theorem dX6_kept_12 : decode cX6_kept 12 = .ok (.bipush (-101), 2) := by decide +kernel
theorem dX6_kept_14 : decode cX6_kept 14 = .ok (.ireturn, 1) := by decide +kernel
theorem dX6_kept_15 : decode cX6_kept 15 = .ok (.iconst 0, 1) := by decide +kernel
theorem dX6_kept_16 : decode cX6_kept 16 = .ok (.istore 5, 2) := by decide +kernel
theorem dX6_kept_18 : decode cX6_kept 18 = .ok (.iconst 0, 1) := by decide +kernel
theorem dX6_kept_19 : decode cX6_kept 19 = .ok (.istore 6, 2) := by decide +kernel
theorem dX6_kept_21 : decode cX6_kept 21 = .ok (.iload 6, 2) := by decide +kernel
theorem dX6_kept_23 : decode cX6_kept 23 = .ok (.aload_n 0, 1) := by decide +kernel
theorem dX6_kept_24 : decode cX6_kept 24 = .ok (.getfield 79, 3) := by decide +kernel
theorem dX6_kept_27 : decode cX6_kept 27 = .ok (.iload_n 1, 1) := by decide +kernel
theorem dX6_kept_28 : decode cX6_kept 28 = .ok (.iaload, 1) := by decide +kernel
theorem dX6_kept_29 : decode cX6_kept 29 = .ok (.if_icmp .ge 42, 3) := by decide +kernel
theorem dX6_kept_32 : decode cX6_kept 32 = .ok (.iload 5, 2) := by decide +kernel
theorem dX6_kept_34 : decode cX6_kept 34 = .ok (.aload_n 0, 1) := by decide +kernel
theorem dX6_kept_35 : decode cX6_kept 35 = .ok (.getfield 82, 3) := by decide +kernel
theorem dX6_kept_38 : decode cX6_kept 38 = .ok (.sipush 200, 3) := by decide +kernel
theorem dX6_kept_41 : decode cX6_kept 41 = .ok (.iload_n 1, 1) := by decide +kernel
theorem dX6_kept_42 : decode cX6_kept 42 = .ok (.imul, 1) := by decide +kernel
theorem dX6_kept_43 : decode cX6_kept 43 = .ok (.iload 6, 2) := by decide +kernel
theorem dX6_kept_45 : decode cX6_kept 45 = .ok (.iadd, 1) := by decide +kernel
theorem dX6_kept_46 : decode cX6_kept 46 = .ok (.iaload, 1) := by decide +kernel
theorem dX6_kept_47 : decode cX6_kept 47 = .ok (.iload_n 2, 1) := by decide +kernel
theorem dX6_kept_48 : decode cX6_kept 48 = .ok (.iload_n 3, 1) := by decide +kernel
theorem dX6_kept_49 : decode cX6_kept 49 = .ok (.iload 4, 2) := by decide +kernel
theorem dX6_kept_51 : decode cX6_kept 51 = .ok (.invokestatic 118, 3) := by decide +kernel
theorem dX6_kept_54 : decode cX6_kept 54 = .ok (.if_icmp .ne 7, 3) := by decide +kernel
theorem dX6_kept_57 : decode cX6_kept 57 = .ok (.iconst 1, 1) := by decide +kernel
theorem dX6_kept_58 : decode cX6_kept 58 = .ok (.goto 4, 3) := by decide +kernel
theorem dX6_kept_61 : decode cX6_kept 61 = .ok (.iconst 0, 1) := by decide +kernel
theorem dX6_kept_62 : decode cX6_kept 62 = .ok (.iadd, 1) := by decide +kernel
theorem dX6_kept_63 : decode cX6_kept 63 = .ok (.istore 5, 2) := by decide +kernel
theorem dX6_kept_65 : decode cX6_kept 65 = .ok (.iinc 6 1, 3) := by decide +kernel
theorem dX6_kept_68 : decode cX6_kept 68 = .ok (.goto (-47), 3) := by decide +kernel
theorem dX6_kept_71 : decode cX6_kept 71 = .ok (.iload 5, 2) := by decide +kernel
theorem dX6_kept_73 : decode cX6_kept 73 = .ok (.ireturn, 1) := by decide +kernel
theorem dX6_keptKey_0 : decode cX6_keptKey 0 = .ok (.aload_n 0, 1) := by decide +kernel
theorem dX6_keptKey_1 : decode cX6_keptKey 1 = .ok (.iload_n 1, 1) := by decide +kernel
theorem dX6_keptKey_2 : decode cX6_keptKey 2 = .ok (.iload_n 2, 1) := by decide +kernel
theorem dX6_keptKey_3 : decode cX6_keptKey 3 = .ok (.iload_n 3, 1) := by decide +kernel
theorem dX6_keptKey_4 : decode cX6_keptKey 4 = .ok (.iload 4, 2) := by decide +kernel
theorem dX6_keptKey_6 : decode cX6_keptKey 6 = .ok (.invokevirtual 180, 3) := by decide +kernel
theorem dX6_keptKey_9 : decode cX6_keptKey 9 = .ok (.ifCond .ne 6, 3) := by decide +kernel
theorem dX6_keptKey_12 : decode cX6_keptKey 12 = .ok (.bipush (-101), 2) := by decide +kernel
theorem dX6_keptKey_14 : decode cX6_keptKey 14 = .ok (.ireturn, 1) := by decide +kernel
theorem dX6_keptKey_15 : decode cX6_keptKey 15 = .ok (.aload_n 0, 1) := by decide +kernel
theorem dX6_keptKey_16 : decode cX6_keptKey 16 = .ok (.iload_n 1, 1) := by decide +kernel
theorem dX6_keptKey_17 : decode cX6_keptKey 17 = .ok (.iload_n 2, 1) := by decide +kernel
theorem dX6_keptKey_18 : decode cX6_keptKey 18 = .ok (.iload_n 3, 1) := by decide +kernel
theorem dX6_keptKey_19 : decode cX6_keptKey 19 = .ok (.iload 4, 2) := by decide +kernel
theorem dX6_keptKey_21 : decode cX6_keptKey 21 = .ok (.invokestatic 118, 3) := by decide +kernel
theorem dX6_keptKey_24 : decode cX6_keptKey 24 = .ok (.iload 5, 2) := by decide +kernel
theorem dX6_keptKey_26 : decode cX6_keptKey 26 = .ok (.invokevirtual 184, 3) := by decide +kernel
theorem dX6_keptKey_29 : decode cX6_keptKey 29 = .ok (.istore 6, 2) := by decide +kernel
theorem dX6_keptKey_31 : decode cX6_keptKey 31 = .ok (.iload 6, 2) := by decide +kernel
theorem dX6_keptKey_33 : decode cX6_keptKey 33 = .ok (.iconst (-1), 1) := by decide +kernel
theorem dX6_keptKey_34 : decode cX6_keptKey 34 = .ok (.if_icmp .ne 7, 3) := by decide +kernel
theorem dX6_keptKey_37 : decode cX6_keptKey 37 = .ok (.iconst (-1), 1) := by decide +kernel
theorem dX6_keptKey_38 : decode cX6_keptKey 38 = .ok (.goto 10, 3) := by decide +kernel
theorem dX6_keptKey_41 : decode cX6_keptKey 41 = .ok (.aload_n 0, 1) := by decide +kernel
theorem dX6_keptKey_42 : decode cX6_keptKey 42 = .ok (.getfield 20, 3) := by decide +kernel
theorem dX6_keptKey_45 : decode cX6_keptKey 45 = .ok (.iload 6, 2) := by decide +kernel
theorem dX6_keptKey_47 : decode cX6_keptKey 47 = .ok (.iaload, 1) := by decide +kernel
theorem dX6_keptKey_48 : decode cX6_keptKey 48 = .ok (.ireturn, 1) := by decide +kernel
theorem dX6_keptValue_0 : decode cX6_keptValue 0 = .ok (.aload_n 0, 1) := by decide +kernel
theorem dX6_keptValue_1 : decode cX6_keptValue 1 = .ok (.iload_n 1, 1) := by decide +kernel
theorem dX6_keptValue_2 : decode cX6_keptValue 2 = .ok (.iload_n 2, 1) := by decide +kernel
theorem dX6_keptValue_3 : decode cX6_keptValue 3 = .ok (.iload_n 3, 1) := by decide +kernel
theorem dX6_keptValue_4 : decode cX6_keptValue 4 = .ok (.iload 4, 2) := by decide +kernel
theorem dX6_keptValue_6 : decode cX6_keptValue 6 = .ok (.invokevirtual 180, 3) := by decide +kernel
theorem dX6_keptValue_9 : decode cX6_keptValue 9 = .ok (.ifCond .eq 20, 3) := by decide +kernel
theorem dX6_keptValue_12 : decode cX6_keptValue 12 = .ok (.aload_n 0, 1) := by decide +kernel
theorem dX6_keptValue_13 : decode cX6_keptValue 13 = .ok (.iload_n 1, 1) := by decide +kernel
theorem dX6_keptValue_14 : decode cX6_keptValue 14 = .ok (.iload_n 2, 1) := by decide +kernel
theorem dX6_keptValue_15 : decode cX6_keptValue 15 = .ok (.iload_n 3, 1) := by decide +kernel
theorem dX6_keptValue_16 : decode cX6_keptValue 16 = .ok (.iload 4, 2) := by decide +kernel
theorem dX6_keptValue_18 : decode cX6_keptValue 18 = .ok (.invokestatic 118, 3) := by decide +kernel
theorem dX6_keptValue_21 : decode cX6_keptValue 21 = .ok (.iload 5, 2) := by decide +kernel
theorem dX6_keptValue_23 : decode cX6_keptValue 23 = .ok (.invokevirtual 184, 3) := by decide +kernel
theorem dX6_keptValue_26 : decode cX6_keptValue 26 = .ok (.goto 4, 3) := by decide +kernel
theorem dX6_keptValue_29 : decode cX6_keptValue 29 = .ok (.iconst (-1), 1) := by decide +kernel
theorem dX6_keptValue_30 : decode cX6_keptValue 30 = .ok (.istore 6, 2) := by decide +kernel
theorem dX6_keptValue_32 : decode cX6_keptValue 32 = .ok (.iload 6, 2) := by decide +kernel
theorem dX6_keptValue_34 : decode cX6_keptValue 34 = .ok (.iconst (-1), 1) := by decide +kernel
theorem dX6_keptValue_35 : decode cX6_keptValue 35 = .ok (.if_icmp .ne 7, 3) := by decide +kernel
theorem dX6_keptValue_38 : decode cX6_keptValue 38 = .ok (.lconst 0, 1) := by decide +kernel
theorem dX6_keptValue_39 : decode cX6_keptValue 39 = .ok (.goto 10, 3) := by decide +kernel
theorem dX6_keptValue_42 : decode cX6_keptValue 42 = .ok (.aload_n 0, 1) := by decide +kernel
theorem dX6_keptValue_43 : decode cX6_keptValue 43 = .ok (.getfield 23, 3) := by decide +kernel
theorem dX6_keptValue_46 : decode cX6_keptValue 46 = .ok (.iload 6, 2) := by decide +kernel
theorem dX6_keptValue_48 : decode cX6_keptValue 48 = .ok (.laload, 1) := by decide +kernel
theorem dX6_keptValue_49 : decode cX6_keptValue 49 = .ok (.lreturn, 1) := by decide +kernel
theorem dX6_wrongNow_0 : decode cX6_wrongNow 0 = .ok (.iconst 0, 1) := by decide +kernel
theorem dX6_wrongNow_1 : decode cX6_wrongNow 1 = .ok (.istore_n 1, 1) := by decide +kernel
theorem dX6_wrongNow_2 : decode cX6_wrongNow 2 = .ok (.iconst 0, 1) := by decide +kernel
theorem dX6_wrongNow_3 : decode cX6_wrongNow 3 = .ok (.istore_n 2, 1) := by decide +kernel
theorem dX6_wrongNow_4 : decode cX6_wrongNow 4 = .ok (.iload_n 2, 1) := by decide +kernel
theorem dX6_wrongNow_5 : decode cX6_wrongNow 5 = .ok (.iconst 1, 1) := by decide +kernel
theorem dX6_wrongNow_6 : decode cX6_wrongNow 6 = .ok (.iadd, 1) := by decide +kernel
theorem dX6_wrongNow_7 : decode cX6_wrongNow 7 = .ok (.aload_n 0, 1) := by decide +kernel
theorem dX6_wrongNow_8 : decode cX6_wrongNow 8 = .ok (.getfield 91, 3) := by decide +kernel
theorem dX6_wrongNow_11 : decode cX6_wrongNow 11 = .ok (.if_icmp .ge 259, 3) := by decide +kernel
theorem dX6_wrongNow_14 : decode cX6_wrongNow 14 = .ok (.iconst 0, 1) := by decide +kernel
theorem dX6_wrongNow_15 : decode cX6_wrongNow 15 = .ok (.istore_n 3, 1) := by decide +kernel
theorem dX6_wrongNow_16 : decode cX6_wrongNow 16 = .ok (.iload_n 3, 1) := by decide +kernel
theorem dX6_wrongNow_17 : decode cX6_wrongNow 17 = .ok (.bipush 16, 2) := by decide +kernel
theorem dX6_wrongNow_19 : decode cX6_wrongNow 19 = .ok (.if_icmp .ge 245, 3) := by decide +kernel
theorem dX6_wrongNow_22 : decode cX6_wrongNow 22 = .ok (.aload_n 0, 1) := by decide +kernel
theorem dX6_wrongNow_23 : decode cX6_wrongNow 23 = .ok (.getfield 27, 3) := by decide +kernel
theorem dX6_wrongNow_26 : decode cX6_wrongNow 26 = .ok (.bipush 16, 2) := by decide +kernel
theorem dX6_wrongNow_28 : decode cX6_wrongNow 28 = .ok (.iload_n 2, 1) := by decide +kernel
theorem dX6_wrongNow_29 : decode cX6_wrongNow 29 = .ok (.imul, 1) := by decide +kernel
theorem dX6_wrongNow_30 : decode cX6_wrongNow 30 = .ok (.bipush 16, 2) := by decide +kernel
theorem dX6_wrongNow_32 : decode cX6_wrongNow 32 = .ok (.iadd, 1) := by decide +kernel
theorem dX6_wrongNow_33 : decode cX6_wrongNow 33 = .ok (.iload_n 3, 1) := by decide +kernel
theorem dX6_wrongNow_34 : decode cX6_wrongNow 34 = .ok (.iadd, 1) := by decide +kernel
theorem dX6_wrongNow_35 : decode cX6_wrongNow 35 = .ok (.iaload, 1) := by decide +kernel
theorem dX6_wrongNow_36 : decode cX6_wrongNow 36 = .ok (.istore 4, 2) := by decide +kernel
theorem dX6_wrongNow_38 : decode cX6_wrongNow 38 = .ok (.aload_n 0, 1) := by decide +kernel
theorem dX6_wrongNow_39 : decode cX6_wrongNow 39 = .ok (.getfield 30, 3) := by decide +kernel
theorem dX6_wrongNow_42 : decode cX6_wrongNow 42 = .ok (.bipush 16, 2) := by decide +kernel
theorem dX6_wrongNow_44 : decode cX6_wrongNow 44 = .ok (.iload_n 2, 1) := by decide +kernel
theorem dX6_wrongNow_45 : decode cX6_wrongNow 45 = .ok (.imul, 1) := by decide +kernel
theorem dX6_wrongNow_46 : decode cX6_wrongNow 46 = .ok (.bipush 16, 2) := by decide +kernel
theorem dX6_wrongNow_48 : decode cX6_wrongNow 48 = .ok (.iadd, 1) := by decide +kernel
theorem dX6_wrongNow_49 : decode cX6_wrongNow 49 = .ok (.iload_n 3, 1) := by decide +kernel
theorem dX6_wrongNow_50 : decode cX6_wrongNow 50 = .ok (.iadd, 1) := by decide +kernel
theorem dX6_wrongNow_51 : decode cX6_wrongNow 51 = .ok (.laload, 1) := by decide +kernel
theorem dX6_wrongNow_52 : decode cX6_wrongNow 52 = .ok (.lstore 5, 2) := by decide +kernel
theorem dX6_wrongNow_54 : decode cX6_wrongNow 54 = .ok (.bipush 16, 2) := by decide +kernel
theorem dX6_wrongNow_56 : decode cX6_wrongNow 56 = .ok (.iload_n 2, 1) := by decide +kernel
theorem dX6_wrongNow_57 : decode cX6_wrongNow 57 = .ok (.imul, 1) := by decide +kernel
theorem dX6_wrongNow_58 : decode cX6_wrongNow 58 = .ok (.istore 7, 2) := by decide +kernel
theorem dX6_wrongNow_60 : decode cX6_wrongNow 60 = .ok (.iload 7, 2) := by decide +kernel
theorem dX6_wrongNow_62 : decode cX6_wrongNow 62 = .ok (.bipush 16, 2) := by decide +kernel
theorem dX6_wrongNow_64 : decode cX6_wrongNow 64 = .ok (.iload_n 2, 1) := by decide +kernel
theorem dX6_wrongNow_65 : decode cX6_wrongNow 65 = .ok (.imul, 1) := by decide +kernel
theorem dX6_wrongNow_66 : decode cX6_wrongNow 66 = .ok (.bipush 16, 2) := by decide +kernel
theorem dX6_wrongNow_68 : decode cX6_wrongNow 68 = .ok (.iadd, 1) := by decide +kernel
theorem dX6_wrongNow_69 : decode cX6_wrongNow 69 = .ok (.if_icmp .ge 148, 3) := by decide +kernel
theorem dX6_wrongNow_72 : decode cX6_wrongNow 72 = .ok (.iconst 0, 1) := by decide +kernel
theorem dX6_wrongNow_73 : decode cX6_wrongNow 73 = .ok (.istore 8, 2) := by decide +kernel
theorem dX6_wrongNow_75 : decode cX6_wrongNow 75 = .ok (.iload 8, 2) := by decide +kernel
theorem dX6_wrongNow_77 : decode cX6_wrongNow 77 = .ok (.aload_n 0, 1) := by decide +kernel
theorem dX6_wrongNow_78 : decode cX6_wrongNow 78 = .ok (.getfield 36, 3) := by decide +kernel
theorem dX6_wrongNow_81 : decode cX6_wrongNow 81 = .ok (.iload 7, 2) := by decide +kernel
theorem dX6_wrongNow_83 : decode cX6_wrongNow 83 = .ok (.iaload, 1) := by decide +kernel
theorem dX6_wrongNow_84 : decode cX6_wrongNow 84 = .ok (.if_icmp .ge 127, 3) := by decide +kernel
theorem dX6_wrongNow_87 : decode cX6_wrongNow 87 = .ok (.aload_n 0, 1) := by decide +kernel
theorem dX6_wrongNow_88 : decode cX6_wrongNow 88 = .ok (.getfield 20, 3) := by decide +kernel
theorem dX6_wrongNow_91 : decode cX6_wrongNow 91 = .ok (.aload_n 0, 1) := by decide +kernel
theorem dX6_wrongNow_92 : decode cX6_wrongNow 92 = .ok (.getfield 33, 3) := by decide +kernel
theorem dX6_wrongNow_95 : decode cX6_wrongNow 95 = .ok (.sipush 200, 3) := by decide +kernel
theorem dX6_wrongNow_98 : decode cX6_wrongNow 98 = .ok (.iload 7, 2) := by decide +kernel
theorem dX6_wrongNow_100 : decode cX6_wrongNow 100 = .ok (.imul, 1) := by decide +kernel
theorem dX6_wrongNow_101 : decode cX6_wrongNow 101 = .ok (.iload 8, 2) := by decide +kernel
theorem dX6_wrongNow_103 : decode cX6_wrongNow 103 = .ok (.iadd, 1) := by decide +kernel
theorem dX6_wrongNow_104 : decode cX6_wrongNow 104 = .ok (.iaload, 1) := by decide +kernel
theorem dX6_wrongNow_105 : decode cX6_wrongNow 105 = .ok (.iaload, 1) := by decide +kernel
theorem dX6_wrongNow_106 : decode cX6_wrongNow 106 = .ok (.iload_n 3, 1) := by decide +kernel
theorem dX6_wrongNow_107 : decode cX6_wrongNow 107 = .ok (.if_icmp .ne 7, 3) := by decide +kernel
theorem dX6_wrongNow_110 : decode cX6_wrongNow 110 = .ok (.iconst 1, 1) := by decide +kernel
theorem dX6_wrongNow_111 : decode cX6_wrongNow 111 = .ok (.goto 4, 3) := by decide +kernel
theorem dX6_wrongNow_114 : decode cX6_wrongNow 114 = .ok (.iconst 0, 1) := by decide +kernel
theorem dX6_wrongNow_115 : decode cX6_wrongNow 115 = .ok (.istore 9, 2) := by decide +kernel
theorem dX6_wrongNow_117 : decode cX6_wrongNow 117 = .ok (.iload 4, 2) := by decide +kernel
theorem dX6_wrongNow_119 : decode cX6_wrongNow 119 = .ok (.iload 9, 2) := by decide +kernel
theorem dX6_wrongNow_121 : decode cX6_wrongNow 121 = .ok (.ifCond .eq 7, 3) := by decide +kernel
theorem dX6_wrongNow_124 : decode cX6_wrongNow 124 = .ok (.iconst 1, 1) := by decide +kernel
theorem dX6_wrongNow_125 : decode cX6_wrongNow 125 = .ok (.goto 4, 3) := by decide +kernel
theorem dX6_wrongNow_128 : decode cX6_wrongNow 128 = .ok (.iconst 0, 1) := by decide +kernel
theorem dX6_wrongNow_129 : decode cX6_wrongNow 129 = .ok (.iadd, 1) := by decide +kernel
theorem dX6_wrongNow_130 : decode cX6_wrongNow 130 = .ok (.istore 4, 2) := by decide +kernel
theorem dX6_wrongNow_132 : decode cX6_wrongNow 132 = .ok (.lload 5, 2) := by decide +kernel
theorem dX6_wrongNow_134 : decode cX6_wrongNow 134 = .ok (.iload 9, 2) := by decide +kernel
theorem dX6_wrongNow_136 : decode cX6_wrongNow 136 = .ok (.ifCond .eq 25, 3) := by decide +kernel
theorem dX6_wrongNow_139 : decode cX6_wrongNow 139 = .ok (.aload_n 0, 1) := by decide +kernel
theorem dX6_wrongNow_140 : decode cX6_wrongNow 140 = .ok (.getfield 23, 3) := by decide +kernel
theorem dX6_wrongNow_143 : decode cX6_wrongNow 143 = .ok (.aload_n 0, 1) := by decide +kernel
theorem dX6_wrongNow_144 : decode cX6_wrongNow 144 = .ok (.getfield 33, 3) := by decide +kernel
theorem dX6_wrongNow_147 : decode cX6_wrongNow 147 = .ok (.sipush 200, 3) := by decide +kernel
theorem dX6_wrongNow_150 : decode cX6_wrongNow 150 = .ok (.iload 7, 2) := by decide +kernel
theorem dX6_wrongNow_152 : decode cX6_wrongNow 152 = .ok (.imul, 1) := by decide +kernel
theorem dX6_wrongNow_153 : decode cX6_wrongNow 153 = .ok (.iload 8, 2) := by decide +kernel
theorem dX6_wrongNow_155 : decode cX6_wrongNow 155 = .ok (.iadd, 1) := by decide +kernel
theorem dX6_wrongNow_156 : decode cX6_wrongNow 156 = .ok (.iaload, 1) := by decide +kernel
theorem dX6_wrongNow_157 : decode cX6_wrongNow 157 = .ok (.laload, 1) := by decide +kernel
theorem dX6_wrongNow_158 : decode cX6_wrongNow 158 = .ok (.goto 4, 3) := by decide +kernel
theorem dX6_wrongNow_161 : decode cX6_wrongNow 161 = .ok (.lconst 0, 1) := by decide +kernel
theorem dX6_wrongNow_162 : decode cX6_wrongNow 162 = .ok (.ladd, 1) := by decide +kernel
theorem dX6_wrongNow_163 : decode cX6_wrongNow 163 = .ok (.lstore 5, 2) := by decide +kernel
theorem dX6_wrongNow_165 : decode cX6_wrongNow 165 = .ok (.iload_n 1, 1) := by decide +kernel
theorem dX6_wrongNow_166 : decode cX6_wrongNow 166 = .ok (.iload 9, 2) := by decide +kernel
theorem dX6_wrongNow_168 : decode cX6_wrongNow 168 = .ok (.ifCond .eq 34, 3) := by decide +kernel
theorem dX6_wrongNow_171 : decode cX6_wrongNow 171 = .ok (.iload 7, 2) := by decide +kernel
theorem dX6_wrongNow_173 : decode cX6_wrongNow 173 = .ok (.iload_n 2, 1) := by decide +kernel
theorem dX6_wrongNow_174 : decode cX6_wrongNow 174 = .ok (.iload_n 3, 1) := by decide +kernel
theorem dX6_wrongNow_175 : decode cX6_wrongNow 175 = .ok (.aload_n 0, 1) := by decide +kernel
theorem dX6_wrongNow_176 : decode cX6_wrongNow 176 = .ok (.getfield 7, 3) := by decide +kernel
theorem dX6_wrongNow_179 : decode cX6_wrongNow 179 = .ok (.iload_n 2, 1) := by decide +kernel
theorem dX6_wrongNow_180 : decode cX6_wrongNow 180 = .ok (.iaload, 1) := by decide +kernel
theorem dX6_wrongNow_181 : decode cX6_wrongNow 181 = .ok (.irem, 1) := by decide +kernel
theorem dX6_wrongNow_182 : decode cX6_wrongNow 182 = .ok (.iload_n 3, 1) := by decide +kernel
theorem dX6_wrongNow_183 : decode cX6_wrongNow 183 = .ok (.aload_n 0, 1) := by decide +kernel
theorem dX6_wrongNow_184 : decode cX6_wrongNow 184 = .ok (.getfield 7, 3) := by decide +kernel
theorem dX6_wrongNow_187 : decode cX6_wrongNow 187 = .ok (.iload_n 2, 1) := by decide +kernel
theorem dX6_wrongNow_188 : decode cX6_wrongNow 188 = .ok (.iconst 1, 1) := by decide +kernel
theorem dX6_wrongNow_189 : decode cX6_wrongNow 189 = .ok (.iadd, 1) := by decide +kernel
theorem dX6_wrongNow_190 : decode cX6_wrongNow 190 = .ok (.iaload, 1) := by decide +kernel
theorem dX6_wrongNow_191 : decode cX6_wrongNow 191 = .ok (.irem, 1) := by decide +kernel
theorem dX6_wrongNow_192 : decode cX6_wrongNow 192 = .ok (.invokestatic 118, 3) := by decide +kernel
theorem dX6_wrongNow_195 : decode cX6_wrongNow 195 = .ok (.if_icmp .eq 7, 3) := by decide +kernel
theorem dX6_wrongNow_198 : decode cX6_wrongNow 198 = .ok (.iconst 1, 1) := by decide +kernel
theorem dX6_wrongNow_199 : decode cX6_wrongNow 199 = .ok (.goto 4, 3) := by decide +kernel
theorem dX6_wrongNow_202 : decode cX6_wrongNow 202 = .ok (.iconst 0, 1) := by decide +kernel
theorem dX6_wrongNow_203 : decode cX6_wrongNow 203 = .ok (.iadd, 1) := by decide +kernel
theorem dX6_wrongNow_204 : decode cX6_wrongNow 204 = .ok (.istore_n 1, 1) := by decide +kernel
theorem dX6_wrongNow_205 : decode cX6_wrongNow 205 = .ok (.iinc 8 1, 3) := by decide +kernel
theorem dX6_wrongNow_208 : decode cX6_wrongNow 208 = .ok (.goto (-133), 3) := by decide +kernel
theorem dX6_wrongNow_211 : decode cX6_wrongNow 211 = .ok (.iinc 7 1, 3) := by decide +kernel
theorem dX6_wrongNow_214 : decode cX6_wrongNow 214 = .ok (.goto (-154), 3) := by decide +kernel
theorem dX6_wrongNow_217 : decode cX6_wrongNow 217 = .ok (.iload_n 1, 1) := by decide +kernel
theorem dX6_wrongNow_218 : decode cX6_wrongNow 218 = .ok (.iload 4, 2) := by decide +kernel
theorem dX6_wrongNow_220 : decode cX6_wrongNow 220 = .ok (.aload_n 0, 1) := by decide +kernel
theorem dX6_wrongNow_221 : decode cX6_wrongNow 221 = .ok (.getfield 27, 3) := by decide +kernel
theorem dX6_wrongNow_224 : decode cX6_wrongNow 224 = .ok (.bipush 16, 2) := by decide +kernel
theorem dX6_wrongNow_226 : decode cX6_wrongNow 226 = .ok (.iload_n 2, 1) := by decide +kernel
theorem dX6_wrongNow_227 : decode cX6_wrongNow 227 = .ok (.imul, 1) := by decide +kernel
theorem dX6_wrongNow_228 : decode cX6_wrongNow 228 = .ok (.iload_n 3, 1) := by decide +kernel
theorem dX6_wrongNow_229 : decode cX6_wrongNow 229 = .ok (.iadd, 1) := by decide +kernel
theorem dX6_wrongNow_230 : decode cX6_wrongNow 230 = .ok (.iaload, 1) := by decide +kernel
theorem dX6_wrongNow_231 : decode cX6_wrongNow 231 = .ok (.if_icmp .ne 20, 3) := by decide +kernel
theorem dX6_wrongNow_234 : decode cX6_wrongNow 234 = .ok (.lload 5, 2) := by decide +kernel
theorem dX6_wrongNow_236 : decode cX6_wrongNow 236 = .ok (.aload_n 0, 1) := by decide +kernel
theorem dX6_wrongNow_237 : decode cX6_wrongNow 237 = .ok (.getfield 30, 3) := by decide +kernel
theorem dX6_wrongNow_240 : decode cX6_wrongNow 240 = .ok (.bipush 16, 2) := by decide +kernel
theorem dX6_wrongNow_242 : decode cX6_wrongNow 242 = .ok (.iload_n 2, 1) := by decide +kernel
theorem dX6_wrongNow_243 : decode cX6_wrongNow 243 = .ok (.imul, 1) := by decide +kernel
theorem dX6_wrongNow_244 : decode cX6_wrongNow 244 = .ok (.iload_n 3, 1) := by decide +kernel
theorem dX6_wrongNow_245 : decode cX6_wrongNow 245 = .ok (.iadd, 1) := by decide +kernel
theorem dX6_wrongNow_246 : decode cX6_wrongNow 246 = .ok (.laload, 1) := by decide +kernel
theorem dX6_wrongNow_247 : decode cX6_wrongNow 247 = .ok (.lcmp, 1) := by decide +kernel
theorem dX6_wrongNow_248 : decode cX6_wrongNow 248 = .ok (.ifCond .eq 7, 3) := by decide +kernel
theorem dX6_wrongNow_251 : decode cX6_wrongNow 251 = .ok (.iconst 1, 1) := by decide +kernel
theorem dX6_wrongNow_252 : decode cX6_wrongNow 252 = .ok (.goto 4, 3) := by decide +kernel
theorem dX6_wrongNow_255 : decode cX6_wrongNow 255 = .ok (.iconst 0, 1) := by decide +kernel
theorem dX6_wrongNow_256 : decode cX6_wrongNow 256 = .ok (.iadd, 1) := by decide +kernel
theorem dX6_wrongNow_257 : decode cX6_wrongNow 257 = .ok (.istore_n 1, 1) := by decide +kernel
theorem dX6_wrongNow_258 : decode cX6_wrongNow 258 = .ok (.iinc 3 1, 3) := by decide +kernel
theorem dX6_wrongNow_261 : decode cX6_wrongNow 261 = .ok (.goto (-245), 3) := by decide +kernel
theorem dX6_wrongNow_264 : decode cX6_wrongNow 264 = .ok (.iinc 2 1, 3) := by decide +kernel
theorem dX6_wrongNow_267 : decode cX6_wrongNow 267 = .ok (.goto (-263), 3) := by decide +kernel
theorem dX6_wrongNow_270 : decode cX6_wrongNow 270 = .ok (.iload_n 1, 1) := by decide +kernel
theorem dX6_wrongNow_271 : decode cX6_wrongNow 271 = .ok (.ireturn, 1) := by decide +kernel
theorem dX6_wrongIn_0 : decode cX6_wrongIn 0 = .ok (.iconst 0, 1) := by decide +kernel
theorem dX6_wrongIn_1 : decode cX6_wrongIn 1 = .ok (.istore_n 2, 1) := by decide +kernel
theorem dX6_wrongIn_2 : decode cX6_wrongIn 2 = .ok (.iconst 0, 1) := by decide +kernel
theorem dX6_wrongIn_3 : decode cX6_wrongIn 3 = .ok (.istore_n 3, 1) := by decide +kernel
theorem dX6_wrongIn_4 : decode cX6_wrongIn 4 = .ok (.iload_n 3, 1) := by decide +kernel
theorem dX6_wrongIn_5 : decode cX6_wrongIn 5 = .ok (.iconst 1, 1) := by decide +kernel
theorem dX6_wrongIn_6 : decode cX6_wrongIn 6 = .ok (.iadd, 1) := by decide +kernel
theorem dX6_wrongIn_7 : decode cX6_wrongIn 7 = .ok (.aload_n 0, 1) := by decide +kernel
theorem dX6_wrongIn_8 : decode cX6_wrongIn 8 = .ok (.getfield 91, 3) := by decide +kernel
theorem dX6_wrongIn_11 : decode cX6_wrongIn 11 = .ok (.if_icmp .ge 239, 3) := by decide +kernel
theorem dX6_wrongIn_14 : decode cX6_wrongIn 14 = .ok (.iconst 0, 1) := by decide +kernel
theorem dX6_wrongIn_15 : decode cX6_wrongIn 15 = .ok (.istore 4, 2) := by decide +kernel
theorem dX6_wrongIn_17 : decode cX6_wrongIn 17 = .ok (.iload 4, 2) := by decide +kernel
theorem dX6_wrongIn_19 : decode cX6_wrongIn 19 = .ok (.bipush 16, 2) := by decide +kernel
theorem dX6_wrongIn_21 : decode cX6_wrongIn 21 = .ok (.if_icmp .ge 223, 3) := by decide +kernel
theorem dX6_wrongIn_24 : decode cX6_wrongIn 24 = .ok (.aload_n 0, 1) := by decide +kernel
theorem dX6_wrongIn_25 : decode cX6_wrongIn 25 = .ok (.getfield 73, 3) := by decide +kernel
theorem dX6_wrongIn_28 : decode cX6_wrongIn 28 = .ok (.bipush 64, 2) := by decide +kernel
theorem dX6_wrongIn_30 : decode cX6_wrongIn 30 = .ok (.iload_n 1, 1) := by decide +kernel
theorem dX6_wrongIn_31 : decode cX6_wrongIn 31 = .ok (.imul, 1) := by decide +kernel
theorem dX6_wrongIn_32 : decode cX6_wrongIn 32 = .ok (.bipush 16, 2) := by decide +kernel
theorem dX6_wrongIn_34 : decode cX6_wrongIn 34 = .ok (.iload_n 3, 1) := by decide +kernel
theorem dX6_wrongIn_35 : decode cX6_wrongIn 35 = .ok (.imul, 1) := by decide +kernel
theorem dX6_wrongIn_36 : decode cX6_wrongIn 36 = .ok (.iadd, 1) := by decide +kernel
theorem dX6_wrongIn_37 : decode cX6_wrongIn 37 = .ok (.bipush 16, 2) := by decide +kernel
theorem dX6_wrongIn_39 : decode cX6_wrongIn 39 = .ok (.iadd, 1) := by decide +kernel
theorem dX6_wrongIn_40 : decode cX6_wrongIn 40 = .ok (.iload 4, 2) := by decide +kernel
theorem dX6_wrongIn_42 : decode cX6_wrongIn 42 = .ok (.iadd, 1) := by decide +kernel
theorem dX6_wrongIn_43 : decode cX6_wrongIn 43 = .ok (.iaload, 1) := by decide +kernel
theorem dX6_wrongIn_44 : decode cX6_wrongIn 44 = .ok (.istore 5, 2) := by decide +kernel
theorem dX6_wrongIn_46 : decode cX6_wrongIn 46 = .ok (.aload_n 0, 1) := by decide +kernel
theorem dX6_wrongIn_47 : decode cX6_wrongIn 47 = .ok (.getfield 76, 3) := by decide +kernel
theorem dX6_wrongIn_50 : decode cX6_wrongIn 50 = .ok (.bipush 64, 2) := by decide +kernel
theorem dX6_wrongIn_52 : decode cX6_wrongIn 52 = .ok (.iload_n 1, 1) := by decide +kernel
theorem dX6_wrongIn_53 : decode cX6_wrongIn 53 = .ok (.imul, 1) := by decide +kernel
theorem dX6_wrongIn_54 : decode cX6_wrongIn 54 = .ok (.bipush 16, 2) := by decide +kernel
theorem dX6_wrongIn_56 : decode cX6_wrongIn 56 = .ok (.iload_n 3, 1) := by decide +kernel
theorem dX6_wrongIn_57 : decode cX6_wrongIn 57 = .ok (.imul, 1) := by decide +kernel
theorem dX6_wrongIn_58 : decode cX6_wrongIn 58 = .ok (.iadd, 1) := by decide +kernel
theorem dX6_wrongIn_59 : decode cX6_wrongIn 59 = .ok (.bipush 16, 2) := by decide +kernel
theorem dX6_wrongIn_61 : decode cX6_wrongIn 61 = .ok (.iadd, 1) := by decide +kernel
theorem dX6_wrongIn_62 : decode cX6_wrongIn 62 = .ok (.iload 4, 2) := by decide +kernel
theorem dX6_wrongIn_64 : decode cX6_wrongIn 64 = .ok (.iadd, 1) := by decide +kernel
theorem dX6_wrongIn_65 : decode cX6_wrongIn 65 = .ok (.laload, 1) := by decide +kernel
theorem dX6_wrongIn_66 : decode cX6_wrongIn 66 = .ok (.lstore 6, 2) := by decide +kernel
theorem dX6_wrongIn_68 : decode cX6_wrongIn 68 = .ok (.iconst 0, 1) := by decide +kernel
theorem dX6_wrongIn_69 : decode cX6_wrongIn 69 = .ok (.istore 8, 2) := by decide +kernel
theorem dX6_wrongIn_71 : decode cX6_wrongIn 71 = .ok (.iload 8, 2) := by decide +kernel
theorem dX6_wrongIn_73 : decode cX6_wrongIn 73 = .ok (.aload_n 0, 1) := by decide +kernel
theorem dX6_wrongIn_74 : decode cX6_wrongIn 74 = .ok (.getfield 79, 3) := by decide +kernel
theorem dX6_wrongIn_77 : decode cX6_wrongIn 77 = .ok (.iload_n 1, 1) := by decide +kernel
theorem dX6_wrongIn_78 : decode cX6_wrongIn 78 = .ok (.iaload, 1) := by decide +kernel
theorem dX6_wrongIn_79 : decode cX6_wrongIn 79 = .ok (.if_icmp .ge 106, 3) := by decide +kernel
theorem dX6_wrongIn_82 : decode cX6_wrongIn 82 = .ok (.aload_n 0, 1) := by decide +kernel
theorem dX6_wrongIn_83 : decode cX6_wrongIn 83 = .ok (.getfield 82, 3) := by decide +kernel
theorem dX6_wrongIn_86 : decode cX6_wrongIn 86 = .ok (.sipush 200, 3) := by decide +kernel
theorem dX6_wrongIn_89 : decode cX6_wrongIn 89 = .ok (.iload_n 1, 1) := by decide +kernel
theorem dX6_wrongIn_90 : decode cX6_wrongIn 90 = .ok (.imul, 1) := by decide +kernel
theorem dX6_wrongIn_91 : decode cX6_wrongIn 91 = .ok (.iload 8, 2) := by decide +kernel
theorem dX6_wrongIn_93 : decode cX6_wrongIn 93 = .ok (.iadd, 1) := by decide +kernel
theorem dX6_wrongIn_94 : decode cX6_wrongIn 94 = .ok (.iaload, 1) := by decide +kernel
theorem dX6_wrongIn_95 : decode cX6_wrongIn 95 = .ok (.bipush 16, 2) := by decide +kernel
theorem dX6_wrongIn_97 : decode cX6_wrongIn 97 = .ok (.idiv, 1) := by decide +kernel
theorem dX6_wrongIn_98 : decode cX6_wrongIn 98 = .ok (.iload_n 3, 1) := by decide +kernel
theorem dX6_wrongIn_99 : decode cX6_wrongIn 99 = .ok (.if_icmp .ne 30, 3) := by decide +kernel
theorem dX6_wrongIn_102 : decode cX6_wrongIn 102 = .ok (.aload_n 0, 1) := by decide +kernel
theorem dX6_wrongIn_103 : decode cX6_wrongIn 103 = .ok (.getfield 20, 3) := by decide +kernel
theorem dX6_wrongIn_106 : decode cX6_wrongIn 106 = .ok (.aload_n 0, 1) := by decide +kernel
theorem dX6_wrongIn_107 : decode cX6_wrongIn 107 = .ok (.getfield 85, 3) := by decide +kernel
theorem dX6_wrongIn_110 : decode cX6_wrongIn 110 = .ok (.sipush 200, 3) := by decide +kernel
theorem dX6_wrongIn_113 : decode cX6_wrongIn 113 = .ok (.iload_n 1, 1) := by decide +kernel
theorem dX6_wrongIn_114 : decode cX6_wrongIn 114 = .ok (.imul, 1) := by decide +kernel
theorem dX6_wrongIn_115 : decode cX6_wrongIn 115 = .ok (.iload 8, 2) := by decide +kernel
theorem dX6_wrongIn_117 : decode cX6_wrongIn 117 = .ok (.iadd, 1) := by decide +kernel
theorem dX6_wrongIn_118 : decode cX6_wrongIn 118 = .ok (.iaload, 1) := by decide +kernel
theorem dX6_wrongIn_119 : decode cX6_wrongIn 119 = .ok (.iaload, 1) := by decide +kernel
theorem dX6_wrongIn_120 : decode cX6_wrongIn 120 = .ok (.iload 4, 2) := by decide +kernel
theorem dX6_wrongIn_122 : decode cX6_wrongIn 122 = .ok (.if_icmp .ne 7, 3) := by decide +kernel
theorem dX6_wrongIn_125 : decode cX6_wrongIn 125 = .ok (.iconst 1, 1) := by decide +kernel
theorem dX6_wrongIn_126 : decode cX6_wrongIn 126 = .ok (.goto 4, 3) := by decide +kernel
theorem dX6_wrongIn_129 : decode cX6_wrongIn 129 = .ok (.iconst 0, 1) := by decide +kernel
theorem dX6_wrongIn_130 : decode cX6_wrongIn 130 = .ok (.istore 9, 2) := by decide +kernel
theorem dX6_wrongIn_132 : decode cX6_wrongIn 132 = .ok (.iload 5, 2) := by decide +kernel
theorem dX6_wrongIn_134 : decode cX6_wrongIn 134 = .ok (.iload 9, 2) := by decide +kernel
theorem dX6_wrongIn_136 : decode cX6_wrongIn 136 = .ok (.ifCond .eq 7, 3) := by decide +kernel
theorem dX6_wrongIn_139 : decode cX6_wrongIn 139 = .ok (.iconst 1, 1) := by decide +kernel
theorem dX6_wrongIn_140 : decode cX6_wrongIn 140 = .ok (.goto 4, 3) := by decide +kernel
theorem dX6_wrongIn_143 : decode cX6_wrongIn 143 = .ok (.iconst 0, 1) := by decide +kernel
theorem dX6_wrongIn_144 : decode cX6_wrongIn 144 = .ok (.iadd, 1) := by decide +kernel
theorem dX6_wrongIn_145 : decode cX6_wrongIn 145 = .ok (.istore 5, 2) := by decide +kernel
theorem dX6_wrongIn_147 : decode cX6_wrongIn 147 = .ok (.lload 6, 2) := by decide +kernel
theorem dX6_wrongIn_149 : decode cX6_wrongIn 149 = .ok (.iload 9, 2) := by decide +kernel
theorem dX6_wrongIn_151 : decode cX6_wrongIn 151 = .ok (.ifCond .eq 24, 3) := by decide +kernel
theorem dX6_wrongIn_154 : decode cX6_wrongIn 154 = .ok (.aload_n 0, 1) := by decide +kernel
theorem dX6_wrongIn_155 : decode cX6_wrongIn 155 = .ok (.getfield 23, 3) := by decide +kernel
theorem dX6_wrongIn_158 : decode cX6_wrongIn 158 = .ok (.aload_n 0, 1) := by decide +kernel
theorem dX6_wrongIn_159 : decode cX6_wrongIn 159 = .ok (.getfield 85, 3) := by decide +kernel
theorem dX6_wrongIn_162 : decode cX6_wrongIn 162 = .ok (.sipush 200, 3) := by decide +kernel
theorem dX6_wrongIn_165 : decode cX6_wrongIn 165 = .ok (.iload_n 1, 1) := by decide +kernel
theorem dX6_wrongIn_166 : decode cX6_wrongIn 166 = .ok (.imul, 1) := by decide +kernel
theorem dX6_wrongIn_167 : decode cX6_wrongIn 167 = .ok (.iload 8, 2) := by decide +kernel
theorem dX6_wrongIn_169 : decode cX6_wrongIn 169 = .ok (.iadd, 1) := by decide +kernel
theorem dX6_wrongIn_170 : decode cX6_wrongIn 170 = .ok (.iaload, 1) := by decide +kernel
theorem dX6_wrongIn_171 : decode cX6_wrongIn 171 = .ok (.laload, 1) := by decide +kernel
theorem dX6_wrongIn_172 : decode cX6_wrongIn 172 = .ok (.goto 4, 3) := by decide +kernel
theorem dX6_wrongIn_175 : decode cX6_wrongIn 175 = .ok (.lconst 0, 1) := by decide +kernel
theorem dX6_wrongIn_176 : decode cX6_wrongIn 176 = .ok (.ladd, 1) := by decide +kernel
theorem dX6_wrongIn_177 : decode cX6_wrongIn 177 = .ok (.lstore 6, 2) := by decide +kernel
theorem dX6_wrongIn_179 : decode cX6_wrongIn 179 = .ok (.iinc 8 1, 3) := by decide +kernel
theorem dX6_wrongIn_182 : decode cX6_wrongIn 182 = .ok (.goto (-111), 3) := by decide +kernel
theorem dX6_wrongIn_185 : decode cX6_wrongIn 185 = .ok (.iload_n 2, 1) := by decide +kernel
theorem dX6_wrongIn_186 : decode cX6_wrongIn 186 = .ok (.iload 5, 2) := by decide +kernel
theorem dX6_wrongIn_188 : decode cX6_wrongIn 188 = .ok (.aload_n 0, 1) := by decide +kernel
theorem dX6_wrongIn_189 : decode cX6_wrongIn 189 = .ok (.getfield 73, 3) := by decide +kernel
theorem dX6_wrongIn_192 : decode cX6_wrongIn 192 = .ok (.bipush 64, 2) := by decide +kernel
theorem dX6_wrongIn_194 : decode cX6_wrongIn 194 = .ok (.iload_n 1, 1) := by decide +kernel
theorem dX6_wrongIn_195 : decode cX6_wrongIn 195 = .ok (.imul, 1) := by decide +kernel
theorem dX6_wrongIn_196 : decode cX6_wrongIn 196 = .ok (.bipush 16, 2) := by decide +kernel
theorem dX6_wrongIn_198 : decode cX6_wrongIn 198 = .ok (.iload_n 3, 1) := by decide +kernel
theorem dX6_wrongIn_199 : decode cX6_wrongIn 199 = .ok (.imul, 1) := by decide +kernel
theorem dX6_wrongIn_200 : decode cX6_wrongIn 200 = .ok (.iadd, 1) := by decide +kernel
theorem dX6_wrongIn_201 : decode cX6_wrongIn 201 = .ok (.iload 4, 2) := by decide +kernel
theorem dX6_wrongIn_203 : decode cX6_wrongIn 203 = .ok (.iadd, 1) := by decide +kernel
theorem dX6_wrongIn_204 : decode cX6_wrongIn 204 = .ok (.iaload, 1) := by decide +kernel
theorem dX6_wrongIn_205 : decode cX6_wrongIn 205 = .ok (.if_icmp .ne 26, 3) := by decide +kernel
theorem dX6_wrongIn_208 : decode cX6_wrongIn 208 = .ok (.lload 6, 2) := by decide +kernel
theorem dX6_wrongIn_210 : decode cX6_wrongIn 210 = .ok (.aload_n 0, 1) := by decide +kernel
theorem dX6_wrongIn_211 : decode cX6_wrongIn 211 = .ok (.getfield 76, 3) := by decide +kernel
theorem dX6_wrongIn_214 : decode cX6_wrongIn 214 = .ok (.bipush 64, 2) := by decide +kernel
theorem dX6_wrongIn_216 : decode cX6_wrongIn 216 = .ok (.iload_n 1, 1) := by decide +kernel
theorem dX6_wrongIn_217 : decode cX6_wrongIn 217 = .ok (.imul, 1) := by decide +kernel
theorem dX6_wrongIn_218 : decode cX6_wrongIn 218 = .ok (.bipush 16, 2) := by decide +kernel
theorem dX6_wrongIn_220 : decode cX6_wrongIn 220 = .ok (.iload_n 3, 1) := by decide +kernel
theorem dX6_wrongIn_221 : decode cX6_wrongIn 221 = .ok (.imul, 1) := by decide +kernel
theorem dX6_wrongIn_222 : decode cX6_wrongIn 222 = .ok (.iadd, 1) := by decide +kernel
theorem dX6_wrongIn_223 : decode cX6_wrongIn 223 = .ok (.iload 4, 2) := by decide +kernel
theorem dX6_wrongIn_225 : decode cX6_wrongIn 225 = .ok (.iadd, 1) := by decide +kernel
theorem dX6_wrongIn_226 : decode cX6_wrongIn 226 = .ok (.laload, 1) := by decide +kernel
theorem dX6_wrongIn_227 : decode cX6_wrongIn 227 = .ok (.lcmp, 1) := by decide +kernel
theorem dX6_wrongIn_228 : decode cX6_wrongIn 228 = .ok (.ifCond .eq 7, 3) := by decide +kernel
theorem dX6_wrongIn_231 : decode cX6_wrongIn 231 = .ok (.iconst 1, 1) := by decide +kernel
theorem dX6_wrongIn_232 : decode cX6_wrongIn 232 = .ok (.goto 4, 3) := by decide +kernel
theorem dX6_wrongIn_235 : decode cX6_wrongIn 235 = .ok (.iconst 0, 1) := by decide +kernel
theorem dX6_wrongIn_236 : decode cX6_wrongIn 236 = .ok (.iadd, 1) := by decide +kernel
theorem dX6_wrongIn_237 : decode cX6_wrongIn 237 = .ok (.istore_n 2, 1) := by decide +kernel
theorem dX6_wrongIn_238 : decode cX6_wrongIn 238 = .ok (.iinc 4 1, 3) := by decide +kernel
theorem dX6_wrongIn_241 : decode cX6_wrongIn 241 = .ok (.goto (-224), 3) := by decide +kernel
theorem dX6_wrongIn_244 : decode cX6_wrongIn 244 = .ok (.iinc 3 1, 3) := by decide +kernel
theorem dX6_wrongIn_247 : decode cX6_wrongIn 247 = .ok (.goto (-243), 3) := by decide +kernel
theorem dX6_wrongIn_250 : decode cX6_wrongIn 250 = .ok (.iload_n 2, 1) := by decide +kernel
theorem dX6_wrongIn_251 : decode cX6_wrongIn 251 = .ok (.ireturn, 1) := by decide +kernel
theorem dX6_wrongInput_0 : decode cX6_wrongInput 0 = .ok (.iconst 0, 1) := by decide +kernel
theorem dX6_wrongInput_1 : decode cX6_wrongInput 1 = .ok (.istore_n 1, 1) := by decide +kernel
theorem dX6_wrongInput_2 : decode cX6_wrongInput 2 = .ok (.iconst 0, 1) := by decide +kernel
theorem dX6_wrongInput_3 : decode cX6_wrongInput 3 = .ok (.istore_n 2, 1) := by decide +kernel
theorem dX6_wrongInput_4 : decode cX6_wrongInput 4 = .ok (.iload_n 2, 1) := by decide +kernel
theorem dX6_wrongInput_5 : decode cX6_wrongInput 5 = .ok (.bipush 16, 2) := by decide +kernel
theorem dX6_wrongInput_7 : decode cX6_wrongInput 7 = .ok (.if_icmp .ge 124, 3) := by decide +kernel
theorem dX6_wrongInput_10 : decode cX6_wrongInput 10 = .ok (.iconst 0, 1) := by decide +kernel
theorem dX6_wrongInput_11 : decode cX6_wrongInput 11 = .ok (.istore_n 3, 1) := by decide +kernel
theorem dX6_wrongInput_12 : decode cX6_wrongInput 12 = .ok (.lconst 0, 1) := by decide +kernel
theorem dX6_wrongInput_13 : decode cX6_wrongInput 13 = .ok (.lstore 4, 2) := by decide +kernel
theorem dX6_wrongInput_15 : decode cX6_wrongInput 15 = .ok (.iconst 0, 1) := by decide +kernel
theorem dX6_wrongInput_16 : decode cX6_wrongInput 16 = .ok (.istore 6, 2) := by decide +kernel
theorem dX6_wrongInput_18 : decode cX6_wrongInput 18 = .ok (.iload 6, 2) := by decide +kernel
theorem dX6_wrongInput_20 : decode cX6_wrongInput 20 = .ok (.aload_n 0, 1) := by decide +kernel
theorem dX6_wrongInput_21 : decode cX6_wrongInput 21 = .ok (.getfield 111, 3) := by decide +kernel
theorem dX6_wrongInput_24 : decode cX6_wrongInput 24 = .ok (.if_icmp .ge 71, 3) := by decide +kernel
theorem dX6_wrongInput_27 : decode cX6_wrongInput 27 = .ok (.aload_n 0, 1) := by decide +kernel
theorem dX6_wrongInput_28 : decode cX6_wrongInput 28 = .ok (.getfield 20, 3) := by decide +kernel
theorem dX6_wrongInput_31 : decode cX6_wrongInput 31 = .ok (.iload 6, 2) := by decide +kernel
theorem dX6_wrongInput_33 : decode cX6_wrongInput 33 = .ok (.iaload, 1) := by decide +kernel
theorem dX6_wrongInput_34 : decode cX6_wrongInput 34 = .ok (.iload_n 2, 1) := by decide +kernel
theorem dX6_wrongInput_35 : decode cX6_wrongInput 35 = .ok (.if_icmp .ne 17, 3) := by decide +kernel
theorem dX6_wrongInput_38 : decode cX6_wrongInput 38 = .ok (.iload_n 3, 1) := by decide +kernel
theorem dX6_wrongInput_39 : decode cX6_wrongInput 39 = .ok (.aload_n 0, 1) := by decide +kernel
theorem dX6_wrongInput_40 : decode cX6_wrongInput 40 = .ok (.getfield 27, 3) := by decide +kernel
theorem dX6_wrongInput_43 : decode cX6_wrongInput 43 = .ok (.iload_n 2, 1) := by decide +kernel
theorem dX6_wrongInput_44 : decode cX6_wrongInput 44 = .ok (.iaload, 1) := by decide +kernel
theorem dX6_wrongInput_45 : decode cX6_wrongInput 45 = .ok (.if_icmp .ge 7, 3) := by decide +kernel
theorem dX6_wrongInput_48 : decode cX6_wrongInput 48 = .ok (.iconst 1, 1) := by decide +kernel
theorem dX6_wrongInput_49 : decode cX6_wrongInput 49 = .ok (.goto 4, 3) := by decide +kernel
theorem dX6_wrongInput_52 : decode cX6_wrongInput 52 = .ok (.iconst 0, 1) := by decide +kernel
theorem dX6_wrongInput_53 : decode cX6_wrongInput 53 = .ok (.istore 7, 2) := by decide +kernel
theorem dX6_wrongInput_55 : decode cX6_wrongInput 55 = .ok (.iload_n 3, 1) := by decide +kernel
theorem dX6_wrongInput_56 : decode cX6_wrongInput 56 = .ok (.iload 7, 2) := by decide +kernel
theorem dX6_wrongInput_58 : decode cX6_wrongInput 58 = .ok (.ifCond .eq 7, 3) := by decide +kernel
theorem dX6_wrongInput_61 : decode cX6_wrongInput 61 = .ok (.iconst 1, 1) := by decide +kernel
theorem dX6_wrongInput_62 : decode cX6_wrongInput 62 = .ok (.goto 4, 3) := by decide +kernel
theorem dX6_wrongInput_65 : decode cX6_wrongInput 65 = .ok (.iconst 0, 1) := by decide +kernel
theorem dX6_wrongInput_66 : decode cX6_wrongInput 66 = .ok (.iadd, 1) := by decide +kernel
theorem dX6_wrongInput_67 : decode cX6_wrongInput 67 = .ok (.istore_n 3, 1) := by decide +kernel
theorem dX6_wrongInput_68 : decode cX6_wrongInput 68 = .ok (.lload 4, 2) := by decide +kernel
theorem dX6_wrongInput_70 : decode cX6_wrongInput 70 = .ok (.iload 7, 2) := by decide +kernel
theorem dX6_wrongInput_72 : decode cX6_wrongInput 72 = .ok (.ifCond .eq 13, 3) := by decide +kernel
theorem dX6_wrongInput_75 : decode cX6_wrongInput 75 = .ok (.aload_n 0, 1) := by decide +kernel
theorem dX6_wrongInput_76 : decode cX6_wrongInput 76 = .ok (.getfield 23, 3) := by decide +kernel
theorem dX6_wrongInput_79 : decode cX6_wrongInput 79 = .ok (.iload 6, 2) := by decide +kernel
theorem dX6_wrongInput_81 : decode cX6_wrongInput 81 = .ok (.laload, 1) := by decide +kernel
theorem dX6_wrongInput_82 : decode cX6_wrongInput 82 = .ok (.goto 4, 3) := by decide +kernel
theorem dX6_wrongInput_85 : decode cX6_wrongInput 85 = .ok (.lconst 0, 1) := by decide +kernel
theorem dX6_wrongInput_86 : decode cX6_wrongInput 86 = .ok (.ladd, 1) := by decide +kernel
theorem dX6_wrongInput_87 : decode cX6_wrongInput 87 = .ok (.lstore 4, 2) := by decide +kernel
theorem dX6_wrongInput_89 : decode cX6_wrongInput 89 = .ok (.iinc 6 1, 3) := by decide +kernel
theorem dX6_wrongInput_92 : decode cX6_wrongInput 92 = .ok (.goto (-74), 3) := by decide +kernel
theorem dX6_wrongInput_95 : decode cX6_wrongInput 95 = .ok (.iload_n 1, 1) := by decide +kernel
theorem dX6_wrongInput_96 : decode cX6_wrongInput 96 = .ok (.iload_n 3, 1) := by decide +kernel
theorem dX6_wrongInput_97 : decode cX6_wrongInput 97 = .ok (.aload_n 0, 1) := by decide +kernel
theorem dX6_wrongInput_98 : decode cX6_wrongInput 98 = .ok (.getfield 27, 3) := by decide +kernel
theorem dX6_wrongInput_101 : decode cX6_wrongInput 101 = .ok (.iload_n 2, 1) := by decide +kernel
theorem dX6_wrongInput_102 : decode cX6_wrongInput 102 = .ok (.iaload, 1) := by decide +kernel
theorem dX6_wrongInput_103 : decode cX6_wrongInput 103 = .ok (.if_icmp .ne 15, 3) := by decide +kernel
theorem dX6_wrongInput_106 : decode cX6_wrongInput 106 = .ok (.lload 4, 2) := by decide +kernel
theorem dX6_wrongInput_108 : decode cX6_wrongInput 108 = .ok (.aload_n 0, 1) := by decide +kernel
theorem dX6_wrongInput_109 : decode cX6_wrongInput 109 = .ok (.getfield 30, 3) := by decide +kernel
theorem dX6_wrongInput_112 : decode cX6_wrongInput 112 = .ok (.iload_n 2, 1) := by decide +kernel
theorem dX6_wrongInput_113 : decode cX6_wrongInput 113 = .ok (.laload, 1) := by decide +kernel
theorem dX6_wrongInput_114 : decode cX6_wrongInput 114 = .ok (.lcmp, 1) := by decide +kernel
theorem dX6_wrongInput_115 : decode cX6_wrongInput 115 = .ok (.ifCond .eq 7, 3) := by decide +kernel
theorem dX6_wrongInput_118 : decode cX6_wrongInput 118 = .ok (.iconst 1, 1) := by decide +kernel
theorem dX6_wrongInput_119 : decode cX6_wrongInput 119 = .ok (.goto 4, 3) := by decide +kernel
theorem dX6_wrongInput_122 : decode cX6_wrongInput 122 = .ok (.iconst 0, 1) := by decide +kernel
theorem dX6_wrongInput_123 : decode cX6_wrongInput 123 = .ok (.iadd, 1) := by decide +kernel
theorem dX6_wrongInput_124 : decode cX6_wrongInput 124 = .ok (.istore_n 1, 1) := by decide +kernel
theorem dX6_wrongInput_125 : decode cX6_wrongInput 125 = .ok (.iinc 2 1, 3) := by decide +kernel
theorem dX6_wrongInput_128 : decode cX6_wrongInput 128 = .ok (.goto (-124), 3) := by decide +kernel
theorem dX6_wrongInput_131 : decode cX6_wrongInput 131 = .ok (.iload_n 1, 1) := by decide +kernel
theorem dX6_wrongInput_132 : decode cX6_wrongInput 132 = .ok (.ireturn, 1) := by decide +kernel
theorem dX6_audit_0 : decode cX6_audit 0 = .ok (.aload_n 0, 1) := by decide +kernel
theorem dX6_audit_1 : decode cX6_audit 1 = .ok (.invokevirtual 187, 3) := by decide +kernel
theorem dX6_audit_4 : decode cX6_audit 4 = .ok (.aload_n 0, 1) := by decide +kernel
theorem dX6_audit_5 : decode cX6_audit 5 = .ok (.invokevirtual 190, 3) := by decide +kernel
theorem dX6_audit_8 : decode cX6_audit 8 = .ok (.iadd, 1) := by decide +kernel
theorem dX6_audit_9 : decode cX6_audit 9 = .ok (.istore_n 1, 1) := by decide +kernel
theorem dX6_audit_10 : decode cX6_audit 10 = .ok (.iconst 0, 1) := by decide +kernel
theorem dX6_audit_11 : decode cX6_audit 11 = .ok (.istore_n 2, 1) := by decide +kernel
theorem dX6_audit_12 : decode cX6_audit 12 = .ok (.iload_n 2, 1) := by decide +kernel
theorem dX6_audit_13 : decode cX6_audit 13 = .ok (.aload_n 0, 1) := by decide +kernel
theorem dX6_audit_14 : decode cX6_audit 14 = .ok (.getfield 105, 3) := by decide +kernel
theorem dX6_audit_17 : decode cX6_audit 17 = .ok (.if_icmp .ge 31, 3) := by decide +kernel
theorem dX6_audit_20 : decode cX6_audit 20 = .ok (.iload_n 1, 1) := by decide +kernel
theorem dX6_audit_21 : decode cX6_audit 21 = .ok (.aload_n 0, 1) := by decide +kernel
theorem dX6_audit_22 : decode cX6_audit 22 = .ok (.getfield 61, 3) := by decide +kernel
theorem dX6_audit_25 : decode cX6_audit 25 = .ok (.iload_n 2, 1) := by decide +kernel
theorem dX6_audit_26 : decode cX6_audit 26 = .ok (.iaload, 1) := by decide +kernel
theorem dX6_audit_27 : decode cX6_audit 27 = .ok (.iconst 1, 1) := by decide +kernel
theorem dX6_audit_28 : decode cX6_audit 28 = .ok (.if_icmp .ne 11, 3) := by decide +kernel
theorem dX6_audit_31 : decode cX6_audit 31 = .ok (.aload_n 0, 1) := by decide +kernel
theorem dX6_audit_32 : decode cX6_audit 32 = .ok (.iload_n 2, 1) := by decide +kernel
theorem dX6_audit_33 : decode cX6_audit 33 = .ok (.invokevirtual 193, 3) := by decide +kernel
theorem dX6_audit_36 : decode cX6_audit 36 = .ok (.goto 4, 3) := by decide +kernel
theorem dX6_audit_39 : decode cX6_audit 39 = .ok (.iconst 0, 1) := by decide +kernel
theorem dX6_audit_40 : decode cX6_audit 40 = .ok (.iadd, 1) := by decide +kernel
theorem dX6_audit_41 : decode cX6_audit 41 = .ok (.istore_n 1, 1) := by decide +kernel
theorem dX6_audit_42 : decode cX6_audit 42 = .ok (.iinc 2 1, 3) := by decide +kernel
theorem dX6_audit_45 : decode cX6_audit 45 = .ok (.goto (-33), 3) := by decide +kernel
theorem dX6_audit_48 : decode cX6_audit 48 = .ok (.iload_n 1, 1) := by decide +kernel
theorem dX6_audit_49 : decode cX6_audit 49 = .ok (.ireturn, 1) := by decide +kernel
