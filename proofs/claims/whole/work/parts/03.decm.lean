theorem dX6_init_0 : decode cX6_init 0 = .ok (.aload_n 0, 1) := by decide +kernel
theorem dX6_init_1 : decode cX6_init 1 = .ok (.invokespecial 1, 3) := by decide +kernel
theorem dX6_init_4 : decode cX6_init 4 = .ok (.aload_n 0, 1) := by decide +kernel
theorem dX6_init_5 : decode cX6_init 5 = .ok (.bipush 12, 2) := by decide +kernel
theorem dX6_init_7 : decode cX6_init 7 = .ok (.newarray .int, 2) := by decide +kernel
theorem dX6_init_9 : decode cX6_init 9 = .ok (.putfield 7, 3) := by decide +kernel
theorem dX6_init_12 : decode cX6_init 12 = .ok (.aload_n 0, 1) := by decide +kernel
theorem dX6_init_13 : decode cX6_init 13 = .ok (.iconst 2, 1) := by decide +kernel
theorem dX6_init_14 : decode cX6_init 14 = .ok (.newarray .int, 2) := by decide +kernel
theorem dX6_init_16 : decode cX6_init 16 = .ok (.putfield 13, 3) := by decide +kernel
theorem dX6_init_19 : decode cX6_init 19 = .ok (.aload_n 0, 1) := by decide +kernel
theorem dX6_init_20 : decode cX6_init 20 = .ok (.bipush 6, 2) := by decide +kernel
theorem dX6_init_22 : decode cX6_init 22 = .ok (.putfield 16, 3) := by decide +kernel
theorem dX6_init_25 : decode cX6_init 25 = .ok (.aload_n 0, 1) := by decide +kernel
theorem dX6_init_26 : decode cX6_init 26 = .ok (.bipush 20, 2) := by decide +kernel
theorem dX6_init_28 : decode cX6_init 28 = .ok (.newarray .int, 2) := by decide +kernel
theorem dX6_init_30 : decode cX6_init 30 = .ok (.putfield 20, 3) := by decide +kernel
theorem dX6_init_33 : decode cX6_init 33 = .ok (.aload_n 0, 1) := by decide +kernel
theorem dX6_init_34 : decode cX6_init 34 = .ok (.bipush 20, 2) := by decide +kernel
theorem dX6_init_36 : decode cX6_init 36 = .ok (.newarray .int, 2) := by decide +kernel
theorem dX6_init_38 : decode cX6_init 38 = .ok (.putfield 23, 3) := by decide +kernel
theorem dX6_init_41 : decode cX6_init 41 = .ok (.aload_n 0, 1) := by decide +kernel
theorem dX6_init_42 : decode cX6_init 42 = .ok (.bipush 20, 2) := by decide +kernel
theorem dX6_init_44 : decode cX6_init 44 = .ok (.newarray .int, 2) := by decide +kernel
theorem dX6_init_46 : decode cX6_init 46 = .ok (.putfield 26, 3) := by decide +kernel
theorem dX6_init_49 : decode cX6_init 49 = .ok (.aload_n 0, 1) := by decide +kernel
theorem dX6_init_50 : decode cX6_init 50 = .ok (.bipush 20, 2) := by decide +kernel
theorem dX6_init_52 : decode cX6_init 52 = .ok (.newarray .int, 2) := by decide +kernel
theorem dX6_init_54 : decode cX6_init 54 = .ok (.putfield 29, 3) := by decide +kernel
theorem dX6_init_57 : decode cX6_init 57 = .ok (.aload_n 0, 1) := by decide +kernel
theorem dX6_init_58 : decode cX6_init 58 = .ok (.bipush 20, 2) := by decide +kernel
theorem dX6_init_60 : decode cX6_init 60 = .ok (.newarray .int, 2) := by decide +kernel
theorem dX6_init_62 : decode cX6_init 62 = .ok (.putfield 32, 3) := by decide +kernel
theorem dX6_init_65 : decode cX6_init 65 = .ok (.aload_n 0, 1) := by decide +kernel
theorem dX6_init_66 : decode cX6_init 66 = .ok (.bipush 20, 2) := by decide +kernel
theorem dX6_init_68 : decode cX6_init 68 = .ok (.newarray .int, 2) := by decide +kernel
theorem dX6_init_70 : decode cX6_init 70 = .ok (.putfield 35, 3) := by decide +kernel
theorem dX6_init_73 : decode cX6_init 73 = .ok (.aload_n 0, 1) := by decide +kernel
theorem dX6_init_74 : decode cX6_init 74 = .ok (.bipush 20, 2) := by decide +kernel
theorem dX6_init_76 : decode cX6_init 76 = .ok (.newarray .int, 2) := by decide +kernel
theorem dX6_init_78 : decode cX6_init 78 = .ok (.putfield 38, 3) := by decide +kernel
theorem dX6_init_81 : decode cX6_init 81 = .ok (.aload_n 0, 1) := by decide +kernel
theorem dX6_init_82 : decode cX6_init 82 = .ok (.bipush 20, 2) := by decide +kernel
theorem dX6_init_84 : decode cX6_init 84 = .ok (.newarray .int, 2) := by decide +kernel
theorem dX6_init_86 : decode cX6_init 86 = .ok (.putfield 41, 3) := by decide +kernel
theorem dX6_init_89 : decode cX6_init 89 = .ok (.aload_n 0, 1) := by decide +kernel
theorem dX6_init_90 : decode cX6_init 90 = .ok (.bipush 80, 2) := by decide +kernel
theorem dX6_init_92 : decode cX6_init 92 = .ok (.newarray .int, 2) := by decide +kernel
theorem dX6_init_94 : decode cX6_init 94 = .ok (.putfield 44, 3) := by decide +kernel
theorem dX6_init_97 : decode cX6_init 97 = .ok (.aload_n 0, 1) := by decide +kernel
theorem dX6_init_98 : decode cX6_init 98 = .ok (.bipush 80, 2) := by decide +kernel
theorem dX6_init_100 : decode cX6_init 100 = .ok (.newarray .int, 2) := by decide +kernel
theorem dX6_init_102 : decode cX6_init 102 = .ok (.putfield 47, 3) := by decide +kernel
theorem dX6_init_105 : decode cX6_init 105 = .ok (.aload_n 0, 1) := by decide +kernel
theorem dX6_init_106 : decode cX6_init 106 = .ok (.bipush 40, 2) := by decide +kernel
theorem dX6_init_108 : decode cX6_init 108 = .ok (.newarray .int, 2) := by decide +kernel
theorem dX6_init_110 : decode cX6_init 110 = .ok (.putfield 50, 3) := by decide +kernel
theorem dX6_init_113 : decode cX6_init 113 = .ok (.aload_n 0, 1) := by decide +kernel
theorem dX6_init_114 : decode cX6_init 114 = .ok (.bipush 40, 2) := by decide +kernel
theorem dX6_init_116 : decode cX6_init 116 = .ok (.newarray .int, 2) := by decide +kernel
theorem dX6_init_118 : decode cX6_init 118 = .ok (.putfield 53, 3) := by decide +kernel
theorem dX6_init_121 : decode cX6_init 121 = .ok (.aload_n 0, 1) := by decide +kernel
theorem dX6_init_122 : decode cX6_init 122 = .ok (.bipush 40, 2) := by decide +kernel
theorem dX6_init_124 : decode cX6_init 124 = .ok (.newarray .int, 2) := by decide +kernel
theorem dX6_init_126 : decode cX6_init 126 = .ok (.putfield 56, 3) := by decide +kernel
theorem dX6_init_129 : decode cX6_init 129 = .ok (.aload_n 0, 1) := by decide +kernel
theorem dX6_init_130 : decode cX6_init 130 = .ok (.bipush 40, 2) := by decide +kernel
theorem dX6_init_132 : decode cX6_init 132 = .ok (.newarray .int, 2) := by decide +kernel
theorem dX6_init_134 : decode cX6_init 134 = .ok (.putfield 59, 3) := by decide +kernel
theorem dX6_init_137 : decode cX6_init 137 = .ok (.aload_n 0, 1) := by decide +kernel
theorem dX6_init_138 : decode cX6_init 138 = .ok (.bipush 40, 2) := by decide +kernel
theorem dX6_init_140 : decode cX6_init 140 = .ok (.newarray .int, 2) := by decide +kernel
theorem dX6_init_142 : decode cX6_init 142 = .ok (.putfield 62, 3) := by decide +kernel
theorem dX6_init_145 : decode cX6_init 145 = .ok (.aload_n 0, 1) := by decide +kernel
theorem dX6_init_146 : decode cX6_init 146 = .ok (.bipush 40, 2) := by decide +kernel
theorem dX6_init_148 : decode cX6_init 148 = .ok (.newarray .int, 2) := by decide +kernel
theorem dX6_init_150 : decode cX6_init 150 = .ok (.putfield 65, 3) := by decide +kernel
theorem dX6_init_153 : decode cX6_init 153 = .ok (.aload_n 0, 1) := by decide +kernel
theorem dX6_init_154 : decode cX6_init 154 = .ok (.bipush 40, 2) := by decide +kernel
theorem dX6_init_156 : decode cX6_init 156 = .ok (.newarray .int, 2) := by decide +kernel
theorem dX6_init_158 : decode cX6_init 158 = .ok (.putfield 68, 3) := by decide +kernel
theorem dX6_init_161 : decode cX6_init 161 = .ok (.aload_n 0, 1) := by decide +kernel
theorem dX6_init_162 : decode cX6_init 162 = .ok (.bipush 30, 2) := by decide +kernel
theorem dX6_init_164 : decode cX6_init 164 = .ok (.newarray .int, 2) := by decide +kernel
theorem dX6_init_166 : decode cX6_init 166 = .ok (.putfield 71, 3) := by decide +kernel
theorem dX6_init_169 : decode cX6_init 169 = .ok (.aload_n 0, 1) := by decide +kernel
theorem dX6_init_170 : decode cX6_init 170 = .ok (.bipush 30, 2) := by decide +kernel
theorem dX6_init_172 : decode cX6_init 172 = .ok (.newarray .int, 2) := by decide +kernel
theorem dX6_init_174 : decode cX6_init 174 = .ok (.putfield 74, 3) := by decide +kernel
theorem dX6_init_177 : decode cX6_init 177 = .ok (.aload_n 0, 1) := by decide +kernel
theorem dX6_init_178 : decode cX6_init 178 = .ok (.bipush 30, 2) := by decide +kernel
theorem dX6_init_180 : decode cX6_init 180 = .ok (.newarray .int, 2) := by decide +kernel
theorem dX6_init_182 : decode cX6_init 182 = .ok (.putfield 77, 3) := by decide +kernel
theorem dX6_init_185 : decode cX6_init 185 = .ok (.aload_n 0, 1) := by decide +kernel
theorem dX6_init_186 : decode cX6_init 186 = .ok (.bipush 30, 2) := by decide +kernel
theorem dX6_init_188 : decode cX6_init 188 = .ok (.newarray .int, 2) := by decide +kernel
theorem dX6_init_190 : decode cX6_init 190 = .ok (.putfield 80, 3) := by decide +kernel
theorem dX6_init_193 : decode cX6_init 193 = .ok (.aload_n 0, 1) := by decide +kernel
theorem dX6_init_194 : decode cX6_init 194 = .ok (.bipush 30, 2) := by decide +kernel
theorem dX6_init_196 : decode cX6_init 196 = .ok (.newarray .int, 2) := by decide +kernel
theorem dX6_init_198 : decode cX6_init 198 = .ok (.putfield 83, 3) := by decide +kernel
theorem dX6_init_201 : decode cX6_init 201 = .ok (.aload_n 0, 1) := by decide +kernel
theorem dX6_init_202 : decode cX6_init 202 = .ok (.bipush 30, 2) := by decide +kernel
theorem dX6_init_204 : decode cX6_init 204 = .ok (.newarray .int, 2) := by decide +kernel
theorem dX6_init_206 : decode cX6_init 206 = .ok (.putfield 86, 3) := by decide +kernel
theorem dX6_init_209 : decode cX6_init 209 = .ok (.aload_n 0, 1) := by decide +kernel
theorem dX6_init_210 : decode cX6_init 210 = .ok (.bipush 30, 2) := by decide +kernel
theorem dX6_init_212 : decode cX6_init 212 = .ok (.newarray .boolean, 2) := by decide +kernel
theorem dX6_init_214 : decode cX6_init 214 = .ok (.putfield 89, 3) := by decide +kernel
theorem dX6_init_217 : decode cX6_init 217 = .ok (.aload_n 0, 1) := by decide +kernel
theorem dX6_init_218 : decode cX6_init 218 = .ok (.bipush 30, 2) := by decide +kernel
theorem dX6_init_220 : decode cX6_init 220 = .ok (.newarray .boolean, 2) := by decide +kernel
theorem dX6_init_222 : decode cX6_init 222 = .ok (.putfield 93, 3) := by decide +kernel
theorem dX6_init_225 : decode cX6_init 225 = .ok (.aload_n 0, 1) := by decide +kernel
theorem dX6_init_226 : decode cX6_init 226 = .ok (.bipush 30, 2) := by decide +kernel
theorem dX6_init_228 : decode cX6_init 228 = .ok (.newarray .int, 2) := by decide +kernel
theorem dX6_init_230 : decode cX6_init 230 = .ok (.putfield 96, 3) := by decide +kernel
theorem dX6_init_233 : decode cX6_init 233 = .ok (.aload_n 0, 1) := by decide +kernel
theorem dX6_init_234 : decode cX6_init 234 = .ok (.bipush 40, 2) := by decide +kernel
theorem dX6_init_236 : decode cX6_init 236 = .ok (.newarray .int, 2) := by decide +kernel
theorem dX6_init_238 : decode cX6_init 238 = .ok (.putfield 99, 3) := by decide +kernel
theorem dX6_init_241 : decode cX6_init 241 = .ok (.aload_n 0, 1) := by decide +kernel
theorem dX6_init_242 : decode cX6_init 242 = .ok (.bipush 30, 2) := by decide +kernel
theorem dX6_init_244 : decode cX6_init 244 = .ok (.newarray .int, 2) := by decide +kernel
theorem dX6_init_246 : decode cX6_init 246 = .ok (.putfield 102, 3) := by decide +kernel
theorem dX6_init_249 : decode cX6_init 249 = .ok (.iconst 0, 1) := by decide +kernel
theorem dX6_init_250 : decode cX6_init 250 = .ok (.istore_n 1, 1) := by decide +kernel
theorem dX6_init_251 : decode cX6_init 251 = .ok (.iload_n 1, 1) := by decide +kernel
theorem dX6_init_252 : decode cX6_init 252 = .ok (.bipush 12, 2) := by decide +kernel
theorem dX6_init_254 : decode cX6_init 254 = .ok (.if_icmp .ge 17, 3) := by decide +kernel
theorem dX6_init_257 : decode cX6_init 257 = .ok (.aload_n 0, 1) := by decide +kernel
theorem dX6_init_258 : decode cX6_init 258 = .ok (.getfield 7, 3) := by decide +kernel
theorem dX6_init_261 : decode cX6_init 261 = .ok (.iload_n 1, 1) := by decide +kernel
theorem dX6_init_262 : decode cX6_init 262 = .ok (.bipush 100, 2) := by decide +kernel
theorem dX6_init_264 : decode cX6_init 264 = .ok (.iastore, 1) := by decide +kernel
theorem dX6_init_265 : decode cX6_init 265 = .ok (.iinc 1 1, 3) := by decide +kernel
theorem dX6_init_268 : decode cX6_init 268 = .ok (.goto (-17), 3) := by decide +kernel
theorem dX6_init_271 : decode cX6_init 271 = .ok (.aload_n 0, 1) := by decide +kernel
theorem dX6_init_272 : decode cX6_init 272 = .ok (.getfield 13, 3) := by decide +kernel
theorem dX6_init_275 : decode cX6_init 275 = .ok (.iconst 0, 1) := by decide +kernel
theorem dX6_init_276 : decode cX6_init 276 = .ok (.bipush 100, 2) := by decide +kernel
theorem dX6_init_278 : decode cX6_init 278 = .ok (.iastore, 1) := by decide +kernel
theorem dX6_init_279 : decode cX6_init 279 = .ok (.aload_n 0, 1) := by decide +kernel
theorem dX6_init_280 : decode cX6_init 280 = .ok (.getfield 13, 3) := by decide +kernel
theorem dX6_init_283 : decode cX6_init 283 = .ok (.iconst 1, 1) := by decide +kernel
theorem dX6_init_284 : decode cX6_init 284 = .ok (.bipush 100, 2) := by decide +kernel
theorem dX6_init_286 : decode cX6_init 286 = .ok (.iastore, 1) := by decide +kernel
theorem dX6_init_287 : decode cX6_init 287 = .ok (.return_, 1) := by decide +kernel
theorem dX6_thrown_0 : decode cX6_thrown 0 = .ok (.aload_n 0, 1) := by decide +kernel
theorem dX6_thrown_1 : decode cX6_thrown 1 = .ok (.getfield 105, 3) := by decide +kernel
theorem dX6_thrown_4 : decode cX6_thrown 4 = .ok (.ireturn, 1) := by decide +kernel
theorem dX6_between_0 : decode cX6_between 0 = .ok (.iload_n 1, 1) := by decide +kernel
theorem dX6_between_1 : decode cX6_between 1 = .ok (.iload_n 2, 1) := by decide +kernel
theorem dX6_between_2 : decode cX6_between 2 = .ok (.if_icmp .lt 12, 3) := by decide +kernel
theorem dX6_between_5 : decode cX6_between 5 = .ok (.iload_n 1, 1) := by decide +kernel
theorem dX6_between_6 : decode cX6_between 6 = .ok (.iload_n 3, 1) := by decide +kernel
theorem dX6_between_7 : decode cX6_between 7 = .ok (.if_icmp .gt 7, 3) := by decide +kernel
theorem dX6_between_10 : decode cX6_between 10 = .ok (.iconst 1, 1) := by decide +kernel
theorem dX6_between_11 : decode cX6_between 11 = .ok (.goto 4, 3) := by decide +kernel
theorem dX6_between_14 : decode cX6_between 14 = .ok (.iconst 0, 1) := by decide +kernel
theorem dX6_between_15 : decode cX6_between 15 = .ok (.ireturn, 1) := by decide +kernel
theorem dX6_isBoard_0 : decode cX6_isBoard 0 = .ok (.aload_n 0, 1) := by decide +kernel
theorem dX6_isBoard_1 : decode cX6_isBoard 1 = .ok (.iload_n 1, 1) := by decide +kernel
theorem dX6_isBoard_2 : decode cX6_isBoard 2 = .ok (.iconst 0, 1) := by decide +kernel
theorem dX6_isBoard_3 : decode cX6_isBoard 3 = .ok (.aload_n 0, 1) := by decide +kernel
theorem dX6_isBoard_4 : decode cX6_isBoard 4 = .ok (.getfield 108, 3) := by decide +kernel
theorem dX6_isBoard_7 : decode cX6_isBoard 7 = .ok (.iconst 1, 1) := by decide +kernel
theorem dX6_isBoard_8 : decode cX6_isBoard 8 = .ok (.isub, 1) := by decide +kernel
theorem dX6_isBoard_9 : decode cX6_isBoard 9 = .ok (.invokevirtual 111, 3) := by decide +kernel
theorem dX6_isBoard_12 : decode cX6_isBoard 12 = .ok (.ireturn, 1) := by decide +kernel
theorem dX6_isPart_0 : decode cX6_isPart 0 = .ok (.aload_n 0, 1) := by decide +kernel
theorem dX6_isPart_1 : decode cX6_isPart 1 = .ok (.iload_n 1, 1) := by decide +kernel
theorem dX6_isPart_2 : decode cX6_isPart 2 = .ok (.iconst 0, 1) := by decide +kernel
theorem dX6_isPart_3 : decode cX6_isPart 3 = .ok (.aload_n 0, 1) := by decide +kernel
theorem dX6_isPart_4 : decode cX6_isPart 4 = .ok (.getfield 115, 3) := by decide +kernel
theorem dX6_isPart_7 : decode cX6_isPart 7 = .ok (.iconst 1, 1) := by decide +kernel
theorem dX6_isPart_8 : decode cX6_isPart 8 = .ok (.isub, 1) := by decide +kernel
theorem dX6_isPart_9 : decode cX6_isPart 9 = .ok (.invokevirtual 111, 3) := by decide +kernel
theorem dX6_isPart_12 : decode cX6_isPart 12 = .ok (.ireturn, 1) := by decide +kernel
theorem dX6_isJoint_0 : decode cX6_isJoint 0 = .ok (.aload_n 0, 1) := by decide +kernel
theorem dX6_isJoint_1 : decode cX6_isJoint 1 = .ok (.iload_n 1, 1) := by decide +kernel
theorem dX6_isJoint_2 : decode cX6_isJoint 2 = .ok (.iconst 0, 1) := by decide +kernel
theorem dX6_isJoint_3 : decode cX6_isJoint 3 = .ok (.aload_n 0, 1) := by decide +kernel
theorem dX6_isJoint_4 : decode cX6_isJoint 4 = .ok (.getfield 118, 3) := by decide +kernel
theorem dX6_isJoint_7 : decode cX6_isJoint 7 = .ok (.iconst 1, 1) := by decide +kernel
theorem dX6_isJoint_8 : decode cX6_isJoint 8 = .ok (.isub, 1) := by decide +kernel
theorem dX6_isJoint_9 : decode cX6_isJoint 9 = .ok (.invokevirtual 111, 3) := by decide +kernel
theorem dX6_isJoint_12 : decode cX6_isJoint 12 = .ok (.ireturn, 1) := by decide +kernel
theorem dX6_isMoisture_0 : decode cX6_isMoisture 0 = .ok (.aload_n 0, 1) := by decide +kernel
theorem dX6_isMoisture_1 : decode cX6_isMoisture 1 = .ok (.iload_n 1, 1) := by decide +kernel
theorem dX6_isMoisture_2 : decode cX6_isMoisture 2 = .ok (.bipush 40, 2) := by decide +kernel
theorem dX6_isMoisture_4 : decode cX6_isMoisture 4 = .ok (.sipush 300, 3) := by decide +kernel
theorem dX6_isMoisture_7 : decode cX6_isMoisture 7 = .ok (.invokevirtual 111, 3) := by decide +kernel
theorem dX6_isMoisture_10 : decode cX6_isMoisture 10 = .ok (.ireturn, 1) := by decide +kernel
theorem dX6_moves_0 : decode cX6_moves 0 = .ok (.iload_n 1, 1) := by decide +kernel
theorem dX6_moves_1 : decode cX6_moves 1 = .ok (.iconst 2, 1) := by decide +kernel
theorem dX6_moves_2 : decode cX6_moves 2 = .ok (.iadd, 1) := by decide +kernel
theorem dX6_moves_3 : decode cX6_moves 3 = .ok (.ireturn, 1) := by decide +kernel
theorem dX6_hardness_0 : decode cX6_hardness 0 = .ok (.iload_n 1, 1) := by decide +kernel
theorem dX6_hardness_1 : decode cX6_hardness 1 = .ok (.ifCond .ne 7, 3) := by decide +kernel
theorem dX6_hardness_4 : decode cX6_hardness 4 = .ok (.iconst 2, 1) := by decide +kernel
theorem dX6_hardness_5 : decode cX6_hardness 5 = .ok (.goto 24, 3) := by decide +kernel
theorem dX6_hardness_8 : decode cX6_hardness 8 = .ok (.iload_n 1, 1) := by decide +kernel
theorem dX6_hardness_9 : decode cX6_hardness 9 = .ok (.iconst 1, 1) := by decide +kernel
theorem dX6_hardness_10 : decode cX6_hardness 10 = .ok (.if_icmp .ne 7, 3) := by decide +kernel
theorem dX6_hardness_13 : decode cX6_hardness 13 = .ok (.iconst 4, 1) := by decide +kernel
theorem dX6_hardness_14 : decode cX6_hardness 14 = .ok (.goto 15, 3) := by decide +kernel
theorem dX6_hardness_17 : decode cX6_hardness 17 = .ok (.iload_n 1, 1) := by decide +kernel
theorem dX6_hardness_18 : decode cX6_hardness 18 = .ok (.iconst 2, 1) := by decide +kernel
theorem dX6_hardness_19 : decode cX6_hardness 19 = .ok (.if_icmp .ne 8, 3) := by decide +kernel
theorem dX6_hardness_22 : decode cX6_hardness 22 = .ok (.bipush 7, 2) := by decide +kernel
theorem dX6_hardness_24 : decode cX6_hardness 24 = .ok (.goto 5, 3) := by decide +kernel
theorem dX6_hardness_27 : decode cX6_hardness 27 = .ok (.bipush 9, 2) := by decide +kernel
theorem dX6_hardness_29 : decode cX6_hardness 29 = .ok (.ireturn, 1) := by decide +kernel
theorem dX6_weather_0 : decode cX6_weather 0 = .ok (.aload_n 0, 1) := by decide +kernel
theorem dX6_weather_1 : decode cX6_weather 1 = .ok (.aload_n 0, 1) := by decide +kernel
theorem dX6_weather_2 : decode cX6_weather 2 = .ok (.iload_n 1, 1) := by decide +kernel
theorem dX6_weather_3 : decode cX6_weather 3 = .ok (.iconst 0, 1) := by decide +kernel
theorem dX6_weather_4 : decode cX6_weather 4 = .ok (.bipush 11, 2) := by decide +kernel
theorem dX6_weather_6 : decode cX6_weather 6 = .ok (.invokevirtual 111, 3) := by decide +kernel
theorem dX6_weather_9 : decode cX6_weather 9 = .ok (.ifCond .ne 7, 3) := by decide +kernel
theorem dX6_weather_12 : decode cX6_weather 12 = .ok (.iconst 1, 1) := by decide +kernel
theorem dX6_weather_13 : decode cX6_weather 13 = .ok (.goto 16, 3) := by decide +kernel
theorem dX6_weather_16 : decode cX6_weather 16 = .ok (.aload_n 0, 1) := by decide +kernel
theorem dX6_weather_17 : decode cX6_weather 17 = .ok (.iload_n 2, 1) := by decide +kernel
theorem dX6_weather_18 : decode cX6_weather 18 = .ok (.invokevirtual 121, 3) := by decide +kernel
theorem dX6_weather_21 : decode cX6_weather 21 = .ok (.ifCond .ne 7, 3) := by decide +kernel
theorem dX6_weather_24 : decode cX6_weather 24 = .ok (.iconst 2, 1) := by decide +kernel
theorem dX6_weather_25 : decode cX6_weather 25 = .ok (.goto 4, 3) := by decide +kernel
theorem dX6_weather_28 : decode cX6_weather 28 = .ok (.iconst 0, 1) := by decide +kernel
theorem dX6_weather_29 : decode cX6_weather 29 = .ok (.putfield 105, 3) := by decide +kernel
theorem dX6_weather_32 : decode cX6_weather 32 = .ok (.aload_n 0, 1) := by decide +kernel
theorem dX6_weather_33 : decode cX6_weather 33 = .ok (.getfield 105, 3) := by decide +kernel
theorem dX6_weather_36 : decode cX6_weather 36 = .ok (.ifCond .le 5, 3) := by decide +kernel
theorem dX6_weather_39 : decode cX6_weather 39 = .ok (.iconst 0, 1) := by decide +kernel
theorem dX6_weather_40 : decode cX6_weather 40 = .ok (.ireturn, 1) := by decide +kernel
theorem dX6_weather_41 : decode cX6_weather 41 = .ok (.aload_n 0, 1) := by decide +kernel
theorem dX6_weather_42 : decode cX6_weather 42 = .ok (.getfield 7, 3) := by decide +kernel
theorem dX6_weather_45 : decode cX6_weather 45 = .ok (.iload_n 1, 1) := by decide +kernel
theorem dX6_weather_46 : decode cX6_weather 46 = .ok (.iaload, 1) := by decide +kernel
theorem dX6_weather_47 : decode cX6_weather 47 = .ok (.istore_n 3, 1) := by decide +kernel
theorem dX6_weather_48 : decode cX6_weather 48 = .ok (.aload_n 0, 1) := by decide +kernel
theorem dX6_weather_49 : decode cX6_weather 49 = .ok (.getfield 7, 3) := by decide +kernel
theorem dX6_weather_52 : decode cX6_weather 52 = .ok (.iload_n 1, 1) := by decide +kernel
theorem dX6_weather_53 : decode cX6_weather 53 = .ok (.iload_n 2, 1) := by decide +kernel
theorem dX6_weather_54 : decode cX6_weather 54 = .ok (.iastore, 1) := by decide +kernel
theorem dX6_weather_55 : decode cX6_weather 55 = .ok (.iload_n 3, 1) := by decide +kernel
theorem dX6_weather_56 : decode cX6_weather 56 = .ok (.ireturn, 1) := by decide +kernel
theorem dX6_behind_0 : decode cX6_behind 0 = .ok (.aload_n 0, 1) := by decide +kernel
theorem dX6_behind_1 : decode cX6_behind 1 = .ok (.getfield 7, 3) := by decide +kernel
theorem dX6_behind_4 : decode cX6_behind 4 = .ok (.iload_n 2, 1) := by decide +kernel
theorem dX6_behind_5 : decode cX6_behind 5 = .ok (.bipush 12, 2) := by decide +kernel
theorem dX6_behind_7 : decode cX6_behind 7 = .ok (.irem, 1) := by decide +kernel
theorem dX6_behind_8 : decode cX6_behind 8 = .ok (.iaload, 1) := by decide +kernel
theorem dX6_behind_9 : decode cX6_behind 9 = .ok (.iload_n 1, 1) := by decide +kernel
theorem dX6_behind_10 : decode cX6_behind 10 = .ok (.isub, 1) := by decide +kernel
theorem dX6_behind_11 : decode cX6_behind 11 = .ok (.istore 4, 2) := by decide +kernel
theorem dX6_behind_13 : decode cX6_behind 13 = .ok (.iload 4, 2) := by decide +kernel
theorem dX6_behind_15 : decode cX6_behind 15 = .ok (.iconst 4, 1) := by decide +kernel
theorem dX6_behind_16 : decode cX6_behind 16 = .ok (.iload_n 3, 1) := by decide +kernel
theorem dX6_behind_17 : decode cX6_behind 17 = .ok (.iadd, 1) := by decide +kernel
theorem dX6_behind_18 : decode cX6_behind 18 = .ok (.idiv, 1) := by decide +kernel
theorem dX6_behind_19 : decode cX6_behind 19 = .ok (.istore 5, 2) := by decide +kernel
theorem dX6_behind_21 : decode cX6_behind 21 = .ok (.iload 5, 2) := by decide +kernel
theorem dX6_behind_23 : decode cX6_behind 23 = .ok (.ifCond .ne 25, 3) := by decide +kernel
theorem dX6_behind_26 : decode cX6_behind 26 = .ok (.iload 4, 2) := by decide +kernel
theorem dX6_behind_28 : decode cX6_behind 28 = .ok (.ifCond .le 7, 3) := by decide +kernel
theorem dX6_behind_31 : decode cX6_behind 31 = .ok (.iconst 1, 1) := by decide +kernel
theorem dX6_behind_32 : decode cX6_behind 32 = .ok (.goto 18, 3) := by decide +kernel
theorem dX6_behind_35 : decode cX6_behind 35 = .ok (.iload 4, 2) := by decide +kernel
theorem dX6_behind_37 : decode cX6_behind 37 = .ok (.ifCond .ge 7, 3) := by decide +kernel
theorem dX6_behind_40 : decode cX6_behind 40 = .ok (.iconst (-1), 1) := by decide +kernel
theorem dX6_behind_41 : decode cX6_behind 41 = .ok (.goto 9, 3) := by decide +kernel
theorem dX6_behind_44 : decode cX6_behind 44 = .ok (.iconst 0, 1) := by decide +kernel
theorem dX6_behind_45 : decode cX6_behind 45 = .ok (.goto 5, 3) := by decide +kernel
theorem dX6_behind_48 : decode cX6_behind 48 = .ok (.iload 5, 2) := by decide +kernel
theorem dX6_behind_50 : decode cX6_behind 50 = .ok (.istore 5, 2) := by decide +kernel
theorem dX6_behind_52 : decode cX6_behind 52 = .ok (.iload_n 1, 1) := by decide +kernel
theorem dX6_behind_53 : decode cX6_behind 53 = .ok (.iload 5, 2) := by decide +kernel
theorem dX6_behind_55 : decode cX6_behind 55 = .ok (.iadd, 1) := by decide +kernel
theorem dX6_behind_56 : decode cX6_behind 56 = .ok (.ireturn, 1) := by decide +kernel
theorem dX6_moved_0 : decode cX6_moved 0 = .ok (.iload_n 1, 1) := by decide +kernel
theorem dX6_moved_1 : decode cX6_moved 1 = .ok (.aload_n 0, 1) := by decide +kernel
theorem dX6_moved_2 : decode cX6_moved 2 = .ok (.iload_n 2, 1) := by decide +kernel
theorem dX6_moved_3 : decode cX6_moved 3 = .ok (.invokevirtual 125, 3) := by decide +kernel
theorem dX6_moved_6 : decode cX6_moved 6 = .ok (.imul, 1) := by decide +kernel
theorem dX6_moved_7 : decode cX6_moved 7 = .ok (.iload_n 3, 1) := by decide +kernel
theorem dX6_moved_8 : decode cX6_moved 8 = .ok (.imul, 1) := by decide +kernel
theorem dX6_moved_9 : decode cX6_moved 9 = .ok (.sipush 10000, 3) := by decide +kernel
theorem dX6_moved_12 : decode cX6_moved 12 = .ok (.idiv, 1) := by decide +kernel
theorem dX6_moved_13 : decode cX6_moved 13 = .ok (.ireturn, 1) := by decide +kernel
theorem dX6_speciesOf_0 : decode cX6_speciesOf 0 = .ok (.aload_n 0, 1) := by decide +kernel
theorem dX6_speciesOf_1 : decode cX6_speciesOf 1 = .ok (.getfield 20, 3) := by decide +kernel
theorem dX6_speciesOf_4 : decode cX6_speciesOf 4 = .ok (.aload_n 0, 1) := by decide +kernel
theorem dX6_speciesOf_5 : decode cX6_speciesOf 5 = .ok (.getfield 50, 3) := by decide +kernel
theorem dX6_speciesOf_8 : decode cX6_speciesOf 8 = .ok (.iload_n 1, 1) := by decide +kernel
theorem dX6_speciesOf_9 : decode cX6_speciesOf 9 = .ok (.iaload, 1) := by decide +kernel
theorem dX6_speciesOf_10 : decode cX6_speciesOf 10 = .ok (.iaload, 1) := by decide +kernel
theorem dX6_speciesOf_11 : decode cX6_speciesOf 11 = .ok (.ireturn, 1) := by decide +kernel
theorem dX6_widthAt_0 : decode cX6_widthAt 0 = .ok (.aload_n 0, 1) := by decide +kernel
theorem dX6_widthAt_1 : decode cX6_widthAt 1 = .ok (.getfield 59, 3) := by decide +kernel
theorem dX6_widthAt_4 : decode cX6_widthAt 4 = .ok (.iload_n 1, 1) := by decide +kernel
theorem dX6_widthAt_5 : decode cX6_widthAt 5 = .ok (.iaload, 1) := by decide +kernel
theorem dX6_widthAt_6 : decode cX6_widthAt 6 = .ok (.aload_n 0, 1) := by decide +kernel
theorem dX6_widthAt_7 : decode cX6_widthAt 7 = .ok (.aload_n 0, 1) := by decide +kernel
theorem dX6_widthAt_8 : decode cX6_widthAt 8 = .ok (.getfield 59, 3) := by decide +kernel
theorem dX6_widthAt_11 : decode cX6_widthAt 11 = .ok (.iload_n 1, 1) := by decide +kernel
theorem dX6_widthAt_12 : decode cX6_widthAt 12 = .ok (.iaload, 1) := by decide +kernel
theorem dX6_widthAt_13 : decode cX6_widthAt 13 = .ok (.aload_n 0, 1) := by decide +kernel
theorem dX6_widthAt_14 : decode cX6_widthAt 14 = .ok (.iload_n 1, 1) := by decide +kernel
theorem dX6_widthAt_15 : decode cX6_widthAt 15 = .ok (.invokevirtual 129, 3) := by decide +kernel
theorem dX6_widthAt_18 : decode cX6_widthAt 18 = .ok (.iload_n 2, 1) := by decide +kernel
theorem dX6_widthAt_19 : decode cX6_widthAt 19 = .ok (.aload_n 0, 1) := by decide +kernel
theorem dX6_widthAt_20 : decode cX6_widthAt 20 = .ok (.getfield 62, 3) := by decide +kernel
theorem dX6_widthAt_23 : decode cX6_widthAt 23 = .ok (.iload_n 1, 1) := by decide +kernel
theorem dX6_widthAt_24 : decode cX6_widthAt 24 = .ok (.iaload, 1) := by decide +kernel
theorem dX6_widthAt_25 : decode cX6_widthAt 25 = .ok (.isub, 1) := by decide +kernel
theorem dX6_widthAt_26 : decode cX6_widthAt 26 = .ok (.invokevirtual 132, 3) := by decide +kernel
theorem dX6_widthAt_29 : decode cX6_widthAt 29 = .ok (.iadd, 1) := by decide +kernel
theorem dX6_widthAt_30 : decode cX6_widthAt 30 = .ok (.ireturn, 1) := by decide +kernel
theorem dX6_wouldBreak_0 : decode cX6_wouldBreak 0 = .ok (.aload_n 0, 1) := by decide +kernel
theorem dX6_wouldBreak_1 : decode cX6_wouldBreak 1 = .ok (.getfield 74, 3) := by decide +kernel
theorem dX6_wouldBreak_4 : decode cX6_wouldBreak 4 = .ok (.iload_n 1, 1) := by decide +kernel
theorem dX6_wouldBreak_5 : decode cX6_wouldBreak 5 = .ok (.iaload, 1) := by decide +kernel
theorem dX6_wouldBreak_6 : decode cX6_wouldBreak 6 = .ok (.istore_n 3, 1) := by decide +kernel
theorem dX6_wouldBreak_7 : decode cX6_wouldBreak 7 = .ok (.aload_n 0, 1) := by decide +kernel
theorem dX6_wouldBreak_8 : decode cX6_wouldBreak 8 = .ok (.getfield 71, 3) := by decide +kernel
theorem dX6_wouldBreak_11 : decode cX6_wouldBreak 11 = .ok (.iload_n 1, 1) := by decide +kernel
theorem dX6_wouldBreak_12 : decode cX6_wouldBreak 12 = .ok (.iaload, 1) := by decide +kernel
theorem dX6_wouldBreak_13 : decode cX6_wouldBreak 13 = .ok (.iconst 1, 1) := by decide +kernel
theorem dX6_wouldBreak_14 : decode cX6_wouldBreak 14 = .ok (.if_icmp .ne 47, 3) := by decide +kernel
theorem dX6_wouldBreak_17 : decode cX6_wouldBreak 17 = .ok (.aload_n 0, 1) := by decide +kernel
theorem dX6_wouldBreak_18 : decode cX6_wouldBreak 18 = .ok (.aload_n 0, 1) := by decide +kernel
theorem dX6_wouldBreak_19 : decode cX6_wouldBreak 19 = .ok (.getfield 80, 3) := by decide +kernel
theorem dX6_wouldBreak_22 : decode cX6_wouldBreak 22 = .ok (.iload_n 1, 1) := by decide +kernel
theorem dX6_wouldBreak_23 : decode cX6_wouldBreak 23 = .ok (.iaload, 1) := by decide +kernel
theorem dX6_wouldBreak_24 : decode cX6_wouldBreak 24 = .ok (.aload_n 0, 1) := by decide +kernel
theorem dX6_wouldBreak_25 : decode cX6_wouldBreak 25 = .ok (.iload_n 3, 1) := by decide +kernel
theorem dX6_wouldBreak_26 : decode cX6_wouldBreak 26 = .ok (.invokevirtual 129, 3) := by decide +kernel
theorem dX6_wouldBreak_29 : decode cX6_wouldBreak 29 = .ok (.iload_n 2, 1) := by decide +kernel
theorem dX6_wouldBreak_30 : decode cX6_wouldBreak 30 = .ok (.aload_n 0, 1) := by decide +kernel
theorem dX6_wouldBreak_31 : decode cX6_wouldBreak 31 = .ok (.getfield 96, 3) := by decide +kernel
theorem dX6_wouldBreak_34 : decode cX6_wouldBreak 34 = .ok (.iload_n 1, 1) := by decide +kernel
theorem dX6_wouldBreak_35 : decode cX6_wouldBreak 35 = .ok (.iaload, 1) := by decide +kernel
theorem dX6_wouldBreak_36 : decode cX6_wouldBreak 36 = .ok (.isub, 1) := by decide +kernel
theorem dX6_wouldBreak_37 : decode cX6_wouldBreak 37 = .ok (.invokevirtual 132, 3) := by decide +kernel
theorem dX6_wouldBreak_40 : decode cX6_wouldBreak 40 = .ok (.istore 4, 2) := by decide +kernel
theorem dX6_wouldBreak_42 : decode cX6_wouldBreak 42 = .ok (.iload 4, 2) := by decide +kernel
theorem dX6_wouldBreak_44 : decode cX6_wouldBreak 44 = .ok (.iconst 5, 1) := by decide +kernel
theorem dX6_wouldBreak_45 : decode cX6_wouldBreak 45 = .ok (.if_icmp .gt 10, 3) := by decide +kernel
theorem dX6_wouldBreak_48 : decode cX6_wouldBreak 48 = .ok (.iload 4, 2) := by decide +kernel
theorem dX6_wouldBreak_50 : decode cX6_wouldBreak 50 = .ok (.bipush (-5), 2) := by decide +kernel
theorem dX6_wouldBreak_52 : decode cX6_wouldBreak 52 = .ok (.if_icmp .ge 7, 3) := by decide +kernel
theorem dX6_wouldBreak_55 : decode cX6_wouldBreak 55 = .ok (.iconst 1, 1) := by decide +kernel
theorem dX6_wouldBreak_56 : decode cX6_wouldBreak 56 = .ok (.goto 4, 3) := by decide +kernel
theorem dX6_wouldBreak_59 : decode cX6_wouldBreak 59 = .ok (.iconst 0, 1) := by decide +kernel
theorem dX6_wouldBreak_60 : decode cX6_wouldBreak 60 = .ok (.ireturn, 1) := by decide +kernel
theorem dX6_wouldBreak_61 : decode cX6_wouldBreak 61 = .ok (.aload_n 0, 1) := by decide +kernel
theorem dX6_wouldBreak_62 : decode cX6_wouldBreak 62 = .ok (.getfield 71, 3) := by decide +kernel
theorem dX6_wouldBreak_65 : decode cX6_wouldBreak 65 = .ok (.iload_n 1, 1) := by decide +kernel
theorem dX6_wouldBreak_66 : decode cX6_wouldBreak 66 = .ok (.iaload, 1) := by decide +kernel
theorem dX6_wouldBreak_67 : decode cX6_wouldBreak 67 = .ok (.iconst 2, 1) := by decide +kernel
theorem dX6_wouldBreak_68 : decode cX6_wouldBreak 68 = .ok (.if_icmp .ne 31, 3) := by decide +kernel
theorem dX6_wouldBreak_71 : decode cX6_wouldBreak 71 = .ok (.aload_n 0, 1) := by decide +kernel
theorem dX6_wouldBreak_72 : decode cX6_wouldBreak 72 = .ok (.iload_n 3, 1) := by decide +kernel
theorem dX6_wouldBreak_73 : decode cX6_wouldBreak 73 = .ok (.iload_n 2, 1) := by decide +kernel
theorem dX6_wouldBreak_74 : decode cX6_wouldBreak 74 = .ok (.invokevirtual 136, 3) := by decide +kernel
theorem dX6_wouldBreak_77 : decode cX6_wouldBreak 77 = .ok (.aload_n 0, 1) := by decide +kernel
theorem dX6_wouldBreak_78 : decode cX6_wouldBreak 78 = .ok (.getfield 80, 3) := by decide +kernel
theorem dX6_wouldBreak_81 : decode cX6_wouldBreak 81 = .ok (.iload_n 1, 1) := by decide +kernel
theorem dX6_wouldBreak_82 : decode cX6_wouldBreak 82 = .ok (.iaload, 1) := by decide +kernel
theorem dX6_wouldBreak_83 : decode cX6_wouldBreak 83 = .ok (.iconst 2, 1) := by decide +kernel
theorem dX6_wouldBreak_84 : decode cX6_wouldBreak 84 = .ok (.aload_n 0, 1) := by decide +kernel
theorem dX6_wouldBreak_85 : decode cX6_wouldBreak 85 = .ok (.getfield 83, 3) := by decide +kernel
theorem dX6_wouldBreak_88 : decode cX6_wouldBreak 88 = .ok (.iload_n 1, 1) := by decide +kernel
theorem dX6_wouldBreak_89 : decode cX6_wouldBreak 89 = .ok (.iaload, 1) := by decide +kernel
theorem dX6_wouldBreak_90 : decode cX6_wouldBreak 90 = .ok (.imul, 1) := by decide +kernel
theorem dX6_wouldBreak_91 : decode cX6_wouldBreak 91 = .ok (.isub, 1) := by decide +kernel
theorem dX6_wouldBreak_92 : decode cX6_wouldBreak 92 = .ok (.if_icmp .ge 7, 3) := by decide +kernel
theorem dX6_wouldBreak_95 : decode cX6_wouldBreak 95 = .ok (.iconst 1, 1) := by decide +kernel
theorem dX6_wouldBreak_96 : decode cX6_wouldBreak 96 = .ok (.goto 4, 3) := by decide +kernel
theorem dX6_wouldBreak_99 : decode cX6_wouldBreak 99 = .ok (.iconst 0, 1) := by decide +kernel
theorem dX6_wouldBreak_100 : decode cX6_wouldBreak 100 = .ok (.ireturn, 1) := by decide +kernel
theorem dX6_pass_0 : decode cX6_pass 0 = .ok (.aload_n 0, 1) := by decide +kernel
theorem dX6_pass_1 : decode cX6_pass 1 = .ok (.aload_n 0, 1) := by decide +kernel
theorem dX6_pass_2 : decode cX6_pass 2 = .ok (.iload_n 1, 1) := by decide +kernel
theorem dX6_pass_3 : decode cX6_pass 3 = .ok (.iconst 1, 1) := by decide +kernel
theorem dX6_pass_4 : decode cX6_pass 4 = .ok (.bipush 24, 2) := by decide +kernel
theorem dX6_pass_6 : decode cX6_pass 6 = .ok (.invokevirtual 111, 3) := by decide +kernel
theorem dX6_pass_9 : decode cX6_pass 9 = .ok (.ifCond .ne 7, 3) := by decide +kernel
theorem dX6_pass_12 : decode cX6_pass 12 = .ok (.iconst 1, 1) := by decide +kernel
theorem dX6_pass_13 : decode cX6_pass 13 = .ok (.goto 20, 3) := by decide +kernel
theorem dX6_pass_16 : decode cX6_pass 16 = .ok (.aload_n 0, 1) := by decide +kernel
theorem dX6_pass_17 : decode cX6_pass 17 = .ok (.getfield 140, 3) := by decide +kernel
theorem dX6_pass_20 : decode cX6_pass 20 = .ok (.iload_n 1, 1) := by decide +kernel
theorem dX6_pass_21 : decode cX6_pass 21 = .ok (.iadd, 1) := by decide +kernel
theorem dX6_pass_22 : decode cX6_pass 22 = .ok (.sipush 1200, 3) := by decide +kernel
theorem dX6_pass_25 : decode cX6_pass 25 = .ok (.if_icmp .le 7, 3) := by decide +kernel
theorem dX6_pass_28 : decode cX6_pass 28 = .ok (.iconst 2, 1) := by decide +kernel
theorem dX6_pass_29 : decode cX6_pass 29 = .ok (.goto 4, 3) := by decide +kernel
theorem dX6_pass_32 : decode cX6_pass 32 = .ok (.iconst 0, 1) := by decide +kernel
theorem dX6_pass_33 : decode cX6_pass 33 = .ok (.putfield 105, 3) := by decide +kernel
theorem dX6_pass_36 : decode cX6_pass 36 = .ok (.aload_n 0, 1) := by decide +kernel
theorem dX6_pass_37 : decode cX6_pass 37 = .ok (.getfield 105, 3) := by decide +kernel
theorem dX6_pass_40 : decode cX6_pass 40 = .ok (.ifCond .le 5, 3) := by decide +kernel
theorem dX6_pass_43 : decode cX6_pass 43 = .ok (.iconst 0, 1) := by decide +kernel
theorem dX6_pass_44 : decode cX6_pass 44 = .ok (.ireturn, 1) := by decide +kernel
theorem dX6_pass_45 : decode cX6_pass 45 = .ok (.iconst 0, 1) := by decide +kernel
theorem dX6_pass_46 : decode cX6_pass 46 = .ok (.istore_n 2, 1) := by decide +kernel
theorem dX6_pass_47 : decode cX6_pass 47 = .ok (.iconst 0, 1) := by decide +kernel
theorem dX6_pass_48 : decode cX6_pass 48 = .ok (.istore_n 3, 1) := by decide +kernel
theorem dX6_pass_49 : decode cX6_pass 49 = .ok (.iload_n 3, 1) := by decide +kernel
theorem dX6_pass_50 : decode cX6_pass 50 = .ok (.iload_n 1, 1) := by decide +kernel
theorem dX6_pass_51 : decode cX6_pass 51 = .ok (.if_icmp .ge 177, 3) := by decide +kernel
theorem dX6_pass_54 : decode cX6_pass 54 = .ok (.iconst 0, 1) := by decide +kernel
theorem dX6_pass_55 : decode cX6_pass 55 = .ok (.istore 4, 2) := by decide +kernel
theorem dX6_pass_57 : decode cX6_pass 57 = .ok (.iload 4, 2) := by decide +kernel
theorem dX6_pass_59 : decode cX6_pass 59 = .ok (.aload_n 0, 1) := by decide +kernel
theorem dX6_pass_60 : decode cX6_pass 60 = .ok (.getfield 108, 3) := by decide +kernel
theorem dX6_pass_63 : decode cX6_pass 63 = .ok (.if_icmp .ge 32, 3) := by decide +kernel
theorem dX6_pass_66 : decode cX6_pass 66 = .ok (.aload_n 0, 1) := by decide +kernel
theorem dX6_pass_67 : decode cX6_pass 67 = .ok (.getfield 38, 3) := by decide +kernel
theorem dX6_pass_70 : decode cX6_pass 70 = .ok (.iload 4, 2) := by decide +kernel
theorem dX6_pass_72 : decode cX6_pass 72 = .ok (.aload_n 0, 1) := by decide +kernel
theorem dX6_pass_73 : decode cX6_pass 73 = .ok (.aload_n 0, 1) := by decide +kernel
theorem dX6_pass_74 : decode cX6_pass 74 = .ok (.getfield 38, 3) := by decide +kernel
theorem dX6_pass_77 : decode cX6_pass 77 = .ok (.iload 4, 2) := by decide +kernel
theorem dX6_pass_79 : decode cX6_pass 79 = .ok (.iaload, 1) := by decide +kernel
theorem dX6_pass_80 : decode cX6_pass 80 = .ok (.aload_n 0, 1) := by decide +kernel
theorem dX6_pass_81 : decode cX6_pass 81 = .ok (.getfield 140, 3) := by decide +kernel
theorem dX6_pass_84 : decode cX6_pass 84 = .ok (.iconst 0, 1) := by decide +kernel
theorem dX6_pass_85 : decode cX6_pass 85 = .ok (.invokevirtual 143, 3) := by decide +kernel
theorem dX6_pass_88 : decode cX6_pass 88 = .ok (.iastore, 1) := by decide +kernel
theorem dX6_pass_89 : decode cX6_pass 89 = .ok (.iinc 4 1, 3) := by decide +kernel
theorem dX6_pass_92 : decode cX6_pass 92 = .ok (.goto (-35), 3) := by decide +kernel
theorem dX6_pass_95 : decode cX6_pass 95 = .ok (.iconst 0, 1) := by decide +kernel
theorem dX6_pass_96 : decode cX6_pass 96 = .ok (.istore 4, 2) := by decide +kernel
theorem dX6_pass_98 : decode cX6_pass 98 = .ok (.iload 4, 2) := by decide +kernel
theorem dX6_pass_100 : decode cX6_pass 100 = .ok (.aload_n 0, 1) := by decide +kernel
theorem dX6_pass_101 : decode cX6_pass 101 = .ok (.getfield 115, 3) := by decide +kernel
theorem dX6_pass_104 : decode cX6_pass 104 = .ok (.if_icmp .ge 38, 3) := by decide +kernel
theorem dX6_pass_107 : decode cX6_pass 107 = .ok (.aload_n 0, 1) := by decide +kernel
theorem dX6_pass_108 : decode cX6_pass 108 = .ok (.getfield 65, 3) := by decide +kernel
theorem dX6_pass_111 : decode cX6_pass 111 = .ok (.iload 4, 2) := by decide +kernel
theorem dX6_pass_113 : decode cX6_pass 113 = .ok (.aload_n 0, 1) := by decide +kernel
theorem dX6_pass_114 : decode cX6_pass 114 = .ok (.aload_n 0, 1) := by decide +kernel
theorem dX6_pass_115 : decode cX6_pass 115 = .ok (.getfield 65, 3) := by decide +kernel
theorem dX6_pass_118 : decode cX6_pass 118 = .ok (.iload 4, 2) := by decide +kernel
theorem dX6_pass_120 : decode cX6_pass 120 = .ok (.iaload, 1) := by decide +kernel
theorem dX6_pass_121 : decode cX6_pass 121 = .ok (.aload_n 0, 1) := by decide +kernel
theorem dX6_pass_122 : decode cX6_pass 122 = .ok (.getfield 140, 3) := by decide +kernel
theorem dX6_pass_125 : decode cX6_pass 125 = .ok (.aload_n 0, 1) := by decide +kernel
theorem dX6_pass_126 : decode cX6_pass 126 = .ok (.getfield 68, 3) := by decide +kernel
theorem dX6_pass_129 : decode cX6_pass 129 = .ok (.iload 4, 2) := by decide +kernel
theorem dX6_pass_131 : decode cX6_pass 131 = .ok (.iaload, 1) := by decide +kernel
theorem dX6_pass_132 : decode cX6_pass 132 = .ok (.invokevirtual 143, 3) := by decide +kernel
theorem dX6_pass_135 : decode cX6_pass 135 = .ok (.iastore, 1) := by decide +kernel
theorem dX6_pass_136 : decode cX6_pass 136 = .ok (.iinc 4 1, 3) := by decide +kernel
theorem dX6_pass_139 : decode cX6_pass 139 = .ok (.goto (-41), 3) := by decide +kernel
theorem dX6_pass_142 : decode cX6_pass 142 = .ok (.iconst 0, 1) := by decide +kernel
theorem dX6_pass_143 : decode cX6_pass 143 = .ok (.istore 4, 2) := by decide +kernel
theorem dX6_pass_145 : decode cX6_pass 145 = .ok (.iload 4, 2) := by decide +kernel
theorem dX6_pass_147 : decode cX6_pass 147 = .ok (.aload_n 0, 1) := by decide +kernel
theorem dX6_pass_148 : decode cX6_pass 148 = .ok (.getfield 118, 3) := by decide +kernel
theorem dX6_pass_151 : decode cX6_pass 151 = .ok (.if_icmp .ge 61, 3) := by decide +kernel
theorem dX6_pass_154 : decode cX6_pass 154 = .ok (.aload_n 0, 1) := by decide +kernel
theorem dX6_pass_155 : decode cX6_pass 155 = .ok (.getfield 89, 3) := by decide +kernel
theorem dX6_pass_158 : decode cX6_pass 158 = .ok (.iload 4, 2) := by decide +kernel
theorem dX6_pass_160 : decode cX6_pass 160 = .ok (.baload, 1) := by decide +kernel
theorem dX6_pass_161 : decode cX6_pass 161 = .ok (.ifCond .eq 45, 3) := by decide +kernel
theorem dX6_pass_164 : decode cX6_pass 164 = .ok (.aload_n 0, 1) := by decide +kernel
theorem dX6_pass_165 : decode cX6_pass 165 = .ok (.getfield 93, 3) := by decide +kernel
theorem dX6_pass_168 : decode cX6_pass 168 = .ok (.iload 4, 2) := by decide +kernel
theorem dX6_pass_170 : decode cX6_pass 170 = .ok (.baload, 1) := by decide +kernel
theorem dX6_pass_171 : decode cX6_pass 171 = .ok (.ifCond .ne 35, 3) := by decide +kernel
theorem dX6_pass_174 : decode cX6_pass 174 = .ok (.aload_n 0, 1) := by decide +kernel
theorem dX6_pass_175 : decode cX6_pass 175 = .ok (.iload 4, 2) := by decide +kernel
theorem dX6_pass_177 : decode cX6_pass 177 = .ok (.aload_n 0, 1) := by decide +kernel
theorem dX6_pass_178 : decode cX6_pass 178 = .ok (.getfield 65, 3) := by decide +kernel
theorem dX6_pass_181 : decode cX6_pass 181 = .ok (.aload_n 0, 1) := by decide +kernel
theorem dX6_pass_182 : decode cX6_pass 182 = .ok (.getfield 74, 3) := by decide +kernel
theorem dX6_pass_185 : decode cX6_pass 185 = .ok (.iload 4, 2) := by decide +kernel
theorem dX6_pass_187 : decode cX6_pass 187 = .ok (.iaload, 1) := by decide +kernel
theorem dX6_pass_188 : decode cX6_pass 188 = .ok (.iaload, 1) := by decide +kernel
theorem dX6_pass_189 : decode cX6_pass 189 = .ok (.invokevirtual 146, 3) := by decide +kernel
theorem dX6_pass_192 : decode cX6_pass 192 = .ok (.ifCond .eq 14, 3) := by decide +kernel
theorem dX6_pass_195 : decode cX6_pass 195 = .ok (.aload_n 0, 1) := by decide +kernel
theorem dX6_pass_196 : decode cX6_pass 196 = .ok (.getfield 93, 3) := by decide +kernel
theorem dX6_pass_199 : decode cX6_pass 199 = .ok (.iload 4, 2) := by decide +kernel
theorem dX6_pass_201 : decode cX6_pass 201 = .ok (.iconst 1, 1) := by decide +kernel
theorem dX6_pass_202 : decode cX6_pass 202 = .ok (.bastore, 1) := by decide +kernel
theorem dX6_pass_203 : decode cX6_pass 203 = .ok (.iinc 2 1, 3) := by decide +kernel
theorem dX6_pass_206 : decode cX6_pass 206 = .ok (.iinc 4 1, 3) := by decide +kernel
theorem dX6_pass_209 : decode cX6_pass 209 = .ok (.goto (-64), 3) := by decide +kernel
theorem dX6_pass_212 : decode cX6_pass 212 = .ok (.aload_n 0, 1) := by decide +kernel
theorem dX6_pass_213 : decode cX6_pass 213 = .ok (.dup, 1) := by decide +kernel
theorem dX6_pass_214 : decode cX6_pass 214 = .ok (.getfield 140, 3) := by decide +kernel
theorem dX6_pass_217 : decode cX6_pass 217 = .ok (.iconst 1, 1) := by decide +kernel
theorem dX6_pass_218 : decode cX6_pass 218 = .ok (.iadd, 1) := by decide +kernel
theorem dX6_pass_219 : decode cX6_pass 219 = .ok (.putfield 140, 3) := by decide +kernel
theorem dX6_pass_222 : decode cX6_pass 222 = .ok (.iinc 3 1, 3) := by decide +kernel
theorem dX6_pass_225 : decode cX6_pass 225 = .ok (.goto (-176), 3) := by decide +kernel
theorem dX6_pass_228 : decode cX6_pass 228 = .ok (.iload_n 2, 1) := by decide +kernel
theorem dX6_pass_229 : decode cX6_pass 229 = .ok (.ireturn, 1) := by decide +kernel
theorem dX6_board_0 : decode cX6_board 0 = .ok (.aload_n 0, 1) := by decide +kernel
theorem dX6_board_1 : decode cX6_board 1 = .ok (.iload_n 1, 1) := by decide +kernel
theorem dX6_board_2 : decode cX6_board 2 = .ok (.iconst 0, 1) := by decide +kernel
theorem dX6_board_3 : decode cX6_board 3 = .ok (.iconst 3, 1) := by decide +kernel
theorem dX6_board_4 : decode cX6_board 4 = .ok (.invokevirtual 111, 3) := by decide +kernel
theorem dX6_board_7 : decode cX6_board 7 = .ok (.ifCond .eq 43, 3) := by decide +kernel
theorem dX6_board_10 : decode cX6_board 10 = .ok (.aload_n 0, 1) := by decide +kernel
theorem dX6_board_11 : decode cX6_board 11 = .ok (.iload_n 2, 1) := by decide +kernel
theorem dX6_board_12 : decode cX6_board 12 = .ok (.iconst 0, 1) := by decide +kernel
theorem dX6_board_13 : decode cX6_board 13 = .ok (.bipush 9, 2) := by decide +kernel
theorem dX6_board_15 : decode cX6_board 15 = .ok (.invokevirtual 111, 3) := by decide +kernel
theorem dX6_board_18 : decode cX6_board 18 = .ok (.ifCond .eq 32, 3) := by decide +kernel
theorem dX6_board_21 : decode cX6_board 21 = .ok (.aload_n 0, 1) := by decide +kernel
theorem dX6_board_22 : decode cX6_board 22 = .ok (.iload_n 3, 1) := by decide +kernel
theorem dX6_board_23 : decode cX6_board 23 = .ok (.iconst 0, 1) := by decide +kernel
theorem dX6_board_24 : decode cX6_board 24 = .ok (.bipush 20, 2) := by decide +kernel
theorem dX6_board_26 : decode cX6_board 26 = .ok (.invokevirtual 111, 3) := by decide +kernel
theorem dX6_board_29 : decode cX6_board 29 = .ok (.ifCond .eq 21, 3) := by decide +kernel
theorem dX6_board_32 : decode cX6_board 32 = .ok (.aload_n 0, 1) := by decide +kernel
theorem dX6_board_33 : decode cX6_board 33 = .ok (.iload 4, 2) := by decide +kernel
theorem dX6_board_35 : decode cX6_board 35 = .ok (.bipush 100, 2) := by decide +kernel
theorem dX6_board_37 : decode cX6_board 37 = .ok (.sipush 6000, 3) := by decide +kernel
theorem dX6_board_40 : decode cX6_board 40 = .ok (.invokevirtual 111, 3) := by decide +kernel
theorem dX6_board_43 : decode cX6_board 43 = .ok (.ifCond .eq 7, 3) := by decide +kernel
theorem dX6_board_46 : decode cX6_board 46 = .ok (.iconst 1, 1) := by decide +kernel
theorem dX6_board_47 : decode cX6_board 47 = .ok (.goto 4, 3) := by decide +kernel
theorem dX6_board_50 : decode cX6_board 50 = .ok (.iconst 0, 1) := by decide +kernel
theorem dX6_board_51 : decode cX6_board 51 = .ok (.istore 7, 2) := by decide +kernel
theorem dX6_board_53 : decode cX6_board 53 = .ok (.aload_n 0, 1) := by decide +kernel
theorem dX6_board_54 : decode cX6_board 54 = .ok (.iload 7, 2) := by decide +kernel
theorem dX6_board_56 : decode cX6_board 56 = .ok (.ifCond .eq 26, 3) := by decide +kernel
theorem dX6_board_59 : decode cX6_board 59 = .ok (.aload_n 0, 1) := by decide +kernel
theorem dX6_board_60 : decode cX6_board 60 = .ok (.iload 5, 2) := by decide +kernel
theorem dX6_board_62 : decode cX6_board 62 = .ok (.bipush 100, 2) := by decide +kernel
theorem dX6_board_64 : decode cX6_board 64 = .ok (.sipush 30000, 3) := by decide +kernel
theorem dX6_board_67 : decode cX6_board 67 = .ok (.invokevirtual 111, 3) := by decide +kernel
theorem dX6_board_70 : decode cX6_board 70 = .ok (.ifCond .eq 12, 3) := by decide +kernel
theorem dX6_board_73 : decode cX6_board 73 = .ok (.aload_n 0, 1) := by decide +kernel
theorem dX6_board_74 : decode cX6_board 74 = .ok (.iload 6, 2) := by decide +kernel
theorem dX6_board_76 : decode cX6_board 76 = .ok (.invokevirtual 121, 3) := by decide +kernel
theorem dX6_board_79 : decode cX6_board 79 = .ok (.ifCond .ne 7, 3) := by decide +kernel
theorem dX6_board_82 : decode cX6_board 82 = .ok (.iconst 1, 1) := by decide +kernel
theorem dX6_board_83 : decode cX6_board 83 = .ok (.goto 17, 3) := by decide +kernel
theorem dX6_board_86 : decode cX6_board 86 = .ok (.aload_n 0, 1) := by decide +kernel
theorem dX6_board_87 : decode cX6_board 87 = .ok (.getfield 108, 3) := by decide +kernel
theorem dX6_board_90 : decode cX6_board 90 = .ok (.bipush 20, 2) := by decide +kernel
theorem dX6_board_92 : decode cX6_board 92 = .ok (.if_icmp .ne 7, 3) := by decide +kernel
theorem dX6_board_95 : decode cX6_board 95 = .ok (.iconst 2, 1) := by decide +kernel
theorem dX6_board_96 : decode cX6_board 96 = .ok (.goto 4, 3) := by decide +kernel
theorem dX6_board_99 : decode cX6_board 99 = .ok (.iconst 0, 1) := by decide +kernel
theorem dX6_board_100 : decode cX6_board 100 = .ok (.putfield 105, 3) := by decide +kernel
theorem dX6_board_103 : decode cX6_board 103 = .ok (.iconst 0, 1) := by decide +kernel
theorem dX6_board_104 : decode cX6_board 104 = .ok (.istore 8, 2) := by decide +kernel
theorem dX6_board_106 : decode cX6_board 106 = .ok (.iload 8, 2) := by decide +kernel
theorem dX6_board_108 : decode cX6_board 108 = .ok (.aload_n 0, 1) := by decide +kernel
theorem dX6_board_109 : decode cX6_board 109 = .ok (.getfield 108, 3) := by decide +kernel
theorem dX6_board_112 : decode cX6_board 112 = .ok (.if_icmp .ge 73, 3) := by decide +kernel
theorem dX6_board_115 : decode cX6_board 115 = .ok (.aload_n 0, 1) := by decide +kernel
theorem dX6_board_116 : decode cX6_board 116 = .ok (.getfield 105, 3) := by decide +kernel
theorem dX6_board_119 : decode cX6_board 119 = .ok (.ifCond .ne 66, 3) := by decide +kernel
theorem dX6_board_122 : decode cX6_board 122 = .ok (.aload_n 0, 1) := by decide +kernel
theorem dX6_board_123 : decode cX6_board 123 = .ok (.getfield 23, 3) := by decide +kernel
theorem dX6_board_126 : decode cX6_board 126 = .ok (.iload 8, 2) := by decide +kernel
theorem dX6_board_128 : decode cX6_board 128 = .ok (.iaload, 1) := by decide +kernel
theorem dX6_board_129 : decode cX6_board 129 = .ok (.iload_n 2, 1) := by decide +kernel
theorem dX6_board_130 : decode cX6_board 130 = .ok (.if_icmp .ne 29, 3) := by decide +kernel
theorem dX6_board_133 : decode cX6_board 133 = .ok (.aload_n 0, 1) := by decide +kernel
theorem dX6_board_134 : decode cX6_board 134 = .ok (.getfield 26, 3) := by decide +kernel
theorem dX6_board_137 : decode cX6_board 137 = .ok (.iload 8, 2) := by decide +kernel
theorem dX6_board_139 : decode cX6_board 139 = .ok (.iaload, 1) := by decide +kernel
theorem dX6_board_140 : decode cX6_board 140 = .ok (.iload_n 3, 1) := by decide +kernel
theorem dX6_board_141 : decode cX6_board 141 = .ok (.if_icmp .eq 14, 3) := by decide +kernel
theorem dX6_board_144 : decode cX6_board 144 = .ok (.aload_n 0, 1) := by decide +kernel
theorem dX6_board_145 : decode cX6_board 145 = .ok (.getfield 20, 3) := by decide +kernel
theorem dX6_board_148 : decode cX6_board 148 = .ok (.iload 8, 2) := by decide +kernel
theorem dX6_board_150 : decode cX6_board 150 = .ok (.iaload, 1) := by decide +kernel
theorem dX6_board_151 : decode cX6_board 151 = .ok (.iload_n 1, 1) := by decide +kernel
theorem dX6_board_152 : decode cX6_board 152 = .ok (.if_icmp .eq 7, 3) := by decide +kernel
theorem dX6_board_155 : decode cX6_board 155 = .ok (.iconst 1, 1) := by decide +kernel
theorem dX6_board_156 : decode cX6_board 156 = .ok (.goto 4, 3) := by decide +kernel
theorem dX6_board_159 : decode cX6_board 159 = .ok (.iconst 0, 1) := by decide +kernel
theorem dX6_board_160 : decode cX6_board 160 = .ok (.istore 9, 2) := by decide +kernel
theorem dX6_board_162 : decode cX6_board 162 = .ok (.aload_n 0, 1) := by decide +kernel
theorem dX6_board_163 : decode cX6_board 163 = .ok (.iload 9, 2) := by decide +kernel
theorem dX6_board_165 : decode cX6_board 165 = .ok (.ifCond .eq 7, 3) := by decide +kernel
theorem dX6_board_168 : decode cX6_board 168 = .ok (.iconst 2, 1) := by decide +kernel
theorem dX6_board_169 : decode cX6_board 169 = .ok (.goto 7, 3) := by decide +kernel
theorem dX6_board_172 : decode cX6_board 172 = .ok (.aload_n 0, 1) := by decide +kernel
theorem dX6_board_173 : decode cX6_board 173 = .ok (.getfield 105, 3) := by decide +kernel
theorem dX6_board_176 : decode cX6_board 176 = .ok (.putfield 105, 3) := by decide +kernel
theorem dX6_board_179 : decode cX6_board 179 = .ok (.iinc 8 1, 3) := by decide +kernel
theorem dX6_board_182 : decode cX6_board 182 = .ok (.goto (-76), 3) := by decide +kernel
theorem dX6_board_185 : decode cX6_board 185 = .ok (.aload_n 0, 1) := by decide +kernel
theorem dX6_board_186 : decode cX6_board 186 = .ok (.getfield 105, 3) := by decide +kernel
theorem dX6_board_189 : decode cX6_board 189 = .ok (.ifCond .le 5, 3) := by decide +kernel
theorem dX6_board_192 : decode cX6_board 192 = .ok (.iconst 0, 1) := by decide +kernel
theorem dX6_board_193 : decode cX6_board 193 = .ok (.ireturn, 1) := by decide +kernel
theorem dX6_board_194 : decode cX6_board 194 = .ok (.aload_n 0, 1) := by decide +kernel
theorem dX6_board_195 : decode cX6_board 195 = .ok (.getfield 108, 3) := by decide +kernel
theorem dX6_board_198 : decode cX6_board 198 = .ok (.istore 8, 2) := by decide +kernel
theorem dX6_board_200 : decode cX6_board 200 = .ok (.aload_n 0, 1) := by decide +kernel
theorem dX6_board_201 : decode cX6_board 201 = .ok (.getfield 20, 3) := by decide +kernel
theorem dX6_board_204 : decode cX6_board 204 = .ok (.iload 8, 2) := by decide +kernel
theorem dX6_board_206 : decode cX6_board 206 = .ok (.iload_n 1, 1) := by decide +kernel
theorem dX6_board_207 : decode cX6_board 207 = .ok (.iastore, 1) := by decide +kernel
theorem dX6_board_208 : decode cX6_board 208 = .ok (.aload_n 0, 1) := by decide +kernel
theorem dX6_board_209 : decode cX6_board 209 = .ok (.getfield 23, 3) := by decide +kernel
theorem dX6_board_212 : decode cX6_board 212 = .ok (.iload 8, 2) := by decide +kernel
theorem dX6_board_214 : decode cX6_board 214 = .ok (.iload_n 2, 1) := by decide +kernel
theorem dX6_board_215 : decode cX6_board 215 = .ok (.iastore, 1) := by decide +kernel
theorem dX6_board_216 : decode cX6_board 216 = .ok (.aload_n 0, 1) := by decide +kernel
theorem dX6_board_217 : decode cX6_board 217 = .ok (.getfield 26, 3) := by decide +kernel
theorem dX6_board_220 : decode cX6_board 220 = .ok (.iload 8, 2) := by decide +kernel
theorem dX6_board_222 : decode cX6_board 222 = .ok (.iload_n 3, 1) := by decide +kernel
theorem dX6_board_223 : decode cX6_board 223 = .ok (.iastore, 1) := by decide +kernel
theorem dX6_board_224 : decode cX6_board 224 = .ok (.aload_n 0, 1) := by decide +kernel
theorem dX6_board_225 : decode cX6_board 225 = .ok (.getfield 29, 3) := by decide +kernel
theorem dX6_board_228 : decode cX6_board 228 = .ok (.iload 8, 2) := by decide +kernel
theorem dX6_board_230 : decode cX6_board 230 = .ok (.iload 4, 2) := by decide +kernel
theorem dX6_board_232 : decode cX6_board 232 = .ok (.iastore, 1) := by decide +kernel
theorem dX6_board_233 : decode cX6_board 233 = .ok (.aload_n 0, 1) := by decide +kernel
theorem dX6_board_234 : decode cX6_board 234 = .ok (.getfield 32, 3) := by decide +kernel
theorem dX6_board_237 : decode cX6_board 237 = .ok (.iload 8, 2) := by decide +kernel
theorem dX6_board_239 : decode cX6_board 239 = .ok (.iload 5, 2) := by decide +kernel
theorem dX6_board_241 : decode cX6_board 241 = .ok (.iastore, 1) := by decide +kernel
theorem dX6_board_242 : decode cX6_board 242 = .ok (.aload_n 0, 1) := by decide +kernel
theorem dX6_board_243 : decode cX6_board 243 = .ok (.getfield 35, 3) := by decide +kernel
theorem dX6_board_246 : decode cX6_board 246 = .ok (.iload 8, 2) := by decide +kernel
theorem dX6_board_248 : decode cX6_board 248 = .ok (.iload 6, 2) := by decide +kernel
theorem dX6_board_250 : decode cX6_board 250 = .ok (.iastore, 1) := by decide +kernel
theorem dX6_board_251 : decode cX6_board 251 = .ok (.aload_n 0, 1) := by decide +kernel
theorem dX6_board_252 : decode cX6_board 252 = .ok (.getfield 38, 3) := by decide +kernel
theorem dX6_board_255 : decode cX6_board 255 = .ok (.iload 8, 2) := by decide +kernel
theorem dX6_board_257 : decode cX6_board 257 = .ok (.iload 6, 2) := by decide +kernel
theorem dX6_board_259 : decode cX6_board 259 = .ok (.iastore, 1) := by decide +kernel
theorem dX6_board_260 : decode cX6_board 260 = .ok (.aload_n 0, 1) := by decide +kernel
theorem dX6_board_261 : decode cX6_board 261 = .ok (.dup, 1) := by decide +kernel
theorem dX6_board_262 : decode cX6_board 262 = .ok (.getfield 108, 3) := by decide +kernel
theorem dX6_board_265 : decode cX6_board 265 = .ok (.iconst 1, 1) := by decide +kernel
theorem dX6_board_266 : decode cX6_board 266 = .ok (.iadd, 1) := by decide +kernel
theorem dX6_board_267 : decode cX6_board 267 = .ok (.putfield 108, 3) := by decide +kernel
theorem dX6_board_270 : decode cX6_board 270 = .ok (.iload 8, 2) := by decide +kernel
theorem dX6_board_272 : decode cX6_board 272 = .ok (.ireturn, 1) := by decide +kernel
theorem dX6_boardWidth_0 : decode cX6_boardWidth 0 = .ok (.aload_n 0, 1) := by decide +kernel
theorem dX6_boardWidth_1 : decode cX6_boardWidth 1 = .ok (.getfield 29, 3) := by decide +kernel
theorem dX6_boardWidth_4 : decode cX6_boardWidth 4 = .ok (.iload_n 1, 1) := by decide +kernel
theorem dX6_boardWidth_5 : decode cX6_boardWidth 5 = .ok (.iaload, 1) := by decide +kernel
theorem dX6_boardWidth_6 : decode cX6_boardWidth 6 = .ok (.aload_n 0, 1) := by decide +kernel
theorem dX6_boardWidth_7 : decode cX6_boardWidth 7 = .ok (.aload_n 0, 1) := by decide +kernel
theorem dX6_boardWidth_8 : decode cX6_boardWidth 8 = .ok (.getfield 29, 3) := by decide +kernel
theorem dX6_boardWidth_11 : decode cX6_boardWidth 11 = .ok (.iload_n 1, 1) := by decide +kernel
theorem dX6_boardWidth_12 : decode cX6_boardWidth 12 = .ok (.iaload, 1) := by decide +kernel
theorem dX6_boardWidth_13 : decode cX6_boardWidth 13 = .ok (.aload_n 0, 1) := by decide +kernel
theorem dX6_boardWidth_14 : decode cX6_boardWidth 14 = .ok (.getfield 20, 3) := by decide +kernel
theorem dX6_boardWidth_17 : decode cX6_boardWidth 17 = .ok (.iload_n 1, 1) := by decide +kernel
theorem dX6_boardWidth_18 : decode cX6_boardWidth 18 = .ok (.iaload, 1) := by decide +kernel
theorem dX6_boardWidth_19 : decode cX6_boardWidth 19 = .ok (.aload_n 0, 1) := by decide +kernel
theorem dX6_boardWidth_20 : decode cX6_boardWidth 20 = .ok (.getfield 38, 3) := by decide +kernel
theorem dX6_boardWidth_23 : decode cX6_boardWidth 23 = .ok (.iload_n 1, 1) := by decide +kernel
theorem dX6_boardWidth_24 : decode cX6_boardWidth 24 = .ok (.iaload, 1) := by decide +kernel
theorem dX6_boardWidth_25 : decode cX6_boardWidth 25 = .ok (.aload_n 0, 1) := by decide +kernel
theorem dX6_boardWidth_26 : decode cX6_boardWidth 26 = .ok (.getfield 35, 3) := by decide +kernel
theorem dX6_boardWidth_29 : decode cX6_boardWidth 29 = .ok (.iload_n 1, 1) := by decide +kernel
theorem dX6_boardWidth_30 : decode cX6_boardWidth 30 = .ok (.iaload, 1) := by decide +kernel
theorem dX6_boardWidth_31 : decode cX6_boardWidth 31 = .ok (.isub, 1) := by decide +kernel
theorem dX6_boardWidth_32 : decode cX6_boardWidth 32 = .ok (.invokevirtual 132, 3) := by decide +kernel
theorem dX6_boardWidth_35 : decode cX6_boardWidth 35 = .ok (.iadd, 1) := by decide +kernel
theorem dX6_boardWidth_36 : decode cX6_boardWidth 36 = .ok (.ireturn, 1) := by decide +kernel
theorem dX6_isTaken_0 : decode cX6_isTaken 0 = .ok (.iconst 0, 1) := by decide +kernel
theorem dX6_isTaken_1 : decode cX6_isTaken 1 = .ok (.istore 4, 2) := by decide +kernel
theorem dX6_isTaken_3 : decode cX6_isTaken 3 = .ok (.iconst 0, 1) := by decide +kernel
theorem dX6_isTaken_4 : decode cX6_isTaken 4 = .ok (.istore 5, 2) := by decide +kernel
theorem dX6_isTaken_6 : decode cX6_isTaken 6 = .ok (.iload 5, 2) := by decide +kernel
theorem dX6_isTaken_8 : decode cX6_isTaken 8 = .ok (.aload_n 0, 1) := by decide +kernel
theorem dX6_isTaken_9 : decode cX6_isTaken 9 = .ok (.getfield 115, 3) := by decide +kernel
theorem dX6_isTaken_12 : decode cX6_isTaken 12 = .ok (.if_icmp .ge 68, 3) := by decide +kernel
theorem dX6_isTaken_15 : decode cX6_isTaken 15 = .ok (.iload 4, 2) := by decide +kernel
theorem dX6_isTaken_17 : decode cX6_isTaken 17 = .ok (.ifCond .ne 50, 3) := by decide +kernel
theorem dX6_isTaken_20 : decode cX6_isTaken 20 = .ok (.aload_n 0, 1) := by decide +kernel
theorem dX6_isTaken_21 : decode cX6_isTaken 21 = .ok (.getfield 50, 3) := by decide +kernel
theorem dX6_isTaken_24 : decode cX6_isTaken 24 = .ok (.iload 5, 2) := by decide +kernel
theorem dX6_isTaken_26 : decode cX6_isTaken 26 = .ok (.iaload, 1) := by decide +kernel
theorem dX6_isTaken_27 : decode cX6_isTaken 27 = .ok (.iload_n 1, 1) := by decide +kernel
theorem dX6_isTaken_28 : decode cX6_isTaken 28 = .ok (.if_icmp .ne 43, 3) := by decide +kernel
theorem dX6_isTaken_31 : decode cX6_isTaken 31 = .ok (.iload_n 2, 1) := by decide +kernel
theorem dX6_isTaken_32 : decode cX6_isTaken 32 = .ok (.aload_n 0, 1) := by decide +kernel
theorem dX6_isTaken_33 : decode cX6_isTaken 33 = .ok (.getfield 53, 3) := by decide +kernel
theorem dX6_isTaken_36 : decode cX6_isTaken 36 = .ok (.iload 5, 2) := by decide +kernel
theorem dX6_isTaken_38 : decode cX6_isTaken 38 = .ok (.iaload, 1) := by decide +kernel
theorem dX6_isTaken_39 : decode cX6_isTaken 39 = .ok (.aload_n 0, 1) := by decide +kernel
theorem dX6_isTaken_40 : decode cX6_isTaken 40 = .ok (.getfield 56, 3) := by decide +kernel
theorem dX6_isTaken_43 : decode cX6_isTaken 43 = .ok (.iload 5, 2) := by decide +kernel
theorem dX6_isTaken_45 : decode cX6_isTaken 45 = .ok (.iaload, 1) := by decide +kernel
theorem dX6_isTaken_46 : decode cX6_isTaken 46 = .ok (.iadd, 1) := by decide +kernel
theorem dX6_isTaken_47 : decode cX6_isTaken 47 = .ok (.bipush 30, 2) := by decide +kernel
theorem dX6_isTaken_49 : decode cX6_isTaken 49 = .ok (.iadd, 1) := by decide +kernel
theorem dX6_isTaken_50 : decode cX6_isTaken 50 = .ok (.if_icmp .ge 21, 3) := by decide +kernel
theorem dX6_isTaken_53 : decode cX6_isTaken 53 = .ok (.iload_n 3, 1) := by decide +kernel
theorem dX6_isTaken_54 : decode cX6_isTaken 54 = .ok (.aload_n 0, 1) := by decide +kernel
theorem dX6_isTaken_55 : decode cX6_isTaken 55 = .ok (.getfield 53, 3) := by decide +kernel
theorem dX6_isTaken_58 : decode cX6_isTaken 58 = .ok (.iload 5, 2) := by decide +kernel
theorem dX6_isTaken_60 : decode cX6_isTaken 60 = .ok (.iaload, 1) := by decide +kernel
theorem dX6_isTaken_61 : decode cX6_isTaken 61 = .ok (.bipush 30, 2) := by decide +kernel
theorem dX6_isTaken_63 : decode cX6_isTaken 63 = .ok (.isub, 1) := by decide +kernel
theorem dX6_isTaken_64 : decode cX6_isTaken 64 = .ok (.if_icmp .le 7, 3) := by decide +kernel
theorem dX6_isTaken_67 : decode cX6_isTaken 67 = .ok (.iconst 1, 1) := by decide +kernel
theorem dX6_isTaken_68 : decode cX6_isTaken 68 = .ok (.goto 4, 3) := by decide +kernel
theorem dX6_isTaken_71 : decode cX6_isTaken 71 = .ok (.iconst 0, 1) := by decide +kernel
theorem dX6_isTaken_72 : decode cX6_isTaken 72 = .ok (.istore 4, 2) := by decide +kernel
theorem dX6_isTaken_74 : decode cX6_isTaken 74 = .ok (.iinc 5 1, 3) := by decide +kernel
theorem dX6_isTaken_77 : decode cX6_isTaken 77 = .ok (.goto (-71), 3) := by decide +kernel
theorem dX6_isTaken_80 : decode cX6_isTaken 80 = .ok (.iload 4, 2) := by decide +kernel
theorem dX6_isTaken_82 : decode cX6_isTaken 82 = .ok (.ireturn, 1) := by decide +kernel
theorem dX6_hasKnot_0 : decode cX6_hasKnot 0 = .ok (.iconst 0, 1) := by decide +kernel
theorem dX6_hasKnot_1 : decode cX6_hasKnot 1 = .ok (.istore 4, 2) := by decide +kernel
theorem dX6_hasKnot_3 : decode cX6_hasKnot 3 = .ok (.iconst 0, 1) := by decide +kernel
theorem dX6_hasKnot_4 : decode cX6_hasKnot 4 = .ok (.istore 5, 2) := by decide +kernel
theorem dX6_hasKnot_6 : decode cX6_hasKnot 6 = .ok (.iload 5, 2) := by decide +kernel
theorem dX6_hasKnot_8 : decode cX6_hasKnot 8 = .ok (.aload_n 0, 1) := by decide +kernel
theorem dX6_hasKnot_9 : decode cX6_hasKnot 9 = .ok (.getfield 41, 3) := by decide +kernel
theorem dX6_hasKnot_12 : decode cX6_hasKnot 12 = .ok (.iload_n 1, 1) := by decide +kernel
theorem dX6_hasKnot_13 : decode cX6_hasKnot 13 = .ok (.iaload, 1) := by decide +kernel
theorem dX6_hasKnot_14 : decode cX6_hasKnot 14 = .ok (.if_icmp .ge 51, 3) := by decide +kernel
theorem dX6_hasKnot_17 : decode cX6_hasKnot 17 = .ok (.iload 4, 2) := by decide +kernel
theorem dX6_hasKnot_19 : decode cX6_hasKnot 19 = .ok (.ifCond .ne 33, 3) := by decide +kernel
theorem dX6_hasKnot_22 : decode cX6_hasKnot 22 = .ok (.iload_n 2, 1) := by decide +kernel
theorem dX6_hasKnot_23 : decode cX6_hasKnot 23 = .ok (.aload_n 0, 1) := by decide +kernel
theorem dX6_hasKnot_24 : decode cX6_hasKnot 24 = .ok (.getfield 47, 3) := by decide +kernel
theorem dX6_hasKnot_27 : decode cX6_hasKnot 27 = .ok (.iconst 4, 1) := by decide +kernel
theorem dX6_hasKnot_28 : decode cX6_hasKnot 28 = .ok (.iload_n 1, 1) := by decide +kernel
theorem dX6_hasKnot_29 : decode cX6_hasKnot 29 = .ok (.imul, 1) := by decide +kernel
theorem dX6_hasKnot_30 : decode cX6_hasKnot 30 = .ok (.iload 5, 2) := by decide +kernel
theorem dX6_hasKnot_32 : decode cX6_hasKnot 32 = .ok (.iadd, 1) := by decide +kernel
theorem dX6_hasKnot_33 : decode cX6_hasKnot 33 = .ok (.iaload, 1) := by decide +kernel
theorem dX6_hasKnot_34 : decode cX6_hasKnot 34 = .ok (.if_icmp .ge 22, 3) := by decide +kernel
theorem dX6_hasKnot_37 : decode cX6_hasKnot 37 = .ok (.iload_n 3, 1) := by decide +kernel
theorem dX6_hasKnot_38 : decode cX6_hasKnot 38 = .ok (.aload_n 0, 1) := by decide +kernel
theorem dX6_hasKnot_39 : decode cX6_hasKnot 39 = .ok (.getfield 44, 3) := by decide +kernel
theorem dX6_hasKnot_42 : decode cX6_hasKnot 42 = .ok (.iconst 4, 1) := by decide +kernel
theorem dX6_hasKnot_43 : decode cX6_hasKnot 43 = .ok (.iload_n 1, 1) := by decide +kernel
theorem dX6_hasKnot_44 : decode cX6_hasKnot 44 = .ok (.imul, 1) := by decide +kernel
theorem dX6_hasKnot_45 : decode cX6_hasKnot 45 = .ok (.iload 5, 2) := by decide +kernel
theorem dX6_hasKnot_47 : decode cX6_hasKnot 47 = .ok (.iadd, 1) := by decide +kernel
theorem dX6_hasKnot_48 : decode cX6_hasKnot 48 = .ok (.iaload, 1) := by decide +kernel
theorem dX6_hasKnot_49 : decode cX6_hasKnot 49 = .ok (.if_icmp .le 7, 3) := by decide +kernel
theorem dX6_hasKnot_52 : decode cX6_hasKnot 52 = .ok (.iconst 1, 1) := by decide +kernel
theorem dX6_hasKnot_53 : decode cX6_hasKnot 53 = .ok (.goto 4, 3) := by decide +kernel
theorem dX6_hasKnot_56 : decode cX6_hasKnot 56 = .ok (.iconst 0, 1) := by decide +kernel
theorem dX6_hasKnot_57 : decode cX6_hasKnot 57 = .ok (.istore 4, 2) := by decide +kernel
theorem dX6_hasKnot_59 : decode cX6_hasKnot 59 = .ok (.iinc 5 1, 3) := by decide +kernel
theorem dX6_hasKnot_62 : decode cX6_hasKnot 62 = .ok (.goto (-56), 3) := by decide +kernel
theorem dX6_hasKnot_65 : decode cX6_hasKnot 65 = .ok (.iload 4, 2) := by decide +kernel
theorem dX6_hasKnot_67 : decode cX6_hasKnot 67 = .ok (.ireturn, 1) := by decide +kernel
theorem dX6_knot_0 : decode cX6_knot 0 = .ok (.aload_n 0, 1) := by decide +kernel
theorem dX6_knot_1 : decode cX6_knot 1 = .ok (.aload_n 0, 1) := by decide +kernel
theorem dX6_knot_2 : decode cX6_knot 2 = .ok (.iload_n 1, 1) := by decide +kernel
theorem dX6_knot_3 : decode cX6_knot 3 = .ok (.invokevirtual 150, 3) := by decide +kernel
theorem dX6_knot_6 : decode cX6_knot 6 = .ok (.ifCond .ne 7, 3) := by decide +kernel
theorem dX6_knot_9 : decode cX6_knot 9 = .ok (.iconst 1, 1) := by decide +kernel
theorem dX6_knot_10 : decode cX6_knot 10 = .ok (.goto 4, 3) := by decide +kernel
theorem dX6_knot_13 : decode cX6_knot 13 = .ok (.iconst 0, 1) := by decide +kernel
theorem dX6_knot_14 : decode cX6_knot 14 = .ok (.putfield 105, 3) := by decide +kernel
theorem dX6_knot_17 : decode cX6_knot 17 = .ok (.aload_n 0, 1) := by decide +kernel
theorem dX6_knot_18 : decode cX6_knot 18 = .ok (.getfield 105, 3) := by decide +kernel
theorem dX6_knot_21 : decode cX6_knot 21 = .ok (.ifCond .ne 82, 3) := by decide +kernel
theorem dX6_knot_24 : decode cX6_knot 24 = .ok (.aload_n 0, 1) := by decide +kernel
theorem dX6_knot_25 : decode cX6_knot 25 = .ok (.iload_n 2, 1) := by decide +kernel
theorem dX6_knot_26 : decode cX6_knot 26 = .ok (.iconst 0, 1) := by decide +kernel
theorem dX6_knot_27 : decode cX6_knot 27 = .ok (.aload_n 0, 1) := by decide +kernel
theorem dX6_knot_28 : decode cX6_knot 28 = .ok (.getfield 32, 3) := by decide +kernel
theorem dX6_knot_31 : decode cX6_knot 31 = .ok (.iload_n 1, 1) := by decide +kernel
theorem dX6_knot_32 : decode cX6_knot 32 = .ok (.iaload, 1) := by decide +kernel
theorem dX6_knot_33 : decode cX6_knot 33 = .ok (.iconst 1, 1) := by decide +kernel
theorem dX6_knot_34 : decode cX6_knot 34 = .ok (.isub, 1) := by decide +kernel
theorem dX6_knot_35 : decode cX6_knot 35 = .ok (.invokevirtual 111, 3) := by decide +kernel
theorem dX6_knot_38 : decode cX6_knot 38 = .ok (.ifCond .eq 24, 3) := by decide +kernel
theorem dX6_knot_41 : decode cX6_knot 41 = .ok (.aload_n 0, 1) := by decide +kernel
theorem dX6_knot_42 : decode cX6_knot 42 = .ok (.iload_n 3, 1) := by decide +kernel
theorem dX6_knot_43 : decode cX6_knot 43 = .ok (.iload_n 2, 1) := by decide +kernel
theorem dX6_knot_44 : decode cX6_knot 44 = .ok (.iconst 1, 1) := by decide +kernel
theorem dX6_knot_45 : decode cX6_knot 45 = .ok (.iadd, 1) := by decide +kernel
theorem dX6_knot_46 : decode cX6_knot 46 = .ok (.aload_n 0, 1) := by decide +kernel
theorem dX6_knot_47 : decode cX6_knot 47 = .ok (.getfield 32, 3) := by decide +kernel
theorem dX6_knot_50 : decode cX6_knot 50 = .ok (.iload_n 1, 1) := by decide +kernel
theorem dX6_knot_51 : decode cX6_knot 51 = .ok (.iaload, 1) := by decide +kernel
theorem dX6_knot_52 : decode cX6_knot 52 = .ok (.invokevirtual 111, 3) := by decide +kernel
theorem dX6_knot_55 : decode cX6_knot 55 = .ok (.ifCond .eq 7, 3) := by decide +kernel
theorem dX6_knot_58 : decode cX6_knot 58 = .ok (.iconst 1, 1) := by decide +kernel
theorem dX6_knot_59 : decode cX6_knot 59 = .ok (.goto 4, 3) := by decide +kernel
theorem dX6_knot_62 : decode cX6_knot 62 = .ok (.iconst 0, 1) := by decide +kernel
theorem dX6_knot_63 : decode cX6_knot 63 = .ok (.istore 4, 2) := by decide +kernel
theorem dX6_knot_65 : decode cX6_knot 65 = .ok (.aload_n 0, 1) := by decide +kernel
theorem dX6_knot_66 : decode cX6_knot 66 = .ok (.iload 4, 2) := by decide +kernel
theorem dX6_knot_68 : decode cX6_knot 68 = .ok (.ifCond .ne 7, 3) := by decide +kernel
theorem dX6_knot_71 : decode cX6_knot 71 = .ok (.iconst 2, 1) := by decide +kernel
theorem dX6_knot_72 : decode cX6_knot 72 = .ok (.goto 28, 3) := by decide +kernel
theorem dX6_knot_75 : decode cX6_knot 75 = .ok (.aload_n 0, 1) := by decide +kernel
theorem dX6_knot_76 : decode cX6_knot 76 = .ok (.getfield 41, 3) := by decide +kernel
theorem dX6_knot_79 : decode cX6_knot 79 = .ok (.iload_n 1, 1) := by decide +kernel
theorem dX6_knot_80 : decode cX6_knot 80 = .ok (.iaload, 1) := by decide +kernel
theorem dX6_knot_81 : decode cX6_knot 81 = .ok (.iconst 4, 1) := by decide +kernel
theorem dX6_knot_82 : decode cX6_knot 82 = .ok (.if_icmp .eq 13, 3) := by decide +kernel
theorem dX6_knot_85 : decode cX6_knot 85 = .ok (.aload_n 0, 1) := by decide +kernel
theorem dX6_knot_86 : decode cX6_knot 86 = .ok (.iload_n 1, 1) := by decide +kernel
theorem dX6_knot_87 : decode cX6_knot 87 = .ok (.iload_n 2, 1) := by decide +kernel
theorem dX6_knot_88 : decode cX6_knot 88 = .ok (.iload_n 3, 1) := by decide +kernel
theorem dX6_knot_89 : decode cX6_knot 89 = .ok (.invokevirtual 153, 3) := by decide +kernel
theorem dX6_knot_92 : decode cX6_knot 92 = .ok (.ifCond .eq 7, 3) := by decide +kernel
theorem dX6_knot_95 : decode cX6_knot 95 = .ok (.iconst 3, 1) := by decide +kernel
theorem dX6_knot_96 : decode cX6_knot 96 = .ok (.goto 4, 3) := by decide +kernel
theorem dX6_knot_99 : decode cX6_knot 99 = .ok (.iconst 0, 1) := by decide +kernel
theorem dX6_knot_100 : decode cX6_knot 100 = .ok (.putfield 105, 3) := by decide +kernel
theorem dX6_knot_103 : decode cX6_knot 103 = .ok (.aload_n 0, 1) := by decide +kernel
theorem dX6_knot_104 : decode cX6_knot 104 = .ok (.getfield 105, 3) := by decide +kernel
theorem dX6_knot_107 : decode cX6_knot 107 = .ok (.ifCond .le 5, 3) := by decide +kernel
theorem dX6_knot_110 : decode cX6_knot 110 = .ok (.iconst 0, 1) := by decide +kernel
theorem dX6_knot_111 : decode cX6_knot 111 = .ok (.ireturn, 1) := by decide +kernel
theorem dX6_knot_112 : decode cX6_knot 112 = .ok (.aload_n 0, 1) := by decide +kernel
theorem dX6_knot_113 : decode cX6_knot 113 = .ok (.getfield 44, 3) := by decide +kernel
theorem dX6_knot_116 : decode cX6_knot 116 = .ok (.iconst 4, 1) := by decide +kernel
theorem dX6_knot_117 : decode cX6_knot 117 = .ok (.iload_n 1, 1) := by decide +kernel
theorem dX6_knot_118 : decode cX6_knot 118 = .ok (.imul, 1) := by decide +kernel
theorem dX6_knot_119 : decode cX6_knot 119 = .ok (.aload_n 0, 1) := by decide +kernel
theorem dX6_knot_120 : decode cX6_knot 120 = .ok (.getfield 41, 3) := by decide +kernel
theorem dX6_knot_123 : decode cX6_knot 123 = .ok (.iload_n 1, 1) := by decide +kernel
theorem dX6_knot_124 : decode cX6_knot 124 = .ok (.iaload, 1) := by decide +kernel
theorem dX6_knot_125 : decode cX6_knot 125 = .ok (.iadd, 1) := by decide +kernel
theorem dX6_knot_126 : decode cX6_knot 126 = .ok (.iload_n 2, 1) := by decide +kernel
theorem dX6_knot_127 : decode cX6_knot 127 = .ok (.iastore, 1) := by decide +kernel
theorem dX6_knot_128 : decode cX6_knot 128 = .ok (.aload_n 0, 1) := by decide +kernel
theorem dX6_knot_129 : decode cX6_knot 129 = .ok (.getfield 47, 3) := by decide +kernel
theorem dX6_knot_132 : decode cX6_knot 132 = .ok (.iconst 4, 1) := by decide +kernel
theorem dX6_knot_133 : decode cX6_knot 133 = .ok (.iload_n 1, 1) := by decide +kernel
theorem dX6_knot_134 : decode cX6_knot 134 = .ok (.imul, 1) := by decide +kernel
theorem dX6_knot_135 : decode cX6_knot 135 = .ok (.aload_n 0, 1) := by decide +kernel
theorem dX6_knot_136 : decode cX6_knot 136 = .ok (.getfield 41, 3) := by decide +kernel
theorem dX6_knot_139 : decode cX6_knot 139 = .ok (.iload_n 1, 1) := by decide +kernel
theorem dX6_knot_140 : decode cX6_knot 140 = .ok (.iaload, 1) := by decide +kernel
theorem dX6_knot_141 : decode cX6_knot 141 = .ok (.iadd, 1) := by decide +kernel
theorem dX6_knot_142 : decode cX6_knot 142 = .ok (.iload_n 3, 1) := by decide +kernel
theorem dX6_knot_143 : decode cX6_knot 143 = .ok (.iastore, 1) := by decide +kernel
theorem dX6_knot_144 : decode cX6_knot 144 = .ok (.aload_n 0, 1) := by decide +kernel
theorem dX6_knot_145 : decode cX6_knot 145 = .ok (.getfield 41, 3) := by decide +kernel
theorem dX6_knot_148 : decode cX6_knot 148 = .ok (.iload_n 1, 1) := by decide +kernel
theorem dX6_knot_149 : decode cX6_knot 149 = .ok (.dup2, 1) := by decide +kernel
theorem dX6_knot_150 : decode cX6_knot 150 = .ok (.iaload, 1) := by decide +kernel
theorem dX6_knot_151 : decode cX6_knot 151 = .ok (.iconst 1, 1) := by decide +kernel
theorem dX6_knot_152 : decode cX6_knot 152 = .ok (.iadd, 1) := by decide +kernel
theorem dX6_knot_153 : decode cX6_knot 153 = .ok (.iastore, 1) := by decide +kernel
theorem dX6_knot_154 : decode cX6_knot 154 = .ok (.aload_n 0, 1) := by decide +kernel
theorem dX6_knot_155 : decode cX6_knot 155 = .ok (.getfield 41, 3) := by decide +kernel
theorem dX6_knot_158 : decode cX6_knot 158 = .ok (.iload_n 1, 1) := by decide +kernel
theorem dX6_knot_159 : decode cX6_knot 159 = .ok (.iaload, 1) := by decide +kernel
theorem dX6_knot_160 : decode cX6_knot 160 = .ok (.ireturn, 1) := by decide +kernel
theorem dX6_cut_0 : decode cX6_cut 0 = .ok (.aload_n 0, 1) := by decide +kernel
theorem dX6_cut_1 : decode cX6_cut 1 = .ok (.aload_n 0, 1) := by decide +kernel
theorem dX6_cut_2 : decode cX6_cut 2 = .ok (.iload_n 1, 1) := by decide +kernel
theorem dX6_cut_3 : decode cX6_cut 3 = .ok (.invokevirtual 150, 3) := by decide +kernel
theorem dX6_cut_6 : decode cX6_cut 6 = .ok (.ifCond .ne 7, 3) := by decide +kernel
theorem dX6_cut_9 : decode cX6_cut 9 = .ok (.iconst 1, 1) := by decide +kernel
theorem dX6_cut_10 : decode cX6_cut 10 = .ok (.goto 47, 3) := by decide +kernel
theorem dX6_cut_13 : decode cX6_cut 13 = .ok (.aload_n 0, 1) := by decide +kernel
theorem dX6_cut_14 : decode cX6_cut 14 = .ok (.iload_n 2, 1) := by decide +kernel
theorem dX6_cut_15 : decode cX6_cut 15 = .ok (.iconst 0, 1) := by decide +kernel
theorem dX6_cut_16 : decode cX6_cut 16 = .ok (.sipush 30000, 3) := by decide +kernel
theorem dX6_cut_19 : decode cX6_cut 19 = .ok (.invokevirtual 111, 3) := by decide +kernel
theorem dX6_cut_22 : decode cX6_cut 22 = .ok (.ifCond .eq 30, 3) := by decide +kernel
theorem dX6_cut_25 : decode cX6_cut 25 = .ok (.aload_n 0, 1) := by decide +kernel
theorem dX6_cut_26 : decode cX6_cut 26 = .ok (.iload_n 3, 1) := by decide +kernel
theorem dX6_cut_27 : decode cX6_cut 27 = .ok (.bipush 10, 2) := by decide +kernel
theorem dX6_cut_29 : decode cX6_cut 29 = .ok (.sipush 30000, 3) := by decide +kernel
theorem dX6_cut_32 : decode cX6_cut 32 = .ok (.invokevirtual 111, 3) := by decide +kernel
theorem dX6_cut_35 : decode cX6_cut 35 = .ok (.ifCond .eq 17, 3) := by decide +kernel
theorem dX6_cut_38 : decode cX6_cut 38 = .ok (.aload_n 0, 1) := by decide +kernel
theorem dX6_cut_39 : decode cX6_cut 39 = .ok (.iload 4, 2) := by decide +kernel
theorem dX6_cut_41 : decode cX6_cut 41 = .ok (.bipush 10, 2) := by decide +kernel
theorem dX6_cut_43 : decode cX6_cut 43 = .ok (.sipush 6000, 3) := by decide +kernel
theorem dX6_cut_46 : decode cX6_cut 46 = .ok (.invokevirtual 111, 3) := by decide +kernel
theorem dX6_cut_49 : decode cX6_cut 49 = .ok (.ifCond .ne 7, 3) := by decide +kernel
theorem dX6_cut_52 : decode cX6_cut 52 = .ok (.iconst 2, 1) := by decide +kernel
theorem dX6_cut_53 : decode cX6_cut 53 = .ok (.goto 4, 3) := by decide +kernel
theorem dX6_cut_56 : decode cX6_cut 56 = .ok (.iconst 0, 1) := by decide +kernel
theorem dX6_cut_57 : decode cX6_cut 57 = .ok (.putfield 105, 3) := by decide +kernel
theorem dX6_cut_60 : decode cX6_cut 60 = .ok (.aload_n 0, 1) := by decide +kernel
theorem dX6_cut_61 : decode cX6_cut 61 = .ok (.getfield 105, 3) := by decide +kernel
theorem dX6_cut_64 : decode cX6_cut 64 = .ok (.ifCond .ne 115, 3) := by decide +kernel
theorem dX6_cut_67 : decode cX6_cut 67 = .ok (.aload_n 0, 1) := by decide +kernel
theorem dX6_cut_68 : decode cX6_cut 68 = .ok (.getfield 115, 3) := by decide +kernel
theorem dX6_cut_71 : decode cX6_cut 71 = .ok (.bipush 40, 2) := by decide +kernel
theorem dX6_cut_73 : decode cX6_cut 73 = .ok (.if_icmp .ge 41, 3) := by decide +kernel
theorem dX6_cut_76 : decode cX6_cut 76 = .ok (.iload_n 2, 1) := by decide +kernel
theorem dX6_cut_77 : decode cX6_cut 77 = .ok (.iload_n 3, 1) := by decide +kernel
theorem dX6_cut_78 : decode cX6_cut 78 = .ok (.iadd, 1) := by decide +kernel
theorem dX6_cut_79 : decode cX6_cut 79 = .ok (.aload_n 0, 1) := by decide +kernel
theorem dX6_cut_80 : decode cX6_cut 80 = .ok (.getfield 32, 3) := by decide +kernel
theorem dX6_cut_83 : decode cX6_cut 83 = .ok (.iload_n 1, 1) := by decide +kernel
theorem dX6_cut_84 : decode cX6_cut 84 = .ok (.iaload, 1) := by decide +kernel
theorem dX6_cut_85 : decode cX6_cut 85 = .ok (.if_icmp .gt 29, 3) := by decide +kernel
theorem dX6_cut_88 : decode cX6_cut 88 = .ok (.aload_n 0, 1) := by decide +kernel
theorem dX6_cut_89 : decode cX6_cut 89 = .ok (.iload_n 1, 1) := by decide +kernel
theorem dX6_cut_90 : decode cX6_cut 90 = .ok (.iload_n 2, 1) := by decide +kernel
theorem dX6_cut_91 : decode cX6_cut 91 = .ok (.iload_n 2, 1) := by decide +kernel
theorem dX6_cut_92 : decode cX6_cut 92 = .ok (.iload_n 3, 1) := by decide +kernel
theorem dX6_cut_93 : decode cX6_cut 93 = .ok (.iadd, 1) := by decide +kernel
theorem dX6_cut_94 : decode cX6_cut 94 = .ok (.invokevirtual 153, 3) := by decide +kernel
theorem dX6_cut_97 : decode cX6_cut 97 = .ok (.ifCond .ne 17, 3) := by decide +kernel
theorem dX6_cut_100 : decode cX6_cut 100 = .ok (.iload 4, 2) := by decide +kernel
theorem dX6_cut_102 : decode cX6_cut 102 = .ok (.aload_n 0, 1) := by decide +kernel
theorem dX6_cut_103 : decode cX6_cut 103 = .ok (.iload_n 1, 1) := by decide +kernel
theorem dX6_cut_104 : decode cX6_cut 104 = .ok (.invokevirtual 156, 3) := by decide +kernel
theorem dX6_cut_107 : decode cX6_cut 107 = .ok (.if_icmp .gt 7, 3) := by decide +kernel
theorem dX6_cut_110 : decode cX6_cut 110 = .ok (.iconst 1, 1) := by decide +kernel
theorem dX6_cut_111 : decode cX6_cut 111 = .ok (.goto 4, 3) := by decide +kernel
theorem dX6_cut_114 : decode cX6_cut 114 = .ok (.iconst 0, 1) := by decide +kernel
theorem dX6_cut_115 : decode cX6_cut 115 = .ok (.istore 6, 2) := by decide +kernel
theorem dX6_cut_117 : decode cX6_cut 117 = .ok (.iload 5, 2) := by decide +kernel
theorem dX6_cut_119 : decode cX6_cut 119 = .ok (.ifCond .ne 15, 3) := by decide +kernel
theorem dX6_cut_122 : decode cX6_cut 122 = .ok (.aload_n 0, 1) := by decide +kernel
theorem dX6_cut_123 : decode cX6_cut 123 = .ok (.iload_n 1, 1) := by decide +kernel
theorem dX6_cut_124 : decode cX6_cut 124 = .ok (.iload_n 2, 1) := by decide +kernel
theorem dX6_cut_125 : decode cX6_cut 125 = .ok (.iload_n 2, 1) := by decide +kernel
theorem dX6_cut_126 : decode cX6_cut 126 = .ok (.iload_n 3, 1) := by decide +kernel
theorem dX6_cut_127 : decode cX6_cut 127 = .ok (.iadd, 1) := by decide +kernel
theorem dX6_cut_128 : decode cX6_cut 128 = .ok (.invokevirtual 159, 3) := by decide +kernel
theorem dX6_cut_131 : decode cX6_cut 131 = .ok (.ifCond .ne 7, 3) := by decide +kernel
theorem dX6_cut_134 : decode cX6_cut 134 = .ok (.iconst 1, 1) := by decide +kernel
theorem dX6_cut_135 : decode cX6_cut 135 = .ok (.goto 4, 3) := by decide +kernel
theorem dX6_cut_138 : decode cX6_cut 138 = .ok (.iconst 0, 1) := by decide +kernel
theorem dX6_cut_139 : decode cX6_cut 139 = .ok (.istore 7, 2) := by decide +kernel
theorem dX6_cut_141 : decode cX6_cut 141 = .ok (.aload_n 0, 1) := by decide +kernel
theorem dX6_cut_142 : decode cX6_cut 142 = .ok (.iload 6, 2) := by decide +kernel
theorem dX6_cut_144 : decode cX6_cut 144 = .ok (.ifCond .eq 31, 3) := by decide +kernel
theorem dX6_cut_147 : decode cX6_cut 147 = .ok (.iload 7, 2) := by decide +kernel
theorem dX6_cut_149 : decode cX6_cut 149 = .ok (.ifCond .eq 26, 3) := by decide +kernel
theorem dX6_cut_152 : decode cX6_cut 152 = .ok (.aload_n 0, 1) := by decide +kernel
theorem dX6_cut_153 : decode cX6_cut 153 = .ok (.getfield 13, 3) := by decide +kernel
theorem dX6_cut_156 : decode cX6_cut 156 = .ok (.iconst 0, 1) := by decide +kernel
theorem dX6_cut_157 : decode cX6_cut 157 = .ok (.iaload, 1) := by decide +kernel
theorem dX6_cut_158 : decode cX6_cut 158 = .ok (.aload_n 0, 1) := by decide +kernel
theorem dX6_cut_159 : decode cX6_cut 159 = .ok (.aload_n 0, 1) := by decide +kernel
theorem dX6_cut_160 : decode cX6_cut 160 = .ok (.getfield 20, 3) := by decide +kernel
theorem dX6_cut_163 : decode cX6_cut 163 = .ok (.iload_n 1, 1) := by decide +kernel
theorem dX6_cut_164 : decode cX6_cut 164 = .ok (.iaload, 1) := by decide +kernel
theorem dX6_cut_165 : decode cX6_cut 165 = .ok (.invokevirtual 162, 3) := by decide +kernel
theorem dX6_cut_168 : decode cX6_cut 168 = .ok (.if_icmp .lt 7, 3) := by decide +kernel
theorem dX6_cut_171 : decode cX6_cut 171 = .ok (.iconst 0, 1) := by decide +kernel
theorem dX6_cut_172 : decode cX6_cut 172 = .ok (.goto 4, 3) := by decide +kernel
theorem dX6_cut_175 : decode cX6_cut 175 = .ok (.iconst 3, 1) := by decide +kernel
theorem dX6_cut_176 : decode cX6_cut 176 = .ok (.putfield 105, 3) := by decide +kernel
theorem dX6_cut_179 : decode cX6_cut 179 = .ok (.aload_n 0, 1) := by decide +kernel
theorem dX6_cut_180 : decode cX6_cut 180 = .ok (.getfield 105, 3) := by decide +kernel
theorem dX6_cut_183 : decode cX6_cut 183 = .ok (.ifCond .le 5, 3) := by decide +kernel
theorem dX6_cut_186 : decode cX6_cut 186 = .ok (.iconst 0, 1) := by decide +kernel
theorem dX6_cut_187 : decode cX6_cut 187 = .ok (.ireturn, 1) := by decide +kernel
theorem dX6_cut_188 : decode cX6_cut 188 = .ok (.aload_n 0, 1) := by decide +kernel
theorem dX6_cut_189 : decode cX6_cut 189 = .ok (.getfield 115, 3) := by decide +kernel
theorem dX6_cut_192 : decode cX6_cut 192 = .ok (.istore 6, 2) := by decide +kernel
theorem dX6_cut_194 : decode cX6_cut 194 = .ok (.aload_n 0, 1) := by decide +kernel
theorem dX6_cut_195 : decode cX6_cut 195 = .ok (.getfield 13, 3) := by decide +kernel
theorem dX6_cut_198 : decode cX6_cut 198 = .ok (.iconst 0, 1) := by decide +kernel
theorem dX6_cut_199 : decode cX6_cut 199 = .ok (.dup2, 1) := by decide +kernel
theorem dX6_cut_200 : decode cX6_cut 200 = .ok (.iaload, 1) := by decide +kernel
theorem dX6_cut_201 : decode cX6_cut 201 = .ok (.aload_n 0, 1) := by decide +kernel
theorem dX6_cut_202 : decode cX6_cut 202 = .ok (.aload_n 0, 1) := by decide +kernel
theorem dX6_cut_203 : decode cX6_cut 203 = .ok (.getfield 20, 3) := by decide +kernel
theorem dX6_cut_206 : decode cX6_cut 206 = .ok (.iload_n 1, 1) := by decide +kernel
theorem dX6_cut_207 : decode cX6_cut 207 = .ok (.iaload, 1) := by decide +kernel
theorem dX6_cut_208 : decode cX6_cut 208 = .ok (.invokevirtual 162, 3) := by decide +kernel
theorem dX6_cut_211 : decode cX6_cut 211 = .ok (.isub, 1) := by decide +kernel
theorem dX6_cut_212 : decode cX6_cut 212 = .ok (.iastore, 1) := by decide +kernel
theorem dX6_cut_213 : decode cX6_cut 213 = .ok (.aload_n 0, 1) := by decide +kernel
theorem dX6_cut_214 : decode cX6_cut 214 = .ok (.getfield 50, 3) := by decide +kernel
theorem dX6_cut_217 : decode cX6_cut 217 = .ok (.iload 6, 2) := by decide +kernel
theorem dX6_cut_219 : decode cX6_cut 219 = .ok (.iload_n 1, 1) := by decide +kernel
theorem dX6_cut_220 : decode cX6_cut 220 = .ok (.iastore, 1) := by decide +kernel
theorem dX6_cut_221 : decode cX6_cut 221 = .ok (.aload_n 0, 1) := by decide +kernel
theorem dX6_cut_222 : decode cX6_cut 222 = .ok (.getfield 53, 3) := by decide +kernel
theorem dX6_cut_225 : decode cX6_cut 225 = .ok (.iload 6, 2) := by decide +kernel
theorem dX6_cut_227 : decode cX6_cut 227 = .ok (.iload_n 2, 1) := by decide +kernel
theorem dX6_cut_228 : decode cX6_cut 228 = .ok (.iastore, 1) := by decide +kernel
theorem dX6_cut_229 : decode cX6_cut 229 = .ok (.aload_n 0, 1) := by decide +kernel
theorem dX6_cut_230 : decode cX6_cut 230 = .ok (.getfield 56, 3) := by decide +kernel
theorem dX6_cut_233 : decode cX6_cut 233 = .ok (.iload 6, 2) := by decide +kernel
theorem dX6_cut_235 : decode cX6_cut 235 = .ok (.iload_n 3, 1) := by decide +kernel
theorem dX6_cut_236 : decode cX6_cut 236 = .ok (.iastore, 1) := by decide +kernel
theorem dX6_cut_237 : decode cX6_cut 237 = .ok (.aload_n 0, 1) := by decide +kernel
theorem dX6_cut_238 : decode cX6_cut 238 = .ok (.getfield 59, 3) := by decide +kernel
theorem dX6_cut_241 : decode cX6_cut 241 = .ok (.iload 6, 2) := by decide +kernel
theorem dX6_cut_243 : decode cX6_cut 243 = .ok (.iload 4, 2) := by decide +kernel
theorem dX6_cut_245 : decode cX6_cut 245 = .ok (.iastore, 1) := by decide +kernel
theorem dX6_cut_246 : decode cX6_cut 246 = .ok (.aload_n 0, 1) := by decide +kernel
theorem dX6_cut_247 : decode cX6_cut 247 = .ok (.getfield 62, 3) := by decide +kernel
theorem dX6_cut_250 : decode cX6_cut 250 = .ok (.iload 6, 2) := by decide +kernel
theorem dX6_cut_252 : decode cX6_cut 252 = .ok (.aload_n 0, 1) := by decide +kernel
theorem dX6_cut_253 : decode cX6_cut 253 = .ok (.getfield 38, 3) := by decide +kernel
theorem dX6_cut_256 : decode cX6_cut 256 = .ok (.iload_n 1, 1) := by decide +kernel
theorem dX6_cut_257 : decode cX6_cut 257 = .ok (.iaload, 1) := by decide +kernel
theorem dX6_cut_258 : decode cX6_cut 258 = .ok (.iastore, 1) := by decide +kernel
theorem dX6_cut_259 : decode cX6_cut 259 = .ok (.aload_n 0, 1) := by decide +kernel
theorem dX6_cut_260 : decode cX6_cut 260 = .ok (.getfield 65, 3) := by decide +kernel
theorem dX6_cut_263 : decode cX6_cut 263 = .ok (.iload 6, 2) := by decide +kernel
theorem dX6_cut_265 : decode cX6_cut 265 = .ok (.aload_n 0, 1) := by decide +kernel
theorem dX6_cut_266 : decode cX6_cut 266 = .ok (.getfield 38, 3) := by decide +kernel
theorem dX6_cut_269 : decode cX6_cut 269 = .ok (.iload_n 1, 1) := by decide +kernel
theorem dX6_cut_270 : decode cX6_cut 270 = .ok (.iaload, 1) := by decide +kernel
theorem dX6_cut_271 : decode cX6_cut 271 = .ok (.iastore, 1) := by decide +kernel
theorem dX6_cut_272 : decode cX6_cut 272 = .ok (.aload_n 0, 1) := by decide +kernel
theorem dX6_cut_273 : decode cX6_cut 273 = .ok (.dup, 1) := by decide +kernel
theorem dX6_cut_274 : decode cX6_cut 274 = .ok (.getfield 115, 3) := by decide +kernel
theorem dX6_cut_277 : decode cX6_cut 277 = .ok (.iconst 1, 1) := by decide +kernel
theorem dX6_cut_278 : decode cX6_cut 278 = .ok (.iadd, 1) := by decide +kernel
theorem dX6_cut_279 : decode cX6_cut 279 = .ok (.putfield 115, 3) := by decide +kernel
theorem dX6_cut_282 : decode cX6_cut 282 = .ok (.iload 6, 2) := by decide +kernel
theorem dX6_cut_284 : decode cX6_cut 284 = .ok (.ireturn, 1) := by decide +kernel
theorem dX6_sharpen_0 : decode cX6_sharpen 0 = .ok (.aload_n 0, 1) := by decide +kernel
theorem dX6_sharpen_1 : decode cX6_sharpen 1 = .ok (.aload_n 0, 1) := by decide +kernel
theorem dX6_sharpen_2 : decode cX6_sharpen 2 = .ok (.iload_n 1, 1) := by decide +kernel
theorem dX6_sharpen_3 : decode cX6_sharpen 3 = .ok (.iconst 0, 1) := by decide +kernel
theorem dX6_sharpen_4 : decode cX6_sharpen 4 = .ok (.iconst 1, 1) := by decide +kernel
theorem dX6_sharpen_5 : decode cX6_sharpen 5 = .ok (.invokevirtual 111, 3) := by decide +kernel
theorem dX6_sharpen_8 : decode cX6_sharpen 8 = .ok (.ifCond .ne 7, 3) := by decide +kernel
theorem dX6_sharpen_11 : decode cX6_sharpen 11 = .ok (.iconst 1, 1) := by decide +kernel
theorem dX6_sharpen_12 : decode cX6_sharpen 12 = .ok (.goto 4, 3) := by decide +kernel
theorem dX6_sharpen_15 : decode cX6_sharpen 15 = .ok (.iconst 0, 1) := by decide +kernel
theorem dX6_sharpen_16 : decode cX6_sharpen 16 = .ok (.putfield 105, 3) := by decide +kernel
theorem dX6_sharpen_19 : decode cX6_sharpen 19 = .ok (.aload_n 0, 1) := by decide +kernel
theorem dX6_sharpen_20 : decode cX6_sharpen 20 = .ok (.getfield 105, 3) := by decide +kernel
theorem dX6_sharpen_23 : decode cX6_sharpen 23 = .ok (.ifCond .le 5, 3) := by decide +kernel
theorem dX6_sharpen_26 : decode cX6_sharpen 26 = .ok (.iconst 0, 1) := by decide +kernel
theorem dX6_sharpen_27 : decode cX6_sharpen 27 = .ok (.ireturn, 1) := by decide +kernel
theorem dX6_sharpen_28 : decode cX6_sharpen 28 = .ok (.aload_n 0, 1) := by decide +kernel
theorem dX6_sharpen_29 : decode cX6_sharpen 29 = .ok (.getfield 13, 3) := by decide +kernel
theorem dX6_sharpen_32 : decode cX6_sharpen 32 = .ok (.iload_n 1, 1) := by decide +kernel
theorem dX6_sharpen_33 : decode cX6_sharpen 33 = .ok (.iaload, 1) := by decide +kernel
theorem dX6_sharpen_34 : decode cX6_sharpen 34 = .ok (.istore_n 2, 1) := by decide +kernel
theorem dX6_sharpen_35 : decode cX6_sharpen 35 = .ok (.aload_n 0, 1) := by decide +kernel
theorem dX6_sharpen_36 : decode cX6_sharpen 36 = .ok (.getfield 13, 3) := by decide +kernel
theorem dX6_sharpen_39 : decode cX6_sharpen 39 = .ok (.iload_n 1, 1) := by decide +kernel
theorem dX6_sharpen_40 : decode cX6_sharpen 40 = .ok (.bipush 100, 2) := by decide +kernel
theorem dX6_sharpen_42 : decode cX6_sharpen 42 = .ok (.iastore, 1) := by decide +kernel
theorem dX6_sharpen_43 : decode cX6_sharpen 43 = .ok (.iload_n 2, 1) := by decide +kernel
theorem dX6_sharpen_44 : decode cX6_sharpen 44 = .ok (.ireturn, 1) := by decide +kernel
theorem dX6_clearFrom_0 : decode cX6_clearFrom 0 = .ok (.aload_n 0, 1) := by decide +kernel
theorem dX6_clearFrom_1 : decode cX6_clearFrom 1 = .ok (.aload_n 0, 1) := by decide +kernel
theorem dX6_clearFrom_2 : decode cX6_clearFrom 2 = .ok (.iload_n 1, 1) := by decide +kernel
theorem dX6_clearFrom_3 : decode cX6_clearFrom 3 = .ok (.invokevirtual 150, 3) := by decide +kernel
theorem dX6_clearFrom_6 : decode cX6_clearFrom 6 = .ok (.ifCond .ne 7, 3) := by decide +kernel
theorem dX6_clearFrom_9 : decode cX6_clearFrom 9 = .ok (.iconst 1, 1) := by decide +kernel
theorem dX6_clearFrom_10 : decode cX6_clearFrom 10 = .ok (.goto 21, 3) := by decide +kernel
theorem dX6_clearFrom_13 : decode cX6_clearFrom 13 = .ok (.aload_n 0, 1) := by decide +kernel
theorem dX6_clearFrom_14 : decode cX6_clearFrom 14 = .ok (.iload_n 2, 1) := by decide +kernel
theorem dX6_clearFrom_15 : decode cX6_clearFrom 15 = .ok (.bipush 10, 2) := by decide +kernel
theorem dX6_clearFrom_17 : decode cX6_clearFrom 17 = .ok (.sipush 30000, 3) := by decide +kernel
theorem dX6_clearFrom_20 : decode cX6_clearFrom 20 = .ok (.invokevirtual 111, 3) := by decide +kernel
theorem dX6_clearFrom_23 : decode cX6_clearFrom 23 = .ok (.ifCond .ne 7, 3) := by decide +kernel
theorem dX6_clearFrom_26 : decode cX6_clearFrom 26 = .ok (.iconst 2, 1) := by decide +kernel
theorem dX6_clearFrom_27 : decode cX6_clearFrom 27 = .ok (.goto 4, 3) := by decide +kernel
theorem dX6_clearFrom_30 : decode cX6_clearFrom 30 = .ok (.iconst 0, 1) := by decide +kernel
theorem dX6_clearFrom_31 : decode cX6_clearFrom 31 = .ok (.putfield 105, 3) := by decide +kernel
theorem dX6_clearFrom_34 : decode cX6_clearFrom 34 = .ok (.aload_n 0, 1) := by decide +kernel
theorem dX6_clearFrom_35 : decode cX6_clearFrom 35 = .ok (.getfield 105, 3) := by decide +kernel
theorem dX6_clearFrom_38 : decode cX6_clearFrom 38 = .ok (.ifCond .le 5, 3) := by decide +kernel
theorem dX6_clearFrom_41 : decode cX6_clearFrom 41 = .ok (.iconst 0, 1) := by decide +kernel
theorem dX6_clearFrom_42 : decode cX6_clearFrom 42 = .ok (.ireturn, 1) := by decide +kernel
theorem dX6_clearFrom_43 : decode cX6_clearFrom 43 = .ok (.iconst 0, 1) := by decide +kernel
theorem dX6_clearFrom_44 : decode cX6_clearFrom 44 = .ok (.istore_n 3, 1) := by decide +kernel
theorem dX6_clearFrom_45 : decode cX6_clearFrom 45 = .ok (.iload_n 3, 1) := by decide +kernel
theorem dX6_clearFrom_46 : decode cX6_clearFrom 46 = .ok (.iload_n 2, 1) := by decide +kernel
theorem dX6_clearFrom_47 : decode cX6_clearFrom 47 = .ok (.iadd, 1) := by decide +kernel
theorem dX6_clearFrom_48 : decode cX6_clearFrom 48 = .ok (.aload_n 0, 1) := by decide +kernel
theorem dX6_clearFrom_49 : decode cX6_clearFrom 49 = .ok (.getfield 32, 3) := by decide +kernel
theorem dX6_clearFrom_52 : decode cX6_clearFrom 52 = .ok (.iload_n 1, 1) := by decide +kernel
theorem dX6_clearFrom_53 : decode cX6_clearFrom 53 = .ok (.iaload, 1) := by decide +kernel
theorem dX6_clearFrom_54 : decode cX6_clearFrom 54 = .ok (.if_icmp .gt 35, 3) := by decide +kernel
theorem dX6_clearFrom_57 : decode cX6_clearFrom 57 = .ok (.aload_n 0, 1) := by decide +kernel
theorem dX6_clearFrom_58 : decode cX6_clearFrom 58 = .ok (.iload_n 1, 1) := by decide +kernel
theorem dX6_clearFrom_59 : decode cX6_clearFrom 59 = .ok (.iload_n 3, 1) := by decide +kernel
theorem dX6_clearFrom_60 : decode cX6_clearFrom 60 = .ok (.iload_n 3, 1) := by decide +kernel
theorem dX6_clearFrom_61 : decode cX6_clearFrom 61 = .ok (.iload_n 2, 1) := by decide +kernel
theorem dX6_clearFrom_62 : decode cX6_clearFrom 62 = .ok (.iadd, 1) := by decide +kernel
theorem dX6_clearFrom_63 : decode cX6_clearFrom 63 = .ok (.invokevirtual 153, 3) := by decide +kernel
theorem dX6_clearFrom_66 : decode cX6_clearFrom 66 = .ok (.ifCond .ne 17, 3) := by decide +kernel
theorem dX6_clearFrom_69 : decode cX6_clearFrom 69 = .ok (.aload_n 0, 1) := by decide +kernel
theorem dX6_clearFrom_70 : decode cX6_clearFrom 70 = .ok (.iload_n 1, 1) := by decide +kernel
theorem dX6_clearFrom_71 : decode cX6_clearFrom 71 = .ok (.iload_n 3, 1) := by decide +kernel
theorem dX6_clearFrom_72 : decode cX6_clearFrom 72 = .ok (.iload_n 3, 1) := by decide +kernel
theorem dX6_clearFrom_73 : decode cX6_clearFrom 73 = .ok (.iload_n 2, 1) := by decide +kernel
theorem dX6_clearFrom_74 : decode cX6_clearFrom 74 = .ok (.iadd, 1) := by decide +kernel
theorem dX6_clearFrom_75 : decode cX6_clearFrom 75 = .ok (.invokevirtual 159, 3) := by decide +kernel
theorem dX6_clearFrom_78 : decode cX6_clearFrom 78 = .ok (.ifCond .ne 5, 3) := by decide +kernel
theorem dX6_clearFrom_81 : decode cX6_clearFrom 81 = .ok (.iload_n 3, 1) := by decide +kernel
theorem dX6_clearFrom_82 : decode cX6_clearFrom 82 = .ok (.ireturn, 1) := by decide +kernel
theorem dX6_clearFrom_83 : decode cX6_clearFrom 83 = .ok (.iinc 3 1, 3) := by decide +kernel
theorem dX6_clearFrom_86 : decode cX6_clearFrom 86 = .ok (.goto (-41), 3) := by decide +kernel
theorem dX6_clearFrom_89 : decode cX6_clearFrom 89 = .ok (.iconst (-1), 1) := by decide +kernel
theorem dX6_clearFrom_90 : decode cX6_clearFrom 90 = .ok (.ireturn, 1) := by decide +kernel
theorem dX6_coat_0 : decode cX6_coat 0 = .ok (.aload_n 0, 1) := by decide +kernel
theorem dX6_coat_1 : decode cX6_coat 1 = .ok (.aload_n 0, 1) := by decide +kernel
theorem dX6_coat_2 : decode cX6_coat 2 = .ok (.iload_n 1, 1) := by decide +kernel
theorem dX6_coat_3 : decode cX6_coat 3 = .ok (.invokevirtual 165, 3) := by decide +kernel
theorem dX6_coat_6 : decode cX6_coat 6 = .ok (.ifCond .ne 7, 3) := by decide +kernel
theorem dX6_coat_9 : decode cX6_coat 9 = .ok (.iconst 1, 1) := by decide +kernel
theorem dX6_coat_10 : decode cX6_coat 10 = .ok (.goto 19, 3) := by decide +kernel
theorem dX6_coat_13 : decode cX6_coat 13 = .ok (.aload_n 0, 1) := by decide +kernel
theorem dX6_coat_14 : decode cX6_coat 14 = .ok (.getfield 68, 3) := by decide +kernel
theorem dX6_coat_17 : decode cX6_coat 17 = .ok (.iload_n 1, 1) := by decide +kernel
theorem dX6_coat_18 : decode cX6_coat 18 = .ok (.iaload, 1) := by decide +kernel
theorem dX6_coat_19 : decode cX6_coat 19 = .ok (.bipush 6, 2) := by decide +kernel
theorem dX6_coat_21 : decode cX6_coat 21 = .ok (.if_icmp .ne 7, 3) := by decide +kernel
theorem dX6_coat_24 : decode cX6_coat 24 = .ok (.iconst 2, 1) := by decide +kernel
theorem dX6_coat_25 : decode cX6_coat 25 = .ok (.goto 4, 3) := by decide +kernel
theorem dX6_coat_28 : decode cX6_coat 28 = .ok (.iconst 0, 1) := by decide +kernel
theorem dX6_coat_29 : decode cX6_coat 29 = .ok (.putfield 105, 3) := by decide +kernel
theorem dX6_coat_32 : decode cX6_coat 32 = .ok (.aload_n 0, 1) := by decide +kernel
theorem dX6_coat_33 : decode cX6_coat 33 = .ok (.getfield 105, 3) := by decide +kernel
theorem dX6_coat_36 : decode cX6_coat 36 = .ok (.ifCond .le 5, 3) := by decide +kernel
theorem dX6_coat_39 : decode cX6_coat 39 = .ok (.iconst 0, 1) := by decide +kernel
theorem dX6_coat_40 : decode cX6_coat 40 = .ok (.ireturn, 1) := by decide +kernel
theorem dX6_coat_41 : decode cX6_coat 41 = .ok (.aload_n 0, 1) := by decide +kernel
theorem dX6_coat_42 : decode cX6_coat 42 = .ok (.getfield 68, 3) := by decide +kernel
theorem dX6_coat_45 : decode cX6_coat 45 = .ok (.iload_n 1, 1) := by decide +kernel
theorem dX6_coat_46 : decode cX6_coat 46 = .ok (.dup2, 1) := by decide +kernel
theorem dX6_coat_47 : decode cX6_coat 47 = .ok (.iaload, 1) := by decide +kernel
theorem dX6_coat_48 : decode cX6_coat 48 = .ok (.iconst 1, 1) := by decide +kernel
theorem dX6_coat_49 : decode cX6_coat 49 = .ok (.iadd, 1) := by decide +kernel
theorem dX6_coat_50 : decode cX6_coat 50 = .ok (.iastore, 1) := by decide +kernel
theorem dX6_coat_51 : decode cX6_coat 51 = .ok (.aload_n 0, 1) := by decide +kernel
theorem dX6_coat_52 : decode cX6_coat 52 = .ok (.getfield 68, 3) := by decide +kernel
theorem dX6_coat_55 : decode cX6_coat 55 = .ok (.iload_n 1, 1) := by decide +kernel
theorem dX6_coat_56 : decode cX6_coat 56 = .ok (.iaload, 1) := by decide +kernel
theorem dX6_coat_57 : decode cX6_coat 57 = .ok (.ireturn, 1) := by decide +kernel
theorem dX6_match_0 : decode cX6_match 0 = .ok (.aload_n 0, 1) := by decide +kernel
theorem dX6_match_1 : decode cX6_match 1 = .ok (.aload_n 0, 1) := by decide +kernel
theorem dX6_match_2 : decode cX6_match 2 = .ok (.iload_n 1, 1) := by decide +kernel
theorem dX6_match_3 : decode cX6_match 3 = .ok (.invokevirtual 165, 3) := by decide +kernel
theorem dX6_match_6 : decode cX6_match 6 = .ok (.ifCond .eq 11, 3) := by decide +kernel
theorem dX6_match_9 : decode cX6_match 9 = .ok (.aload_n 0, 1) := by decide +kernel
theorem dX6_match_10 : decode cX6_match 10 = .ok (.iload_n 2, 1) := by decide +kernel
theorem dX6_match_11 : decode cX6_match 11 = .ok (.invokevirtual 165, 3) := by decide +kernel
theorem dX6_match_14 : decode cX6_match 14 = .ok (.ifCond .ne 7, 3) := by decide +kernel
theorem dX6_match_17 : decode cX6_match 17 = .ok (.iconst 1, 1) := by decide +kernel
theorem dX6_match_18 : decode cX6_match 18 = .ok (.goto 13, 3) := by decide +kernel
theorem dX6_match_21 : decode cX6_match 21 = .ok (.iload_n 1, 1) := by decide +kernel
theorem dX6_match_22 : decode cX6_match 22 = .ok (.iload_n 2, 1) := by decide +kernel
theorem dX6_match_23 : decode cX6_match 23 = .ok (.if_icmp .ne 7, 3) := by decide +kernel
theorem dX6_match_26 : decode cX6_match 26 = .ok (.iconst 2, 1) := by decide +kernel
theorem dX6_match_27 : decode cX6_match 27 = .ok (.goto 4, 3) := by decide +kernel
theorem dX6_match_30 : decode cX6_match 30 = .ok (.iconst 0, 1) := by decide +kernel
theorem dX6_match_31 : decode cX6_match 31 = .ok (.putfield 105, 3) := by decide +kernel
theorem dX6_match_34 : decode cX6_match 34 = .ok (.aload_n 0, 1) := by decide +kernel
theorem dX6_match_35 : decode cX6_match 35 = .ok (.getfield 105, 3) := by decide +kernel
theorem dX6_match_38 : decode cX6_match 38 = .ok (.ifCond .le 5, 3) := by decide +kernel
theorem dX6_match_41 : decode cX6_match 41 = .ok (.iconst 0, 1) := by decide +kernel
theorem dX6_match_42 : decode cX6_match 42 = .ok (.ireturn, 1) := by decide +kernel
theorem dX6_match_43 : decode cX6_match 43 = .ok (.aload_n 0, 1) := by decide +kernel
theorem dX6_match_44 : decode cX6_match 44 = .ok (.getfield 50, 3) := by decide +kernel
theorem dX6_match_47 : decode cX6_match 47 = .ok (.iload_n 1, 1) := by decide +kernel
theorem dX6_match_48 : decode cX6_match 48 = .ok (.iaload, 1) := by decide +kernel
theorem dX6_match_49 : decode cX6_match 49 = .ok (.istore_n 3, 1) := by decide +kernel
theorem dX6_match_50 : decode cX6_match 50 = .ok (.aload_n 0, 1) := by decide +kernel
theorem dX6_match_51 : decode cX6_match 51 = .ok (.getfield 50, 3) := by decide +kernel
theorem dX6_match_54 : decode cX6_match 54 = .ok (.iload_n 2, 1) := by decide +kernel
theorem dX6_match_55 : decode cX6_match 55 = .ok (.iaload, 1) := by decide +kernel
theorem dX6_match_56 : decode cX6_match 56 = .ok (.istore 4, 2) := by decide +kernel
theorem dX6_match_58 : decode cX6_match 58 = .ok (.aload_n 0, 1) := by decide +kernel
theorem dX6_match_59 : decode cX6_match 59 = .ok (.getfield 26, 3) := by decide +kernel
theorem dX6_match_62 : decode cX6_match 62 = .ok (.iload_n 3, 1) := by decide +kernel
theorem dX6_match_63 : decode cX6_match 63 = .ok (.iaload, 1) := by decide +kernel
theorem dX6_match_64 : decode cX6_match 64 = .ok (.aload_n 0, 1) := by decide +kernel
theorem dX6_match_65 : decode cX6_match 65 = .ok (.getfield 26, 3) := by decide +kernel
theorem dX6_match_68 : decode cX6_match 68 = .ok (.iload 4, 2) := by decide +kernel
theorem dX6_match_70 : decode cX6_match 70 = .ok (.iaload, 1) := by decide +kernel
theorem dX6_match_71 : decode cX6_match 71 = .ok (.isub, 1) := by decide +kernel
theorem dX6_match_72 : decode cX6_match 72 = .ok (.istore 5, 2) := by decide +kernel
theorem dX6_match_74 : decode cX6_match 74 = .ok (.iload_n 3, 1) := by decide +kernel
theorem dX6_match_75 : decode cX6_match 75 = .ok (.iload 4, 2) := by decide +kernel
theorem dX6_match_77 : decode cX6_match 77 = .ok (.if_icmp .ne 7, 3) := by decide +kernel
theorem dX6_match_80 : decode cX6_match 80 = .ok (.iconst 3, 1) := by decide +kernel
theorem dX6_match_81 : decode cX6_match 81 = .ok (.goto 40, 3) := by decide +kernel
theorem dX6_match_84 : decode cX6_match 84 = .ok (.aload_n 0, 1) := by decide +kernel
theorem dX6_match_85 : decode cX6_match 85 = .ok (.getfield 23, 3) := by decide +kernel
theorem dX6_match_88 : decode cX6_match 88 = .ok (.iload_n 3, 1) := by decide +kernel
theorem dX6_match_89 : decode cX6_match 89 = .ok (.iaload, 1) := by decide +kernel
theorem dX6_match_90 : decode cX6_match 90 = .ok (.aload_n 0, 1) := by decide +kernel
theorem dX6_match_91 : decode cX6_match 91 = .ok (.getfield 23, 3) := by decide +kernel
theorem dX6_match_94 : decode cX6_match 94 = .ok (.iload 4, 2) := by decide +kernel
theorem dX6_match_96 : decode cX6_match 96 = .ok (.iaload, 1) := by decide +kernel
theorem dX6_match_97 : decode cX6_match 97 = .ok (.if_icmp .eq 7, 3) := by decide +kernel
theorem dX6_match_100 : decode cX6_match 100 = .ok (.iconst 0, 1) := by decide +kernel
theorem dX6_match_101 : decode cX6_match 101 = .ok (.goto 20, 3) := by decide +kernel
theorem dX6_match_104 : decode cX6_match 104 = .ok (.iload 5, 2) := by decide +kernel
theorem dX6_match_106 : decode cX6_match 106 = .ok (.iconst 1, 1) := by decide +kernel
theorem dX6_match_107 : decode cX6_match 107 = .ok (.if_icmp .eq 9, 3) := by decide +kernel
theorem dX6_match_110 : decode cX6_match 110 = .ok (.iload 5, 2) := by decide +kernel
theorem dX6_match_112 : decode cX6_match 112 = .ok (.iconst (-1), 1) := by decide +kernel
theorem dX6_match_113 : decode cX6_match 113 = .ok (.if_icmp .ne 7, 3) := by decide +kernel
theorem dX6_match_116 : decode cX6_match 116 = .ok (.iconst 2, 1) := by decide +kernel
theorem dX6_match_117 : decode cX6_match 117 = .ok (.goto 4, 3) := by decide +kernel
theorem dX6_match_120 : decode cX6_match 120 = .ok (.iconst 1, 1) := by decide +kernel
theorem dX6_match_121 : decode cX6_match 121 = .ok (.ireturn, 1) := by decide +kernel
theorem dX6_fits_0 : decode cX6_fits 0 = .ok (.aload_n 0, 1) := by decide +kernel
theorem dX6_fits_1 : decode cX6_fits 1 = .ok (.iload_n 2, 1) := by decide +kernel
theorem dX6_fits_2 : decode cX6_fits 2 = .ok (.aload_n 0, 1) := by decide +kernel
theorem dX6_fits_3 : decode cX6_fits 3 = .ok (.getfield 65, 3) := by decide +kernel
theorem dX6_fits_6 : decode cX6_fits 6 = .ok (.iload_n 2, 1) := by decide +kernel
theorem dX6_fits_7 : decode cX6_fits 7 = .ok (.iaload, 1) := by decide +kernel
theorem dX6_fits_8 : decode cX6_fits 8 = .ok (.invokevirtual 136, 3) := by decide +kernel
theorem dX6_fits_11 : decode cX6_fits 11 = .ok (.istore 5, 2) := by decide +kernel
theorem dX6_fits_13 : decode cX6_fits 13 = .ok (.iload_n 1, 1) := by decide +kernel
theorem dX6_fits_14 : decode cX6_fits 14 = .ok (.ifCond .ne 21, 3) := by decide +kernel
theorem dX6_fits_17 : decode cX6_fits 17 = .ok (.iload_n 3, 1) := by decide +kernel
theorem dX6_fits_18 : decode cX6_fits 18 = .ok (.aload_n 0, 1) := by decide +kernel
theorem dX6_fits_19 : decode cX6_fits 19 = .ok (.getfield 56, 3) := by decide +kernel
theorem dX6_fits_22 : decode cX6_fits 22 = .ok (.iload_n 2, 1) := by decide +kernel
theorem dX6_fits_23 : decode cX6_fits 23 = .ok (.iaload, 1) := by decide +kernel
theorem dX6_fits_24 : decode cX6_fits 24 = .ok (.if_icmp .gt 7, 3) := by decide +kernel
theorem dX6_fits_27 : decode cX6_fits 27 = .ok (.iconst 1, 1) := by decide +kernel
theorem dX6_fits_28 : decode cX6_fits 28 = .ok (.goto 48, 3) := by decide +kernel
theorem dX6_fits_31 : decode cX6_fits 31 = .ok (.iconst 0, 1) := by decide +kernel
theorem dX6_fits_32 : decode cX6_fits 32 = .ok (.goto 44, 3) := by decide +kernel
theorem dX6_fits_35 : decode cX6_fits 35 = .ok (.iload_n 1, 1) := by decide +kernel
theorem dX6_fits_36 : decode cX6_fits 36 = .ok (.iconst 1, 1) := by decide +kernel
theorem dX6_fits_37 : decode cX6_fits 37 = .ok (.if_icmp .ne 17, 3) := by decide +kernel
theorem dX6_fits_40 : decode cX6_fits 40 = .ok (.iload_n 3, 1) := by decide +kernel
theorem dX6_fits_41 : decode cX6_fits 41 = .ok (.iload 5, 2) := by decide +kernel
theorem dX6_fits_43 : decode cX6_fits 43 = .ok (.if_icmp .gt 7, 3) := by decide +kernel
theorem dX6_fits_46 : decode cX6_fits 46 = .ok (.iconst 1, 1) := by decide +kernel
theorem dX6_fits_47 : decode cX6_fits 47 = .ok (.goto 29, 3) := by decide +kernel
theorem dX6_fits_50 : decode cX6_fits 50 = .ok (.iconst 0, 1) := by decide +kernel
theorem dX6_fits_51 : decode cX6_fits 51 = .ok (.goto 25, 3) := by decide +kernel
theorem dX6_fits_54 : decode cX6_fits 54 = .ok (.iload 5, 2) := by decide +kernel
theorem dX6_fits_56 : decode cX6_fits 56 = .ok (.iload_n 3, 1) := by decide +kernel
theorem dX6_fits_57 : decode cX6_fits 57 = .ok (.if_icmp .gt 18, 3) := by decide +kernel
theorem dX6_fits_60 : decode cX6_fits 60 = .ok (.iload 5, 2) := by decide +kernel
theorem dX6_fits_62 : decode cX6_fits 62 = .ok (.iload_n 3, 1) := by decide +kernel
theorem dX6_fits_63 : decode cX6_fits 63 = .ok (.iconst 2, 1) := by decide +kernel
theorem dX6_fits_64 : decode cX6_fits 64 = .ok (.iload 4, 2) := by decide +kernel
theorem dX6_fits_66 : decode cX6_fits 66 = .ok (.imul, 1) := by decide +kernel
theorem dX6_fits_67 : decode cX6_fits 67 = .ok (.isub, 1) := by decide +kernel
theorem dX6_fits_68 : decode cX6_fits 68 = .ok (.if_icmp .lt 7, 3) := by decide +kernel
theorem dX6_fits_71 : decode cX6_fits 71 = .ok (.iconst 1, 1) := by decide +kernel
theorem dX6_fits_72 : decode cX6_fits 72 = .ok (.goto 4, 3) := by decide +kernel
theorem dX6_fits_75 : decode cX6_fits 75 = .ok (.iconst 0, 1) := by decide +kernel
theorem dX6_fits_76 : decode cX6_fits 76 = .ok (.ireturn, 1) := by decide +kernel
theorem dX6_joint_0 : decode cX6_joint 0 = .ok (.aload_n 0, 1) := by decide +kernel
theorem dX6_joint_1 : decode cX6_joint 1 = .ok (.iload_n 1, 1) := by decide +kernel
theorem dX6_joint_2 : decode cX6_joint 2 = .ok (.iconst 0, 1) := by decide +kernel
theorem dX6_joint_3 : decode cX6_joint 3 = .ok (.iconst 2, 1) := by decide +kernel
theorem dX6_joint_4 : decode cX6_joint 4 = .ok (.invokevirtual 111, 3) := by decide +kernel
theorem dX6_joint_7 : decode cX6_joint 7 = .ok (.ifCond .eq 47, 3) := by decide +kernel
theorem dX6_joint_10 : decode cX6_joint 10 = .ok (.aload_n 0, 1) := by decide +kernel
theorem dX6_joint_11 : decode cX6_joint 11 = .ok (.iload 4, 2) := by decide +kernel
theorem dX6_joint_13 : decode cX6_joint 13 = .ok (.bipush 10, 2) := by decide +kernel
theorem dX6_joint_15 : decode cX6_joint 15 = .ok (.sipush 30000, 3) := by decide +kernel
theorem dX6_joint_18 : decode cX6_joint 18 = .ok (.invokevirtual 111, 3) := by decide +kernel
theorem dX6_joint_21 : decode cX6_joint 21 = .ok (.ifCond .eq 33, 3) := by decide +kernel
theorem dX6_joint_24 : decode cX6_joint 24 = .ok (.iload_n 1, 1) := by decide +kernel
theorem dX6_joint_25 : decode cX6_joint 25 = .ok (.iconst 2, 1) := by decide +kernel
theorem dX6_joint_26 : decode cX6_joint 26 = .ok (.if_icmp .ne 19, 3) := by decide +kernel
theorem dX6_joint_29 : decode cX6_joint 29 = .ok (.aload_n 0, 1) := by decide +kernel
theorem dX6_joint_30 : decode cX6_joint 30 = .ok (.iload 5, 2) := by decide +kernel
theorem dX6_joint_32 : decode cX6_joint 32 = .ok (.iconst 1, 1) := by decide +kernel
theorem dX6_joint_33 : decode cX6_joint 33 = .ok (.sipush 200, 3) := by decide +kernel
theorem dX6_joint_36 : decode cX6_joint 36 = .ok (.invokevirtual 111, 3) := by decide +kernel
theorem dX6_joint_39 : decode cX6_joint 39 = .ok (.ifCond .eq 15, 3) := by decide +kernel
theorem dX6_joint_42 : decode cX6_joint 42 = .ok (.goto 8, 3) := by decide +kernel
theorem dX6_joint_45 : decode cX6_joint 45 = .ok (.iload 5, 2) := by decide +kernel
theorem dX6_joint_47 : decode cX6_joint 47 = .ok (.ifCond .ne 7, 3) := by decide +kernel
theorem dX6_joint_50 : decode cX6_joint 50 = .ok (.iconst 1, 1) := by decide +kernel
theorem dX6_joint_51 : decode cX6_joint 51 = .ok (.goto 4, 3) := by decide +kernel
theorem dX6_joint_54 : decode cX6_joint 54 = .ok (.iconst 0, 1) := by decide +kernel
theorem dX6_joint_55 : decode cX6_joint 55 = .ok (.istore 6, 2) := by decide +kernel
theorem dX6_joint_57 : decode cX6_joint 57 = .ok (.aload_n 0, 1) := by decide +kernel
theorem dX6_joint_58 : decode cX6_joint 58 = .ok (.aload_n 0, 1) := by decide +kernel
theorem dX6_joint_59 : decode cX6_joint 59 = .ok (.iload_n 2, 1) := by decide +kernel
theorem dX6_joint_60 : decode cX6_joint 60 = .ok (.invokevirtual 165, 3) := by decide +kernel
theorem dX6_joint_63 : decode cX6_joint 63 = .ok (.ifCond .eq 11, 3) := by decide +kernel
theorem dX6_joint_66 : decode cX6_joint 66 = .ok (.aload_n 0, 1) := by decide +kernel
theorem dX6_joint_67 : decode cX6_joint 67 = .ok (.iload_n 3, 1) := by decide +kernel
theorem dX6_joint_68 : decode cX6_joint 68 = .ok (.invokevirtual 165, 3) := by decide +kernel
theorem dX6_joint_71 : decode cX6_joint 71 = .ok (.ifCond .ne 7, 3) := by decide +kernel
theorem dX6_joint_74 : decode cX6_joint 74 = .ok (.iconst 1, 1) := by decide +kernel
theorem dX6_joint_75 : decode cX6_joint 75 = .ok (.goto 18, 3) := by decide +kernel
theorem dX6_joint_78 : decode cX6_joint 78 = .ok (.iload 6, 2) := by decide +kernel
theorem dX6_joint_80 : decode cX6_joint 80 = .ok (.ifCond .eq 8, 3) := by decide +kernel
theorem dX6_joint_83 : decode cX6_joint 83 = .ok (.iload_n 2, 1) := by decide +kernel
theorem dX6_joint_84 : decode cX6_joint 84 = .ok (.iload_n 3, 1) := by decide +kernel
theorem dX6_joint_85 : decode cX6_joint 85 = .ok (.if_icmp .ne 7, 3) := by decide +kernel
theorem dX6_joint_88 : decode cX6_joint 88 = .ok (.iconst 2, 1) := by decide +kernel
theorem dX6_joint_89 : decode cX6_joint 89 = .ok (.goto 4, 3) := by decide +kernel
theorem dX6_joint_92 : decode cX6_joint 92 = .ok (.iconst 0, 1) := by decide +kernel
theorem dX6_joint_93 : decode cX6_joint 93 = .ok (.putfield 105, 3) := by decide +kernel
theorem dX6_joint_96 : decode cX6_joint 96 = .ok (.aload_n 0, 1) := by decide +kernel
theorem dX6_joint_97 : decode cX6_joint 97 = .ok (.getfield 105, 3) := by decide +kernel
theorem dX6_joint_100 : decode cX6_joint 100 = .ok (.ifCond .ne 52, 3) := by decide +kernel
theorem dX6_joint_103 : decode cX6_joint 103 = .ok (.aload_n 0, 1) := by decide +kernel
theorem dX6_joint_104 : decode cX6_joint 104 = .ok (.aload_n 0, 1) := by decide +kernel
theorem dX6_joint_105 : decode cX6_joint 105 = .ok (.getfield 118, 3) := by decide +kernel
theorem dX6_joint_108 : decode cX6_joint 108 = .ok (.bipush 30, 2) := by decide +kernel
theorem dX6_joint_110 : decode cX6_joint 110 = .ok (.if_icmp .eq 34, 3) := by decide +kernel
theorem dX6_joint_113 : decode cX6_joint 113 = .ok (.aload_n 0, 1) := by decide +kernel
theorem dX6_joint_114 : decode cX6_joint 114 = .ok (.iload_n 1, 1) := by decide +kernel
theorem dX6_joint_115 : decode cX6_joint 115 = .ok (.iload_n 2, 1) := by decide +kernel
theorem dX6_joint_116 : decode cX6_joint 116 = .ok (.iload 4, 2) := by decide +kernel
theorem dX6_joint_118 : decode cX6_joint 118 = .ok (.iload 5, 2) := by decide +kernel
theorem dX6_joint_120 : decode cX6_joint 120 = .ok (.invokevirtual 168, 3) := by decide +kernel
theorem dX6_joint_123 : decode cX6_joint 123 = .ok (.ifCond .eq 21, 3) := by decide +kernel
theorem dX6_joint_126 : decode cX6_joint 126 = .ok (.aload_n 0, 1) := by decide +kernel
theorem dX6_joint_127 : decode cX6_joint 127 = .ok (.getfield 13, 3) := by decide +kernel
theorem dX6_joint_130 : decode cX6_joint 130 = .ok (.iconst 1, 1) := by decide +kernel
theorem dX6_joint_131 : decode cX6_joint 131 = .ok (.iaload, 1) := by decide +kernel
theorem dX6_joint_132 : decode cX6_joint 132 = .ok (.aload_n 0, 1) := by decide +kernel
theorem dX6_joint_133 : decode cX6_joint 133 = .ok (.aload_n 0, 1) := by decide +kernel
theorem dX6_joint_134 : decode cX6_joint 134 = .ok (.iload_n 2, 1) := by decide +kernel
theorem dX6_joint_135 : decode cX6_joint 135 = .ok (.invokevirtual 129, 3) := by decide +kernel
theorem dX6_joint_138 : decode cX6_joint 138 = .ok (.invokevirtual 162, 3) := by decide +kernel
theorem dX6_joint_141 : decode cX6_joint 141 = .ok (.if_icmp .ge 7, 3) := by decide +kernel
theorem dX6_joint_144 : decode cX6_joint 144 = .ok (.iconst 3, 1) := by decide +kernel
theorem dX6_joint_145 : decode cX6_joint 145 = .ok (.goto 4, 3) := by decide +kernel
theorem dX6_joint_148 : decode cX6_joint 148 = .ok (.iconst 0, 1) := by decide +kernel
theorem dX6_joint_149 : decode cX6_joint 149 = .ok (.putfield 105, 3) := by decide +kernel
theorem dX6_joint_152 : decode cX6_joint 152 = .ok (.aload_n 0, 1) := by decide +kernel
theorem dX6_joint_153 : decode cX6_joint 153 = .ok (.getfield 105, 3) := by decide +kernel
theorem dX6_joint_156 : decode cX6_joint 156 = .ok (.ifCond .le 5, 3) := by decide +kernel
theorem dX6_joint_159 : decode cX6_joint 159 = .ok (.iconst 0, 1) := by decide +kernel
theorem dX6_joint_160 : decode cX6_joint 160 = .ok (.ireturn, 1) := by decide +kernel
theorem dX6_joint_161 : decode cX6_joint 161 = .ok (.aload_n 0, 1) := by decide +kernel
theorem dX6_joint_162 : decode cX6_joint 162 = .ok (.getfield 118, 3) := by decide +kernel
theorem dX6_joint_165 : decode cX6_joint 165 = .ok (.istore 7, 2) := by decide +kernel
theorem dX6_joint_167 : decode cX6_joint 167 = .ok (.aload_n 0, 1) := by decide +kernel
theorem dX6_joint_168 : decode cX6_joint 168 = .ok (.getfield 13, 3) := by decide +kernel
theorem dX6_joint_171 : decode cX6_joint 171 = .ok (.iconst 1, 1) := by decide +kernel
theorem dX6_joint_172 : decode cX6_joint 172 = .ok (.dup2, 1) := by decide +kernel
theorem dX6_joint_173 : decode cX6_joint 173 = .ok (.iaload, 1) := by decide +kernel
theorem dX6_joint_174 : decode cX6_joint 174 = .ok (.aload_n 0, 1) := by decide +kernel
theorem dX6_joint_175 : decode cX6_joint 175 = .ok (.aload_n 0, 1) := by decide +kernel
theorem dX6_joint_176 : decode cX6_joint 176 = .ok (.iload_n 2, 1) := by decide +kernel
theorem dX6_joint_177 : decode cX6_joint 177 = .ok (.invokevirtual 129, 3) := by decide +kernel
theorem dX6_joint_180 : decode cX6_joint 180 = .ok (.invokevirtual 162, 3) := by decide +kernel
theorem dX6_joint_183 : decode cX6_joint 183 = .ok (.isub, 1) := by decide +kernel
theorem dX6_joint_184 : decode cX6_joint 184 = .ok (.iastore, 1) := by decide +kernel
theorem dX6_joint_185 : decode cX6_joint 185 = .ok (.aload_n 0, 1) := by decide +kernel
theorem dX6_joint_186 : decode cX6_joint 186 = .ok (.getfield 71, 3) := by decide +kernel
theorem dX6_joint_189 : decode cX6_joint 189 = .ok (.iload 7, 2) := by decide +kernel
theorem dX6_joint_191 : decode cX6_joint 191 = .ok (.iload_n 1, 1) := by decide +kernel
theorem dX6_joint_192 : decode cX6_joint 192 = .ok (.iastore, 1) := by decide +kernel
theorem dX6_joint_193 : decode cX6_joint 193 = .ok (.aload_n 0, 1) := by decide +kernel
theorem dX6_joint_194 : decode cX6_joint 194 = .ok (.getfield 74, 3) := by decide +kernel
theorem dX6_joint_197 : decode cX6_joint 197 = .ok (.iload 7, 2) := by decide +kernel
theorem dX6_joint_199 : decode cX6_joint 199 = .ok (.iload_n 2, 1) := by decide +kernel
theorem dX6_joint_200 : decode cX6_joint 200 = .ok (.iastore, 1) := by decide +kernel
theorem dX6_joint_201 : decode cX6_joint 201 = .ok (.aload_n 0, 1) := by decide +kernel
theorem dX6_joint_202 : decode cX6_joint 202 = .ok (.getfield 77, 3) := by decide +kernel
theorem dX6_joint_205 : decode cX6_joint 205 = .ok (.iload 7, 2) := by decide +kernel
theorem dX6_joint_207 : decode cX6_joint 207 = .ok (.iload_n 3, 1) := by decide +kernel
theorem dX6_joint_208 : decode cX6_joint 208 = .ok (.iastore, 1) := by decide +kernel
theorem dX6_joint_209 : decode cX6_joint 209 = .ok (.aload_n 0, 1) := by decide +kernel
theorem dX6_joint_210 : decode cX6_joint 210 = .ok (.getfield 80, 3) := by decide +kernel
theorem dX6_joint_213 : decode cX6_joint 213 = .ok (.iload 7, 2) := by decide +kernel
theorem dX6_joint_215 : decode cX6_joint 215 = .ok (.iload 4, 2) := by decide +kernel
theorem dX6_joint_217 : decode cX6_joint 217 = .ok (.iastore, 1) := by decide +kernel
theorem dX6_joint_218 : decode cX6_joint 218 = .ok (.aload_n 0, 1) := by decide +kernel
theorem dX6_joint_219 : decode cX6_joint 219 = .ok (.getfield 83, 3) := by decide +kernel
theorem dX6_joint_222 : decode cX6_joint 222 = .ok (.iload 7, 2) := by decide +kernel
theorem dX6_joint_224 : decode cX6_joint 224 = .ok (.iload 5, 2) := by decide +kernel
theorem dX6_joint_226 : decode cX6_joint 226 = .ok (.iastore, 1) := by decide +kernel
theorem dX6_joint_227 : decode cX6_joint 227 = .ok (.aload_n 0, 1) := by decide +kernel
theorem dX6_joint_228 : decode cX6_joint 228 = .ok (.dup, 1) := by decide +kernel
theorem dX6_joint_229 : decode cX6_joint 229 = .ok (.getfield 118, 3) := by decide +kernel
theorem dX6_joint_232 : decode cX6_joint 232 = .ok (.iconst 1, 1) := by decide +kernel
theorem dX6_joint_233 : decode cX6_joint 233 = .ok (.iadd, 1) := by decide +kernel
theorem dX6_joint_234 : decode cX6_joint 234 = .ok (.putfield 118, 3) := by decide +kernel
theorem dX6_joint_237 : decode cX6_joint 237 = .ok (.iload 7, 2) := by decide +kernel
theorem dX6_joint_239 : decode cX6_joint 239 = .ok (.ireturn, 1) := by decide +kernel
theorem dX6_need_0 : decode cX6_need 0 = .ok (.aload_n 0, 1) := by decide +kernel
theorem dX6_need_1 : decode cX6_need 1 = .ok (.aload_n 0, 1) := by decide +kernel
theorem dX6_need_2 : decode cX6_need 2 = .ok (.iload_n 1, 1) := by decide +kernel
theorem dX6_need_3 : decode cX6_need 3 = .ok (.invokevirtual 172, 3) := by decide +kernel
theorem dX6_need_6 : decode cX6_need 6 = .ok (.ifCond .eq 11, 3) := by decide +kernel
theorem dX6_need_9 : decode cX6_need 9 = .ok (.aload_n 0, 1) := by decide +kernel
theorem dX6_need_10 : decode cX6_need 10 = .ok (.iload_n 2, 1) := by decide +kernel
theorem dX6_need_11 : decode cX6_need 11 = .ok (.invokevirtual 172, 3) := by decide +kernel
theorem dX6_need_14 : decode cX6_need 14 = .ok (.ifCond .ne 7, 3) := by decide +kernel
theorem dX6_need_17 : decode cX6_need 17 = .ok (.iconst 1, 1) := by decide +kernel
theorem dX6_need_18 : decode cX6_need 18 = .ok (.goto 13, 3) := by decide +kernel
theorem dX6_need_21 : decode cX6_need 21 = .ok (.iload_n 2, 1) := by decide +kernel
theorem dX6_need_22 : decode cX6_need 22 = .ok (.iload_n 1, 1) := by decide +kernel
theorem dX6_need_23 : decode cX6_need 23 = .ok (.if_icmp .lt 7, 3) := by decide +kernel
theorem dX6_need_26 : decode cX6_need 26 = .ok (.iconst 2, 1) := by decide +kernel
theorem dX6_need_27 : decode cX6_need 27 = .ok (.goto 4, 3) := by decide +kernel
theorem dX6_need_30 : decode cX6_need 30 = .ok (.iconst 0, 1) := by decide +kernel
theorem dX6_need_31 : decode cX6_need 31 = .ok (.putfield 105, 3) := by decide +kernel
theorem dX6_need_34 : decode cX6_need 34 = .ok (.aload_n 0, 1) := by decide +kernel
theorem dX6_need_35 : decode cX6_need 35 = .ok (.getfield 105, 3) := by decide +kernel
theorem dX6_need_38 : decode cX6_need 38 = .ok (.ifCond .ne 21, 3) := by decide +kernel
theorem dX6_need_41 : decode cX6_need 41 = .ok (.aload_n 0, 1) := by decide +kernel
theorem dX6_need_42 : decode cX6_need 42 = .ok (.aload_n 0, 1) := by decide +kernel
theorem dX6_need_43 : decode cX6_need 43 = .ok (.getfield 89, 3) := by decide +kernel
theorem dX6_need_46 : decode cX6_need 46 = .ok (.iload_n 1, 1) := by decide +kernel
theorem dX6_need_47 : decode cX6_need 47 = .ok (.baload, 1) := by decide +kernel
theorem dX6_need_48 : decode cX6_need 48 = .ok (.ifCond .eq 7, 3) := by decide +kernel
theorem dX6_need_51 : decode cX6_need 51 = .ok (.iconst 3, 1) := by decide +kernel
theorem dX6_need_52 : decode cX6_need 52 = .ok (.goto 4, 3) := by decide +kernel
theorem dX6_need_55 : decode cX6_need 55 = .ok (.iconst 0, 1) := by decide +kernel
theorem dX6_need_56 : decode cX6_need 56 = .ok (.putfield 105, 3) := by decide +kernel
theorem dX6_need_59 : decode cX6_need 59 = .ok (.aload_n 0, 1) := by decide +kernel
theorem dX6_need_60 : decode cX6_need 60 = .ok (.getfield 105, 3) := by decide +kernel
theorem dX6_need_63 : decode cX6_need 63 = .ok (.ifCond .le 5, 3) := by decide +kernel
theorem dX6_need_66 : decode cX6_need 66 = .ok (.iconst 0, 1) := by decide +kernel
theorem dX6_need_67 : decode cX6_need 67 = .ok (.ireturn, 1) := by decide +kernel
theorem dX6_need_68 : decode cX6_need 68 = .ok (.aload_n 0, 1) := by decide +kernel
theorem dX6_need_69 : decode cX6_need 69 = .ok (.getfield 86, 3) := by decide +kernel
theorem dX6_need_72 : decode cX6_need 72 = .ok (.iload_n 1, 1) := by decide +kernel
theorem dX6_need_73 : decode cX6_need 73 = .ok (.dup2, 1) := by decide +kernel
theorem dX6_need_74 : decode cX6_need 74 = .ok (.iaload, 1) := by decide +kernel
theorem dX6_need_75 : decode cX6_need 75 = .ok (.iconst 1, 1) := by decide +kernel
theorem dX6_need_76 : decode cX6_need 76 = .ok (.iload_n 2, 1) := by decide +kernel
theorem dX6_need_77 : decode cX6_need 77 = .ok (.ishl, 1) := by decide +kernel
theorem dX6_need_78 : decode cX6_need 78 = .ok (.ior, 1) := by decide +kernel
theorem dX6_need_79 : decode cX6_need 79 = .ok (.iastore, 1) := by decide +kernel
theorem dX6_need_80 : decode cX6_need 80 = .ok (.aload_n 0, 1) := by decide +kernel
theorem dX6_need_81 : decode cX6_need 81 = .ok (.getfield 86, 3) := by decide +kernel
theorem dX6_need_84 : decode cX6_need 84 = .ok (.iload_n 1, 1) := by decide +kernel
theorem dX6_need_85 : decode cX6_need 85 = .ok (.iaload, 1) := by decide +kernel
theorem dX6_need_86 : decode cX6_need 86 = .ok (.ireturn, 1) := by decide +kernel
theorem dX6_clamps_0 : decode cX6_clamps 0 = .ok (.aload_n 0, 1) := by decide +kernel
theorem dX6_clamps_1 : decode cX6_clamps 1 = .ok (.aload_n 0, 1) := by decide +kernel
theorem dX6_clamps_2 : decode cX6_clamps 2 = .ok (.iload_n 1, 1) := by decide +kernel
theorem dX6_clamps_3 : decode cX6_clamps 3 = .ok (.iconst 1, 1) := by decide +kernel
theorem dX6_clamps_4 : decode cX6_clamps 4 = .ok (.bipush 99, 2) := by decide +kernel
theorem dX6_clamps_6 : decode cX6_clamps 6 = .ok (.invokevirtual 111, 3) := by decide +kernel
theorem dX6_clamps_9 : decode cX6_clamps 9 = .ok (.ifCond .ne 7, 3) := by decide +kernel
theorem dX6_clamps_12 : decode cX6_clamps 12 = .ok (.iconst 1, 1) := by decide +kernel
theorem dX6_clamps_13 : decode cX6_clamps 13 = .ok (.goto 4, 3) := by decide +kernel
theorem dX6_clamps_16 : decode cX6_clamps 16 = .ok (.iconst 0, 1) := by decide +kernel
theorem dX6_clamps_17 : decode cX6_clamps 17 = .ok (.putfield 105, 3) := by decide +kernel
theorem dX6_clamps_20 : decode cX6_clamps 20 = .ok (.aload_n 0, 1) := by decide +kernel
theorem dX6_clamps_21 : decode cX6_clamps 21 = .ok (.getfield 105, 3) := by decide +kernel
theorem dX6_clamps_24 : decode cX6_clamps 24 = .ok (.ifCond .le 5, 3) := by decide +kernel
theorem dX6_clamps_27 : decode cX6_clamps 27 = .ok (.iconst 0, 1) := by decide +kernel
theorem dX6_clamps_28 : decode cX6_clamps 28 = .ok (.ireturn, 1) := by decide +kernel
theorem dX6_clamps_29 : decode cX6_clamps 29 = .ok (.aload_n 0, 1) := by decide +kernel
theorem dX6_clamps_30 : decode cX6_clamps 30 = .ok (.getfield 16, 3) := by decide +kernel
theorem dX6_clamps_33 : decode cX6_clamps 33 = .ok (.istore_n 2, 1) := by decide +kernel
theorem dX6_clamps_34 : decode cX6_clamps 34 = .ok (.aload_n 0, 1) := by decide +kernel
theorem dX6_clamps_35 : decode cX6_clamps 35 = .ok (.iload_n 1, 1) := by decide +kernel
theorem dX6_clamps_36 : decode cX6_clamps 36 = .ok (.putfield 16, 3) := by decide +kernel
theorem dX6_clamps_39 : decode cX6_clamps 39 = .ok (.iload_n 2, 1) := by decide +kernel
theorem dX6_clamps_40 : decode cX6_clamps 40 = .ok (.ireturn, 1) := by decide +kernel
theorem dX6_glue_0 : decode cX6_glue 0 = .ok (.aload_n 0, 1) := by decide +kernel
theorem dX6_glue_1 : decode cX6_glue 1 = .ok (.iload_n 1, 1) := by decide +kernel
theorem dX6_glue_2 : decode cX6_glue 2 = .ok (.iconst 1, 1) := by decide +kernel
theorem dX6_glue_3 : decode cX6_glue 3 = .ok (.if_icmp .lt 12, 3) := by decide +kernel
theorem dX6_glue_6 : decode cX6_glue 6 = .ok (.iload_n 1, 1) := by decide +kernel
theorem dX6_glue_7 : decode cX6_glue 7 = .ok (.aload_n 0, 1) := by decide +kernel
theorem dX6_glue_8 : decode cX6_glue 8 = .ok (.getfield 118, 3) := by decide +kernel
theorem dX6_glue_11 : decode cX6_glue 11 = .ok (.ishr, 1) := by decide +kernel
theorem dX6_glue_12 : decode cX6_glue 12 = .ok (.ifCond .eq 7, 3) := by decide +kernel
theorem dX6_glue_15 : decode cX6_glue 15 = .ok (.iconst 1, 1) := by decide +kernel
theorem dX6_glue_16 : decode cX6_glue 16 = .ok (.goto 4, 3) := by decide +kernel
theorem dX6_glue_19 : decode cX6_glue 19 = .ok (.iconst 0, 1) := by decide +kernel
theorem dX6_glue_20 : decode cX6_glue 20 = .ok (.putfield 105, 3) := by decide +kernel
theorem dX6_glue_23 : decode cX6_glue 23 = .ok (.iconst 0, 1) := by decide +kernel
theorem dX6_glue_24 : decode cX6_glue 24 = .ok (.istore_n 2, 1) := by decide +kernel
theorem dX6_glue_25 : decode cX6_glue 25 = .ok (.iconst 0, 1) := by decide +kernel
theorem dX6_glue_26 : decode cX6_glue 26 = .ok (.istore_n 3, 1) := by decide +kernel
theorem dX6_glue_27 : decode cX6_glue 27 = .ok (.iconst 1, 1) := by decide +kernel
theorem dX6_glue_28 : decode cX6_glue 28 = .ok (.istore 4, 2) := by decide +kernel
theorem dX6_glue_30 : decode cX6_glue 30 = .ok (.iload_n 1, 1) := by decide +kernel
theorem dX6_glue_31 : decode cX6_glue 31 = .ok (.istore 5, 2) := by decide +kernel
theorem dX6_glue_33 : decode cX6_glue 33 = .ok (.iconst 0, 1) := by decide +kernel
theorem dX6_glue_34 : decode cX6_glue 34 = .ok (.istore 6, 2) := by decide +kernel
theorem dX6_glue_36 : decode cX6_glue 36 = .ok (.iload 6, 2) := by decide +kernel
theorem dX6_glue_38 : decode cX6_glue 38 = .ok (.aload_n 0, 1) := by decide +kernel
theorem dX6_glue_39 : decode cX6_glue 39 = .ok (.getfield 118, 3) := by decide +kernel
theorem dX6_glue_42 : decode cX6_glue 42 = .ok (.if_icmp .ge 33, 3) := by decide +kernel
theorem dX6_glue_45 : decode cX6_glue 45 = .ok (.aload_n 0, 1) := by decide +kernel
theorem dX6_glue_46 : decode cX6_glue 46 = .ok (.getfield 89, 3) := by decide +kernel
theorem dX6_glue_49 : decode cX6_glue 49 = .ok (.iload 6, 2) := by decide +kernel
theorem dX6_glue_51 : decode cX6_glue 51 = .ok (.baload, 1) := by decide +kernel
theorem dX6_glue_52 : decode cX6_glue 52 = .ok (.ifCond .eq 13, 3) := by decide +kernel
theorem dX6_glue_55 : decode cX6_glue 55 = .ok (.iload 5, 2) := by decide +kernel
theorem dX6_glue_57 : decode cX6_glue 57 = .ok (.iconst 1, 1) := by decide +kernel
theorem dX6_glue_58 : decode cX6_glue 58 = .ok (.iload 6, 2) := by decide +kernel
theorem dX6_glue_60 : decode cX6_glue 60 = .ok (.ishl, 1) := by decide +kernel
theorem dX6_glue_61 : decode cX6_glue 61 = .ok (.ior, 1) := by decide +kernel
theorem dX6_glue_62 : decode cX6_glue 62 = .ok (.goto 5, 3) := by decide +kernel
theorem dX6_glue_65 : decode cX6_glue 65 = .ok (.iload 5, 2) := by decide +kernel
theorem dX6_glue_67 : decode cX6_glue 67 = .ok (.istore 5, 2) := by decide +kernel
theorem dX6_glue_69 : decode cX6_glue 69 = .ok (.iinc 6 1, 3) := by decide +kernel
theorem dX6_glue_72 : decode cX6_glue 72 = .ok (.goto (-36), 3) := by decide +kernel
theorem dX6_glue_75 : decode cX6_glue 75 = .ok (.iconst 0, 1) := by decide +kernel
theorem dX6_glue_76 : decode cX6_glue 76 = .ok (.istore 6, 2) := by decide +kernel
theorem dX6_glue_78 : decode cX6_glue 78 = .ok (.iload 6, 2) := by decide +kernel
theorem dX6_glue_80 : decode cX6_glue 80 = .ok (.aload_n 0, 1) := by decide +kernel
theorem dX6_glue_81 : decode cX6_glue 81 = .ok (.getfield 118, 3) := by decide +kernel
theorem dX6_glue_84 : decode cX6_glue 84 = .ok (.if_icmp .ge 95, 3) := by decide +kernel
theorem dX6_glue_87 : decode cX6_glue 87 = .ok (.aload_n 0, 1) := by decide +kernel
theorem dX6_glue_88 : decode cX6_glue 88 = .ok (.getfield 105, 3) := by decide +kernel
theorem dX6_glue_91 : decode cX6_glue 91 = .ok (.ifCond .ne 88, 3) := by decide +kernel
theorem dX6_glue_94 : decode cX6_glue 94 = .ok (.iload_n 1, 1) := by decide +kernel
theorem dX6_glue_95 : decode cX6_glue 95 = .ok (.iload 6, 2) := by decide +kernel
theorem dX6_glue_97 : decode cX6_glue 97 = .ok (.ishr, 1) := by decide +kernel
theorem dX6_glue_98 : decode cX6_glue 98 = .ok (.iconst 1, 1) := by decide +kernel
theorem dX6_glue_99 : decode cX6_glue 99 = .ok (.iand, 1) := by decide +kernel
theorem dX6_glue_100 : decode cX6_glue 100 = .ok (.iconst 1, 1) := by decide +kernel
theorem dX6_glue_101 : decode cX6_glue 101 = .ok (.if_icmp .ne 72, 3) := by decide +kernel
theorem dX6_glue_104 : decode cX6_glue 104 = .ok (.iload_n 2, 1) := by decide +kernel
theorem dX6_glue_105 : decode cX6_glue 105 = .ok (.iconst 3, 1) := by decide +kernel
theorem dX6_glue_106 : decode cX6_glue 106 = .ok (.aload_n 0, 1) := by decide +kernel
theorem dX6_glue_107 : decode cX6_glue 107 = .ok (.getfield 80, 3) := by decide +kernel
theorem dX6_glue_110 : decode cX6_glue 110 = .ok (.iload 6, 2) := by decide +kernel
theorem dX6_glue_112 : decode cX6_glue 112 = .ok (.iaload, 1) := by decide +kernel
theorem dX6_glue_113 : decode cX6_glue 113 = .ok (.sipush 1000, 3) := by decide +kernel
theorem dX6_glue_116 : decode cX6_glue 116 = .ok (.idiv, 1) := by decide +kernel
theorem dX6_glue_117 : decode cX6_glue 117 = .ok (.iadd, 1) := by decide +kernel
theorem dX6_glue_118 : decode cX6_glue 118 = .ok (.iadd, 1) := by decide +kernel
theorem dX6_glue_119 : decode cX6_glue 119 = .ok (.istore_n 2, 1) := by decide +kernel
theorem dX6_glue_120 : decode cX6_glue 120 = .ok (.iload_n 3, 1) := by decide +kernel
theorem dX6_glue_121 : decode cX6_glue 121 = .ok (.iconst 1, 1) := by decide +kernel
theorem dX6_glue_122 : decode cX6_glue 122 = .ok (.aload_n 0, 1) := by decide +kernel
theorem dX6_glue_123 : decode cX6_glue 123 = .ok (.getfield 80, 3) := by decide +kernel
theorem dX6_glue_126 : decode cX6_glue 126 = .ok (.iload 6, 2) := by decide +kernel
theorem dX6_glue_128 : decode cX6_glue 128 = .ok (.iaload, 1) := by decide +kernel
theorem dX6_glue_129 : decode cX6_glue 129 = .ok (.sipush 500, 3) := by decide +kernel
theorem dX6_glue_132 : decode cX6_glue 132 = .ok (.idiv, 1) := by decide +kernel
theorem dX6_glue_133 : decode cX6_glue 133 = .ok (.iadd, 1) := by decide +kernel
theorem dX6_glue_134 : decode cX6_glue 134 = .ok (.iadd, 1) := by decide +kernel
theorem dX6_glue_135 : decode cX6_glue 135 = .ok (.istore_n 3, 1) := by decide +kernel
theorem dX6_glue_136 : decode cX6_glue 136 = .ok (.iload 4, 2) := by decide +kernel
theorem dX6_glue_138 : decode cX6_glue 138 = .ok (.ifCond .eq 32, 3) := by decide +kernel
theorem dX6_glue_141 : decode cX6_glue 141 = .ok (.aload_n 0, 1) := by decide +kernel
theorem dX6_glue_142 : decode cX6_glue 142 = .ok (.getfield 89, 3) := by decide +kernel
theorem dX6_glue_145 : decode cX6_glue 145 = .ok (.iload 6, 2) := by decide +kernel
theorem dX6_glue_147 : decode cX6_glue 147 = .ok (.baload, 1) := by decide +kernel
theorem dX6_glue_148 : decode cX6_glue 148 = .ok (.ifCond .ne 22, 3) := by decide +kernel
theorem dX6_glue_151 : decode cX6_glue 151 = .ok (.aload_n 0, 1) := by decide +kernel
theorem dX6_glue_152 : decode cX6_glue 152 = .ok (.getfield 86, 3) := by decide +kernel
theorem dX6_glue_155 : decode cX6_glue 155 = .ok (.iload 6, 2) := by decide +kernel
theorem dX6_glue_157 : decode cX6_glue 157 = .ok (.iaload, 1) := by decide +kernel
theorem dX6_glue_158 : decode cX6_glue 158 = .ok (.iload 5, 2) := by decide +kernel
theorem dX6_glue_160 : decode cX6_glue 160 = .ok (.iconst (-1), 1) := by decide +kernel
theorem dX6_glue_161 : decode cX6_glue 161 = .ok (.ixor, 1) := by decide +kernel
theorem dX6_glue_162 : decode cX6_glue 162 = .ok (.iand, 1) := by decide +kernel
theorem dX6_glue_163 : decode cX6_glue 163 = .ok (.ifCond .ne 7, 3) := by decide +kernel
theorem dX6_glue_166 : decode cX6_glue 166 = .ok (.iconst 1, 1) := by decide +kernel
theorem dX6_glue_167 : decode cX6_glue 167 = .ok (.goto 4, 3) := by decide +kernel
theorem dX6_glue_170 : decode cX6_glue 170 = .ok (.iconst 0, 1) := by decide +kernel
theorem dX6_glue_171 : decode cX6_glue 171 = .ok (.istore 4, 2) := by decide +kernel
theorem dX6_glue_173 : decode cX6_glue 173 = .ok (.iinc 6 1, 3) := by decide +kernel
theorem dX6_glue_176 : decode cX6_glue 176 = .ok (.goto (-98), 3) := by decide +kernel
theorem dX6_glue_179 : decode cX6_glue 179 = .ok (.aload_n 0, 1) := by decide +kernel
theorem dX6_glue_180 : decode cX6_glue 180 = .ok (.aload_n 0, 1) := by decide +kernel
theorem dX6_glue_181 : decode cX6_glue 181 = .ok (.getfield 105, 3) := by decide +kernel
theorem dX6_glue_184 : decode cX6_glue 184 = .ok (.ifCond .ne 26, 3) := by decide +kernel
theorem dX6_glue_187 : decode cX6_glue 187 = .ok (.iload 4, 2) := by decide +kernel
theorem dX6_glue_189 : decode cX6_glue 189 = .ok (.ifCond .eq 17, 3) := by decide +kernel
theorem dX6_glue_192 : decode cX6_glue 192 = .ok (.iload_n 2, 1) := by decide +kernel
theorem dX6_glue_193 : decode cX6_glue 193 = .ok (.bipush 30, 2) := by decide +kernel
theorem dX6_glue_195 : decode cX6_glue 195 = .ok (.if_icmp .gt 11, 3) := by decide +kernel
theorem dX6_glue_198 : decode cX6_glue 198 = .ok (.iload_n 3, 1) := by decide +kernel
theorem dX6_glue_199 : decode cX6_glue 199 = .ok (.aload_n 0, 1) := by decide +kernel
theorem dX6_glue_200 : decode cX6_glue 200 = .ok (.getfield 16, 3) := by decide +kernel
theorem dX6_glue_203 : decode cX6_glue 203 = .ok (.if_icmp .le 7, 3) := by decide +kernel
theorem dX6_glue_206 : decode cX6_glue 206 = .ok (.iconst 2, 1) := by decide +kernel
theorem dX6_glue_207 : decode cX6_glue 207 = .ok (.goto 7, 3) := by decide +kernel
theorem dX6_glue_210 : decode cX6_glue 210 = .ok (.aload_n 0, 1) := by decide +kernel
theorem dX6_glue_211 : decode cX6_glue 211 = .ok (.getfield 105, 3) := by decide +kernel
theorem dX6_glue_214 : decode cX6_glue 214 = .ok (.putfield 105, 3) := by decide +kernel
theorem dX6_glue_217 : decode cX6_glue 217 = .ok (.aload_n 0, 1) := by decide +kernel
theorem dX6_glue_218 : decode cX6_glue 218 = .ok (.getfield 105, 3) := by decide +kernel
theorem dX6_glue_221 : decode cX6_glue 221 = .ok (.ifCond .le 5, 3) := by decide +kernel
theorem dX6_glue_224 : decode cX6_glue 224 = .ok (.iconst 0, 1) := by decide +kernel
theorem dX6_glue_225 : decode cX6_glue 225 = .ok (.ireturn, 1) := by decide +kernel
theorem dX6_glue_226 : decode cX6_glue 226 = .ok (.iconst 0, 1) := by decide +kernel
theorem dX6_glue_227 : decode cX6_glue 227 = .ok (.istore 6, 2) := by decide +kernel
theorem dX6_glue_229 : decode cX6_glue 229 = .ok (.iload 6, 2) := by decide +kernel
theorem dX6_glue_231 : decode cX6_glue 231 = .ok (.aload_n 0, 1) := by decide +kernel
theorem dX6_glue_232 : decode cX6_glue 232 = .ok (.getfield 118, 3) := by decide +kernel
theorem dX6_glue_235 : decode cX6_glue 235 = .ok (.if_icmp .ge 46, 3) := by decide +kernel
theorem dX6_glue_238 : decode cX6_glue 238 = .ok (.iload_n 1, 1) := by decide +kernel
theorem dX6_glue_239 : decode cX6_glue 239 = .ok (.iload 6, 2) := by decide +kernel
theorem dX6_glue_241 : decode cX6_glue 241 = .ok (.ishr, 1) := by decide +kernel
theorem dX6_glue_242 : decode cX6_glue 242 = .ok (.iconst 1, 1) := by decide +kernel
theorem dX6_glue_243 : decode cX6_glue 243 = .ok (.iand, 1) := by decide +kernel
theorem dX6_glue_244 : decode cX6_glue 244 = .ok (.iconst 1, 1) := by decide +kernel
theorem dX6_glue_245 : decode cX6_glue 245 = .ok (.if_icmp .ne 30, 3) := by decide +kernel
theorem dX6_glue_248 : decode cX6_glue 248 = .ok (.aload_n 0, 1) := by decide +kernel
theorem dX6_glue_249 : decode cX6_glue 249 = .ok (.getfield 89, 3) := by decide +kernel
theorem dX6_glue_252 : decode cX6_glue 252 = .ok (.iload 6, 2) := by decide +kernel
theorem dX6_glue_254 : decode cX6_glue 254 = .ok (.iconst 1, 1) := by decide +kernel
theorem dX6_glue_255 : decode cX6_glue 255 = .ok (.bastore, 1) := by decide +kernel
theorem dX6_glue_256 : decode cX6_glue 256 = .ok (.aload_n 0, 1) := by decide +kernel
theorem dX6_glue_257 : decode cX6_glue 257 = .ok (.getfield 96, 3) := by decide +kernel
theorem dX6_glue_260 : decode cX6_glue 260 = .ok (.iload 6, 2) := by decide +kernel
theorem dX6_glue_262 : decode cX6_glue 262 = .ok (.aload_n 0, 1) := by decide +kernel
theorem dX6_glue_263 : decode cX6_glue 263 = .ok (.getfield 65, 3) := by decide +kernel
theorem dX6_glue_266 : decode cX6_glue 266 = .ok (.aload_n 0, 1) := by decide +kernel
theorem dX6_glue_267 : decode cX6_glue 267 = .ok (.getfield 74, 3) := by decide +kernel
theorem dX6_glue_270 : decode cX6_glue 270 = .ok (.iload 6, 2) := by decide +kernel
theorem dX6_glue_272 : decode cX6_glue 272 = .ok (.iaload, 1) := by decide +kernel
theorem dX6_glue_273 : decode cX6_glue 273 = .ok (.iaload, 1) := by decide +kernel
theorem dX6_glue_274 : decode cX6_glue 274 = .ok (.iastore, 1) := by decide +kernel
theorem dX6_glue_275 : decode cX6_glue 275 = .ok (.iinc 6 1, 3) := by decide +kernel
theorem dX6_glue_278 : decode cX6_glue 278 = .ok (.goto (-49), 3) := by decide +kernel
theorem dX6_glue_281 : decode cX6_glue 281 = .ok (.iload_n 2, 1) := by decide +kernel
theorem dX6_glue_282 : decode cX6_glue 282 = .ok (.ireturn, 1) := by decide +kernel
theorem dX6_repair_0 : decode cX6_repair 0 = .ok (.aload_n 0, 1) := by decide +kernel
theorem dX6_repair_1 : decode cX6_repair 1 = .ok (.aload_n 0, 1) := by decide +kernel
theorem dX6_repair_2 : decode cX6_repair 2 = .ok (.iload_n 1, 1) := by decide +kernel
theorem dX6_repair_3 : decode cX6_repair 3 = .ok (.invokevirtual 172, 3) := by decide +kernel
theorem dX6_repair_6 : decode cX6_repair 6 = .ok (.ifCond .ne 7, 3) := by decide +kernel
theorem dX6_repair_9 : decode cX6_repair 9 = .ok (.iconst 1, 1) := by decide +kernel
theorem dX6_repair_10 : decode cX6_repair 10 = .ok (.goto 4, 3) := by decide +kernel
theorem dX6_repair_13 : decode cX6_repair 13 = .ok (.iconst 0, 1) := by decide +kernel
theorem dX6_repair_14 : decode cX6_repair 14 = .ok (.putfield 105, 3) := by decide +kernel
theorem dX6_repair_17 : decode cX6_repair 17 = .ok (.aload_n 0, 1) := by decide +kernel
theorem dX6_repair_18 : decode cX6_repair 18 = .ok (.getfield 105, 3) := by decide +kernel
theorem dX6_repair_21 : decode cX6_repair 21 = .ok (.ifCond .ne 21, 3) := by decide +kernel
theorem dX6_repair_24 : decode cX6_repair 24 = .ok (.aload_n 0, 1) := by decide +kernel
theorem dX6_repair_25 : decode cX6_repair 25 = .ok (.aload_n 0, 1) := by decide +kernel
theorem dX6_repair_26 : decode cX6_repair 26 = .ok (.getfield 93, 3) := by decide +kernel
theorem dX6_repair_29 : decode cX6_repair 29 = .ok (.iload_n 1, 1) := by decide +kernel
theorem dX6_repair_30 : decode cX6_repair 30 = .ok (.baload, 1) := by decide +kernel
theorem dX6_repair_31 : decode cX6_repair 31 = .ok (.ifCond .ne 7, 3) := by decide +kernel
theorem dX6_repair_34 : decode cX6_repair 34 = .ok (.iconst 2, 1) := by decide +kernel
theorem dX6_repair_35 : decode cX6_repair 35 = .ok (.goto 4, 3) := by decide +kernel
theorem dX6_repair_38 : decode cX6_repair 38 = .ok (.iconst 0, 1) := by decide +kernel
theorem dX6_repair_39 : decode cX6_repair 39 = .ok (.putfield 105, 3) := by decide +kernel
theorem dX6_repair_42 : decode cX6_repair 42 = .ok (.aload_n 0, 1) := by decide +kernel
theorem dX6_repair_43 : decode cX6_repair 43 = .ok (.getfield 105, 3) := by decide +kernel
theorem dX6_repair_46 : decode cX6_repair 46 = .ok (.ifCond .le 5, 3) := by decide +kernel
theorem dX6_repair_49 : decode cX6_repair 49 = .ok (.iconst 0, 1) := by decide +kernel
theorem dX6_repair_50 : decode cX6_repair 50 = .ok (.ireturn, 1) := by decide +kernel
theorem dX6_repair_51 : decode cX6_repair 51 = .ok (.aload_n 0, 1) := by decide +kernel
theorem dX6_repair_52 : decode cX6_repair 52 = .ok (.getfield 74, 3) := by decide +kernel
theorem dX6_repair_55 : decode cX6_repair 55 = .ok (.iload_n 1, 1) := by decide +kernel
theorem dX6_repair_56 : decode cX6_repair 56 = .ok (.iaload, 1) := by decide +kernel
theorem dX6_repair_57 : decode cX6_repair 57 = .ok (.istore_n 2, 1) := by decide +kernel
theorem dX6_repair_58 : decode cX6_repair 58 = .ok (.aload_n 0, 1) := by decide +kernel
theorem dX6_repair_59 : decode cX6_repair 59 = .ok (.getfield 93, 3) := by decide +kernel
theorem dX6_repair_62 : decode cX6_repair 62 = .ok (.iload_n 1, 1) := by decide +kernel
theorem dX6_repair_63 : decode cX6_repair 63 = .ok (.iconst 0, 1) := by decide +kernel
theorem dX6_repair_64 : decode cX6_repair 64 = .ok (.bastore, 1) := by decide +kernel
theorem dX6_repair_65 : decode cX6_repair 65 = .ok (.aload_n 0, 1) := by decide +kernel
theorem dX6_repair_66 : decode cX6_repair 66 = .ok (.getfield 96, 3) := by decide +kernel
theorem dX6_repair_69 : decode cX6_repair 69 = .ok (.iload_n 1, 1) := by decide +kernel
theorem dX6_repair_70 : decode cX6_repair 70 = .ok (.aload_n 0, 1) := by decide +kernel
theorem dX6_repair_71 : decode cX6_repair 71 = .ok (.getfield 65, 3) := by decide +kernel
theorem dX6_repair_74 : decode cX6_repair 74 = .ok (.iload_n 2, 1) := by decide +kernel
theorem dX6_repair_75 : decode cX6_repair 75 = .ok (.iaload, 1) := by decide +kernel
theorem dX6_repair_76 : decode cX6_repair 76 = .ok (.iastore, 1) := by decide +kernel
theorem dX6_repair_77 : decode cX6_repair 77 = .ok (.aload_n 0, 1) := by decide +kernel
theorem dX6_repair_78 : decode cX6_repair 78 = .ok (.getfield 80, 3) := by decide +kernel
theorem dX6_repair_81 : decode cX6_repair 81 = .ok (.iload_n 1, 1) := by decide +kernel
theorem dX6_repair_82 : decode cX6_repair 82 = .ok (.aload_n 0, 1) := by decide +kernel
theorem dX6_repair_83 : decode cX6_repair 83 = .ok (.getfield 71, 3) := by decide +kernel
theorem dX6_repair_86 : decode cX6_repair 86 = .ok (.iload_n 1, 1) := by decide +kernel
theorem dX6_repair_87 : decode cX6_repair 87 = .ok (.iaload, 1) := by decide +kernel
theorem dX6_repair_88 : decode cX6_repair 88 = .ok (.iconst 2, 1) := by decide +kernel
theorem dX6_repair_89 : decode cX6_repair 89 = .ok (.if_icmp .ne 24, 3) := by decide +kernel
theorem dX6_repair_92 : decode cX6_repair 92 = .ok (.aload_n 0, 1) := by decide +kernel
theorem dX6_repair_93 : decode cX6_repair 93 = .ok (.iload_n 2, 1) := by decide +kernel
theorem dX6_repair_94 : decode cX6_repair 94 = .ok (.aload_n 0, 1) := by decide +kernel
theorem dX6_repair_95 : decode cX6_repair 95 = .ok (.getfield 65, 3) := by decide +kernel
theorem dX6_repair_98 : decode cX6_repair 98 = .ok (.iload_n 2, 1) := by decide +kernel
theorem dX6_repair_99 : decode cX6_repair 99 = .ok (.iaload, 1) := by decide +kernel
theorem dX6_repair_100 : decode cX6_repair 100 = .ok (.invokevirtual 136, 3) := by decide +kernel
theorem dX6_repair_103 : decode cX6_repair 103 = .ok (.aload_n 0, 1) := by decide +kernel
theorem dX6_repair_104 : decode cX6_repair 104 = .ok (.getfield 83, 3) := by decide +kernel
theorem dX6_repair_107 : decode cX6_repair 107 = .ok (.iload_n 1, 1) := by decide +kernel
theorem dX6_repair_108 : decode cX6_repair 108 = .ok (.iaload, 1) := by decide +kernel
theorem dX6_repair_109 : decode cX6_repair 109 = .ok (.iadd, 1) := by decide +kernel
theorem dX6_repair_110 : decode cX6_repair 110 = .ok (.goto 9, 3) := by decide +kernel
theorem dX6_repair_113 : decode cX6_repair 113 = .ok (.aload_n 0, 1) := by decide +kernel
theorem dX6_repair_114 : decode cX6_repair 114 = .ok (.getfield 80, 3) := by decide +kernel
theorem dX6_repair_117 : decode cX6_repair 117 = .ok (.iload_n 1, 1) := by decide +kernel
theorem dX6_repair_118 : decode cX6_repair 118 = .ok (.iaload, 1) := by decide +kernel
theorem dX6_repair_119 : decode cX6_repair 119 = .ok (.iastore, 1) := by decide +kernel
theorem dX6_repair_120 : decode cX6_repair 120 = .ok (.aload_n 0, 1) := by decide +kernel
theorem dX6_repair_121 : decode cX6_repair 121 = .ok (.getfield 80, 3) := by decide +kernel
theorem dX6_repair_124 : decode cX6_repair 124 = .ok (.iload_n 1, 1) := by decide +kernel
theorem dX6_repair_125 : decode cX6_repair 125 = .ok (.iaload, 1) := by decide +kernel
theorem dX6_repair_126 : decode cX6_repair 126 = .ok (.ireturn, 1) := by decide +kernel
theorem dX6_lookAhead_0 : decode cX6_lookAhead 0 = .ok (.iconst 0, 1) := by decide +kernel
theorem dX6_lookAhead_1 : decode cX6_lookAhead 1 = .ok (.istore_n 2, 1) := by decide +kernel
theorem dX6_lookAhead_2 : decode cX6_lookAhead 2 = .ok (.iload_n 2, 1) := by decide +kernel
theorem dX6_lookAhead_3 : decode cX6_lookAhead 3 = .ok (.aload_n 0, 1) := by decide +kernel
theorem dX6_lookAhead_4 : decode cX6_lookAhead 4 = .ok (.getfield 115, 3) := by decide +kernel
theorem dX6_lookAhead_7 : decode cX6_lookAhead 7 = .ok (.if_icmp .ge 21, 3) := by decide +kernel
theorem dX6_lookAhead_10 : decode cX6_lookAhead 10 = .ok (.aload_n 0, 1) := by decide +kernel
theorem dX6_lookAhead_11 : decode cX6_lookAhead 11 = .ok (.getfield 99, 3) := by decide +kernel
theorem dX6_lookAhead_14 : decode cX6_lookAhead 14 = .ok (.iload_n 2, 1) := by decide +kernel
theorem dX6_lookAhead_15 : decode cX6_lookAhead 15 = .ok (.aload_n 0, 1) := by decide +kernel
theorem dX6_lookAhead_16 : decode cX6_lookAhead 16 = .ok (.getfield 65, 3) := by decide +kernel
theorem dX6_lookAhead_19 : decode cX6_lookAhead 19 = .ok (.iload_n 2, 1) := by decide +kernel
theorem dX6_lookAhead_20 : decode cX6_lookAhead 20 = .ok (.iaload, 1) := by decide +kernel
theorem dX6_lookAhead_21 : decode cX6_lookAhead 21 = .ok (.iastore, 1) := by decide +kernel
theorem dX6_lookAhead_22 : decode cX6_lookAhead 22 = .ok (.iinc 2 1, 3) := by decide +kernel
theorem dX6_lookAhead_25 : decode cX6_lookAhead 25 = .ok (.goto (-23), 3) := by decide +kernel
theorem dX6_lookAhead_28 : decode cX6_lookAhead 28 = .ok (.iconst 0, 1) := by decide +kernel
theorem dX6_lookAhead_29 : decode cX6_lookAhead 29 = .ok (.istore_n 2, 1) := by decide +kernel
theorem dX6_lookAhead_30 : decode cX6_lookAhead 30 = .ok (.iload_n 2, 1) := by decide +kernel
theorem dX6_lookAhead_31 : decode cX6_lookAhead 31 = .ok (.aload_n 0, 1) := by decide +kernel
theorem dX6_lookAhead_32 : decode cX6_lookAhead 32 = .ok (.getfield 118, 3) := by decide +kernel
theorem dX6_lookAhead_35 : decode cX6_lookAhead 35 = .ok (.if_icmp .ge 16, 3) := by decide +kernel
theorem dX6_lookAhead_38 : decode cX6_lookAhead 38 = .ok (.aload_n 0, 1) := by decide +kernel
theorem dX6_lookAhead_39 : decode cX6_lookAhead 39 = .ok (.getfield 102, 3) := by decide +kernel
theorem dX6_lookAhead_42 : decode cX6_lookAhead 42 = .ok (.iload_n 2, 1) := by decide +kernel
theorem dX6_lookAhead_43 : decode cX6_lookAhead 43 = .ok (.iconst 0, 1) := by decide +kernel
theorem dX6_lookAhead_44 : decode cX6_lookAhead 44 = .ok (.iastore, 1) := by decide +kernel
theorem dX6_lookAhead_45 : decode cX6_lookAhead 45 = .ok (.iinc 2 1, 3) := by decide +kernel
theorem dX6_lookAhead_48 : decode cX6_lookAhead 48 = .ok (.goto (-18), 3) := by decide +kernel
theorem dX6_lookAhead_51 : decode cX6_lookAhead 51 = .ok (.iconst 1, 1) := by decide +kernel
theorem dX6_lookAhead_52 : decode cX6_lookAhead 52 = .ok (.istore_n 2, 1) := by decide +kernel
theorem dX6_lookAhead_53 : decode cX6_lookAhead 53 = .ok (.iload_n 2, 1) := by decide +kernel
theorem dX6_lookAhead_54 : decode cX6_lookAhead 54 = .ok (.iload_n 1, 1) := by decide +kernel
theorem dX6_lookAhead_55 : decode cX6_lookAhead 55 = .ok (.if_icmp .gt 145, 3) := by decide +kernel
theorem dX6_lookAhead_58 : decode cX6_lookAhead 58 = .ok (.iconst 0, 1) := by decide +kernel
theorem dX6_lookAhead_59 : decode cX6_lookAhead 59 = .ok (.istore_n 3, 1) := by decide +kernel
theorem dX6_lookAhead_60 : decode cX6_lookAhead 60 = .ok (.iload_n 3, 1) := by decide +kernel
theorem dX6_lookAhead_61 : decode cX6_lookAhead 61 = .ok (.aload_n 0, 1) := by decide +kernel
theorem dX6_lookAhead_62 : decode cX6_lookAhead 62 = .ok (.getfield 115, 3) := by decide +kernel
theorem dX6_lookAhead_65 : decode cX6_lookAhead 65 = .ok (.if_icmp .ge 39, 3) := by decide +kernel
theorem dX6_lookAhead_68 : decode cX6_lookAhead 68 = .ok (.aload_n 0, 1) := by decide +kernel
theorem dX6_lookAhead_69 : decode cX6_lookAhead 69 = .ok (.getfield 99, 3) := by decide +kernel
theorem dX6_lookAhead_72 : decode cX6_lookAhead 72 = .ok (.iload_n 3, 1) := by decide +kernel
theorem dX6_lookAhead_73 : decode cX6_lookAhead 73 = .ok (.aload_n 0, 1) := by decide +kernel
theorem dX6_lookAhead_74 : decode cX6_lookAhead 74 = .ok (.aload_n 0, 1) := by decide +kernel
theorem dX6_lookAhead_75 : decode cX6_lookAhead 75 = .ok (.getfield 99, 3) := by decide +kernel
theorem dX6_lookAhead_78 : decode cX6_lookAhead 78 = .ok (.iload_n 3, 1) := by decide +kernel
theorem dX6_lookAhead_79 : decode cX6_lookAhead 79 = .ok (.iaload, 1) := by decide +kernel
theorem dX6_lookAhead_80 : decode cX6_lookAhead 80 = .ok (.aload_n 0, 1) := by decide +kernel
theorem dX6_lookAhead_81 : decode cX6_lookAhead 81 = .ok (.getfield 140, 3) := by decide +kernel
theorem dX6_lookAhead_84 : decode cX6_lookAhead 84 = .ok (.iload_n 2, 1) := by decide +kernel
theorem dX6_lookAhead_85 : decode cX6_lookAhead 85 = .ok (.iadd, 1) := by decide +kernel
theorem dX6_lookAhead_86 : decode cX6_lookAhead 86 = .ok (.iconst 1, 1) := by decide +kernel
theorem dX6_lookAhead_87 : decode cX6_lookAhead 87 = .ok (.isub, 1) := by decide +kernel
theorem dX6_lookAhead_88 : decode cX6_lookAhead 88 = .ok (.aload_n 0, 1) := by decide +kernel
theorem dX6_lookAhead_89 : decode cX6_lookAhead 89 = .ok (.getfield 68, 3) := by decide +kernel
theorem dX6_lookAhead_92 : decode cX6_lookAhead 92 = .ok (.iload_n 3, 1) := by decide +kernel
theorem dX6_lookAhead_93 : decode cX6_lookAhead 93 = .ok (.iaload, 1) := by decide +kernel
theorem dX6_lookAhead_94 : decode cX6_lookAhead 94 = .ok (.invokevirtual 143, 3) := by decide +kernel
theorem dX6_lookAhead_97 : decode cX6_lookAhead 97 = .ok (.iastore, 1) := by decide +kernel
theorem dX6_lookAhead_98 : decode cX6_lookAhead 98 = .ok (.iinc 3 1, 3) := by decide +kernel
theorem dX6_lookAhead_101 : decode cX6_lookAhead 101 = .ok (.goto (-41), 3) := by decide +kernel
theorem dX6_lookAhead_104 : decode cX6_lookAhead 104 = .ok (.iconst 0, 1) := by decide +kernel
theorem dX6_lookAhead_105 : decode cX6_lookAhead 105 = .ok (.istore_n 3, 1) := by decide +kernel
theorem dX6_lookAhead_106 : decode cX6_lookAhead 106 = .ok (.iload_n 3, 1) := by decide +kernel
theorem dX6_lookAhead_107 : decode cX6_lookAhead 107 = .ok (.aload_n 0, 1) := by decide +kernel
theorem dX6_lookAhead_108 : decode cX6_lookAhead 108 = .ok (.getfield 118, 3) := by decide +kernel
theorem dX6_lookAhead_111 : decode cX6_lookAhead 111 = .ok (.if_icmp .ge 83, 3) := by decide +kernel
theorem dX6_lookAhead_114 : decode cX6_lookAhead 114 = .ok (.aload_n 0, 1) := by decide +kernel
theorem dX6_lookAhead_115 : decode cX6_lookAhead 115 = .ok (.getfield 89, 3) := by decide +kernel
theorem dX6_lookAhead_118 : decode cX6_lookAhead 118 = .ok (.iload_n 3, 1) := by decide +kernel
theorem dX6_lookAhead_119 : decode cX6_lookAhead 119 = .ok (.baload, 1) := by decide +kernel
theorem dX6_lookAhead_120 : decode cX6_lookAhead 120 = .ok (.ifCond .eq 25, 3) := by decide +kernel
theorem dX6_lookAhead_123 : decode cX6_lookAhead 123 = .ok (.aload_n 0, 1) := by decide +kernel
theorem dX6_lookAhead_124 : decode cX6_lookAhead 124 = .ok (.getfield 93, 3) := by decide +kernel
theorem dX6_lookAhead_127 : decode cX6_lookAhead 127 = .ok (.iload_n 3, 1) := by decide +kernel
theorem dX6_lookAhead_128 : decode cX6_lookAhead 128 = .ok (.baload, 1) := by decide +kernel
theorem dX6_lookAhead_129 : decode cX6_lookAhead 129 = .ok (.ifCond .ne 16, 3) := by decide +kernel
theorem dX6_lookAhead_132 : decode cX6_lookAhead 132 = .ok (.aload_n 0, 1) := by decide +kernel
theorem dX6_lookAhead_133 : decode cX6_lookAhead 133 = .ok (.getfield 102, 3) := by decide +kernel
theorem dX6_lookAhead_136 : decode cX6_lookAhead 136 = .ok (.iload_n 3, 1) := by decide +kernel
theorem dX6_lookAhead_137 : decode cX6_lookAhead 137 = .ok (.iaload, 1) := by decide +kernel
theorem dX6_lookAhead_138 : decode cX6_lookAhead 138 = .ok (.ifCond .ne 7, 3) := by decide +kernel
theorem dX6_lookAhead_141 : decode cX6_lookAhead 141 = .ok (.iconst 1, 1) := by decide +kernel
theorem dX6_lookAhead_142 : decode cX6_lookAhead 142 = .ok (.goto 4, 3) := by decide +kernel
theorem dX6_lookAhead_145 : decode cX6_lookAhead 145 = .ok (.iconst 0, 1) := by decide +kernel
theorem dX6_lookAhead_146 : decode cX6_lookAhead 146 = .ok (.istore 4, 2) := by decide +kernel
theorem dX6_lookAhead_148 : decode cX6_lookAhead 148 = .ok (.aload_n 0, 1) := by decide +kernel
theorem dX6_lookAhead_149 : decode cX6_lookAhead 149 = .ok (.getfield 102, 3) := by decide +kernel
theorem dX6_lookAhead_152 : decode cX6_lookAhead 152 = .ok (.iload_n 3, 1) := by decide +kernel
theorem dX6_lookAhead_153 : decode cX6_lookAhead 153 = .ok (.iload 4, 2) := by decide +kernel
theorem dX6_lookAhead_155 : decode cX6_lookAhead 155 = .ok (.ifCond .eq 26, 3) := by decide +kernel
theorem dX6_lookAhead_158 : decode cX6_lookAhead 158 = .ok (.aload_n 0, 1) := by decide +kernel
theorem dX6_lookAhead_159 : decode cX6_lookAhead 159 = .ok (.iload_n 3, 1) := by decide +kernel
theorem dX6_lookAhead_160 : decode cX6_lookAhead 160 = .ok (.aload_n 0, 1) := by decide +kernel
theorem dX6_lookAhead_161 : decode cX6_lookAhead 161 = .ok (.getfield 99, 3) := by decide +kernel
theorem dX6_lookAhead_164 : decode cX6_lookAhead 164 = .ok (.aload_n 0, 1) := by decide +kernel
theorem dX6_lookAhead_165 : decode cX6_lookAhead 165 = .ok (.getfield 74, 3) := by decide +kernel
theorem dX6_lookAhead_168 : decode cX6_lookAhead 168 = .ok (.iload_n 3, 1) := by decide +kernel
theorem dX6_lookAhead_169 : decode cX6_lookAhead 169 = .ok (.iaload, 1) := by decide +kernel
theorem dX6_lookAhead_170 : decode cX6_lookAhead 170 = .ok (.iaload, 1) := by decide +kernel
theorem dX6_lookAhead_171 : decode cX6_lookAhead 171 = .ok (.invokevirtual 146, 3) := by decide +kernel
theorem dX6_lookAhead_174 : decode cX6_lookAhead 174 = .ok (.ifCond .eq 7, 3) := by decide +kernel
theorem dX6_lookAhead_177 : decode cX6_lookAhead 177 = .ok (.iload_n 2, 1) := by decide +kernel
theorem dX6_lookAhead_178 : decode cX6_lookAhead 178 = .ok (.goto 9, 3) := by decide +kernel
theorem dX6_lookAhead_181 : decode cX6_lookAhead 181 = .ok (.aload_n 0, 1) := by decide +kernel
theorem dX6_lookAhead_182 : decode cX6_lookAhead 182 = .ok (.getfield 102, 3) := by decide +kernel
theorem dX6_lookAhead_185 : decode cX6_lookAhead 185 = .ok (.iload_n 3, 1) := by decide +kernel
theorem dX6_lookAhead_186 : decode cX6_lookAhead 186 = .ok (.iaload, 1) := by decide +kernel
theorem dX6_lookAhead_187 : decode cX6_lookAhead 187 = .ok (.iastore, 1) := by decide +kernel
theorem dX6_lookAhead_188 : decode cX6_lookAhead 188 = .ok (.iinc 3 1, 3) := by decide +kernel
theorem dX6_lookAhead_191 : decode cX6_lookAhead 191 = .ok (.goto (-85), 3) := by decide +kernel
theorem dX6_lookAhead_194 : decode cX6_lookAhead 194 = .ok (.iinc 2 1, 3) := by decide +kernel
theorem dX6_lookAhead_197 : decode cX6_lookAhead 197 = .ok (.goto (-144), 3) := by decide +kernel
theorem dX6_lookAhead_200 : decode cX6_lookAhead 200 = .ok (.return_, 1) := by decide +kernel
theorem dX6_through_0 : decode cX6_through 0 = .ok (.aload_n 0, 1) := by decide +kernel
theorem dX6_through_1 : decode cX6_through 1 = .ok (.aload_n 0, 1) := by decide +kernel
theorem dX6_through_2 : decode cX6_through 2 = .ok (.iload_n 1, 1) := by decide +kernel
theorem dX6_through_3 : decode cX6_through 3 = .ok (.iconst 1, 1) := by decide +kernel
theorem dX6_through_4 : decode cX6_through 4 = .ok (.bipush 24, 2) := by decide +kernel
theorem dX6_through_6 : decode cX6_through 6 = .ok (.invokevirtual 111, 3) := by decide +kernel
theorem dX6_through_9 : decode cX6_through 9 = .ok (.ifCond .ne 7, 3) := by decide +kernel
theorem dX6_through_12 : decode cX6_through 12 = .ok (.iconst 1, 1) := by decide +kernel
theorem dX6_through_13 : decode cX6_through 13 = .ok (.goto 4, 3) := by decide +kernel
theorem dX6_through_16 : decode cX6_through 16 = .ok (.iconst 0, 1) := by decide +kernel
theorem dX6_through_17 : decode cX6_through 17 = .ok (.putfield 105, 3) := by decide +kernel
theorem dX6_through_20 : decode cX6_through 20 = .ok (.aload_n 0, 1) := by decide +kernel
theorem dX6_through_21 : decode cX6_through 21 = .ok (.getfield 105, 3) := by decide +kernel
theorem dX6_through_24 : decode cX6_through 24 = .ok (.ifCond .le 5, 3) := by decide +kernel
theorem dX6_through_27 : decode cX6_through 27 = .ok (.iconst 0, 1) := by decide +kernel
theorem dX6_through_28 : decode cX6_through 28 = .ok (.ireturn, 1) := by decide +kernel
theorem dX6_through_29 : decode cX6_through 29 = .ok (.aload_n 0, 1) := by decide +kernel
theorem dX6_through_30 : decode cX6_through 30 = .ok (.iload_n 1, 1) := by decide +kernel
theorem dX6_through_31 : decode cX6_through 31 = .ok (.invokevirtual 175, 3) := by decide +kernel
theorem dX6_through_34 : decode cX6_through 34 = .ok (.iconst 0, 1) := by decide +kernel
theorem dX6_through_35 : decode cX6_through 35 = .ok (.istore_n 2, 1) := by decide +kernel
theorem dX6_through_36 : decode cX6_through 36 = .ok (.iconst 0, 1) := by decide +kernel
theorem dX6_through_37 : decode cX6_through 37 = .ok (.istore_n 3, 1) := by decide +kernel
theorem dX6_through_38 : decode cX6_through 38 = .ok (.iload_n 3, 1) := by decide +kernel
theorem dX6_through_39 : decode cX6_through 39 = .ok (.aload_n 0, 1) := by decide +kernel
theorem dX6_through_40 : decode cX6_through 40 = .ok (.getfield 118, 3) := by decide +kernel
theorem dX6_through_43 : decode cX6_through 43 = .ok (.if_icmp .ge 28, 3) := by decide +kernel
theorem dX6_through_46 : decode cX6_through 46 = .ok (.aload_n 0, 1) := by decide +kernel
theorem dX6_through_47 : decode cX6_through 47 = .ok (.getfield 102, 3) := by decide +kernel
theorem dX6_through_50 : decode cX6_through 50 = .ok (.iload_n 3, 1) := by decide +kernel
theorem dX6_through_51 : decode cX6_through 51 = .ok (.iaload, 1) := by decide +kernel
theorem dX6_through_52 : decode cX6_through 52 = .ok (.ifCond .le 11, 3) := by decide +kernel
theorem dX6_through_55 : decode cX6_through 55 = .ok (.iload_n 2, 1) := by decide +kernel
theorem dX6_through_56 : decode cX6_through 56 = .ok (.iconst 1, 1) := by decide +kernel
theorem dX6_through_57 : decode cX6_through 57 = .ok (.iload_n 3, 1) := by decide +kernel
theorem dX6_through_58 : decode cX6_through 58 = .ok (.ishl, 1) := by decide +kernel
theorem dX6_through_59 : decode cX6_through 59 = .ok (.ior, 1) := by decide +kernel
theorem dX6_through_60 : decode cX6_through 60 = .ok (.goto 4, 3) := by decide +kernel
theorem dX6_through_63 : decode cX6_through 63 = .ok (.iload_n 2, 1) := by decide +kernel
theorem dX6_through_64 : decode cX6_through 64 = .ok (.istore_n 2, 1) := by decide +kernel
theorem dX6_through_65 : decode cX6_through 65 = .ok (.iinc 3 1, 3) := by decide +kernel
theorem dX6_through_68 : decode cX6_through 68 = .ok (.goto (-30), 3) := by decide +kernel
theorem dX6_through_71 : decode cX6_through 71 = .ok (.iload_n 2, 1) := by decide +kernel
theorem dX6_through_72 : decode cX6_through 72 = .ok (.ireturn, 1) := by decide +kernel
theorem dX6_breaksIn_0 : decode cX6_breaksIn 0 = .ok (.aload_n 0, 1) := by decide +kernel
theorem dX6_breaksIn_1 : decode cX6_breaksIn 1 = .ok (.aload_n 0, 1) := by decide +kernel
theorem dX6_breaksIn_2 : decode cX6_breaksIn 2 = .ok (.iload_n 1, 1) := by decide +kernel
theorem dX6_breaksIn_3 : decode cX6_breaksIn 3 = .ok (.invokevirtual 172, 3) := by decide +kernel
theorem dX6_breaksIn_6 : decode cX6_breaksIn 6 = .ok (.ifCond .ne 7, 3) := by decide +kernel
theorem dX6_breaksIn_9 : decode cX6_breaksIn 9 = .ok (.iconst 1, 1) := by decide +kernel
theorem dX6_breaksIn_10 : decode cX6_breaksIn 10 = .ok (.goto 41, 3) := by decide +kernel
theorem dX6_breaksIn_13 : decode cX6_breaksIn 13 = .ok (.aload_n 0, 1) := by decide +kernel
theorem dX6_breaksIn_14 : decode cX6_breaksIn 14 = .ok (.iload_n 2, 1) := by decide +kernel
theorem dX6_breaksIn_15 : decode cX6_breaksIn 15 = .ok (.iconst 1, 1) := by decide +kernel
theorem dX6_breaksIn_16 : decode cX6_breaksIn 16 = .ok (.bipush 24, 2) := by decide +kernel
theorem dX6_breaksIn_18 : decode cX6_breaksIn 18 = .ok (.invokevirtual 111, 3) := by decide +kernel
theorem dX6_breaksIn_21 : decode cX6_breaksIn 21 = .ok (.ifCond .ne 7, 3) := by decide +kernel
theorem dX6_breaksIn_24 : decode cX6_breaksIn 24 = .ok (.iconst 2, 1) := by decide +kernel
theorem dX6_breaksIn_25 : decode cX6_breaksIn 25 = .ok (.goto 26, 3) := by decide +kernel
theorem dX6_breaksIn_28 : decode cX6_breaksIn 28 = .ok (.aload_n 0, 1) := by decide +kernel
theorem dX6_breaksIn_29 : decode cX6_breaksIn 29 = .ok (.getfield 89, 3) := by decide +kernel
theorem dX6_breaksIn_32 : decode cX6_breaksIn 32 = .ok (.iload_n 1, 1) := by decide +kernel
theorem dX6_breaksIn_33 : decode cX6_breaksIn 33 = .ok (.baload, 1) := by decide +kernel
theorem dX6_breaksIn_34 : decode cX6_breaksIn 34 = .ok (.ifCond .eq 12, 3) := by decide +kernel
theorem dX6_breaksIn_37 : decode cX6_breaksIn 37 = .ok (.aload_n 0, 1) := by decide +kernel
theorem dX6_breaksIn_38 : decode cX6_breaksIn 38 = .ok (.getfield 93, 3) := by decide +kernel
theorem dX6_breaksIn_41 : decode cX6_breaksIn 41 = .ok (.iload_n 1, 1) := by decide +kernel
theorem dX6_breaksIn_42 : decode cX6_breaksIn 42 = .ok (.baload, 1) := by decide +kernel
theorem dX6_breaksIn_43 : decode cX6_breaksIn 43 = .ok (.ifCond .eq 7, 3) := by decide +kernel
theorem dX6_breaksIn_46 : decode cX6_breaksIn 46 = .ok (.iconst 3, 1) := by decide +kernel
theorem dX6_breaksIn_47 : decode cX6_breaksIn 47 = .ok (.goto 4, 3) := by decide +kernel
theorem dX6_breaksIn_50 : decode cX6_breaksIn 50 = .ok (.iconst 0, 1) := by decide +kernel
theorem dX6_breaksIn_51 : decode cX6_breaksIn 51 = .ok (.putfield 105, 3) := by decide +kernel
theorem dX6_breaksIn_54 : decode cX6_breaksIn 54 = .ok (.aload_n 0, 1) := by decide +kernel
theorem dX6_breaksIn_55 : decode cX6_breaksIn 55 = .ok (.getfield 105, 3) := by decide +kernel
theorem dX6_breaksIn_58 : decode cX6_breaksIn 58 = .ok (.ifCond .le 5, 3) := by decide +kernel
theorem dX6_breaksIn_61 : decode cX6_breaksIn 61 = .ok (.iconst 0, 1) := by decide +kernel
theorem dX6_breaksIn_62 : decode cX6_breaksIn 62 = .ok (.ireturn, 1) := by decide +kernel
theorem dX6_breaksIn_63 : decode cX6_breaksIn 63 = .ok (.aload_n 0, 1) := by decide +kernel
theorem dX6_breaksIn_64 : decode cX6_breaksIn 64 = .ok (.iload_n 2, 1) := by decide +kernel
theorem dX6_breaksIn_65 : decode cX6_breaksIn 65 = .ok (.invokevirtual 175, 3) := by decide +kernel
theorem dX6_breaksIn_68 : decode cX6_breaksIn 68 = .ok (.aload_n 0, 1) := by decide +kernel
theorem dX6_breaksIn_69 : decode cX6_breaksIn 69 = .ok (.getfield 102, 3) := by decide +kernel
theorem dX6_breaksIn_72 : decode cX6_breaksIn 72 = .ok (.iload_n 1, 1) := by decide +kernel
theorem dX6_breaksIn_73 : decode cX6_breaksIn 73 = .ok (.iaload, 1) := by decide +kernel
theorem dX6_breaksIn_74 : decode cX6_breaksIn 74 = .ok (.ifCond .le 12, 3) := by decide +kernel
theorem dX6_breaksIn_77 : decode cX6_breaksIn 77 = .ok (.aload_n 0, 1) := by decide +kernel
theorem dX6_breaksIn_78 : decode cX6_breaksIn 78 = .ok (.getfield 102, 3) := by decide +kernel
theorem dX6_breaksIn_81 : decode cX6_breaksIn 81 = .ok (.iload_n 1, 1) := by decide +kernel
theorem dX6_breaksIn_82 : decode cX6_breaksIn 82 = .ok (.iaload, 1) := by decide +kernel
theorem dX6_breaksIn_83 : decode cX6_breaksIn 83 = .ok (.goto 4, 3) := by decide +kernel
theorem dX6_breaksIn_86 : decode cX6_breaksIn 86 = .ok (.iconst (-1), 1) := by decide +kernel
theorem dX6_breaksIn_87 : decode cX6_breaksIn 87 = .ok (.ireturn, 1) := by decide +kernel
theorem dX6_month_0 : decode cX6_month 0 = .ok (.aload_n 0, 1) := by decide +kernel
theorem dX6_month_1 : decode cX6_month 1 = .ok (.iconst 0, 1) := by decide +kernel
theorem dX6_month_2 : decode cX6_month 2 = .ok (.putfield 105, 3) := by decide +kernel
theorem dX6_month_5 : decode cX6_month 5 = .ok (.aload_n 0, 1) := by decide +kernel
theorem dX6_month_6 : decode cX6_month 6 = .ok (.getfield 140, 3) := by decide +kernel
theorem dX6_month_9 : decode cX6_month 9 = .ok (.ireturn, 1) := by decide +kernel
theorem dX6_ofBoard_0 : decode cX6_ofBoard 0 = .ok (.aload_n 0, 1) := by decide +kernel
theorem dX6_ofBoard_1 : decode cX6_ofBoard 1 = .ok (.aload_n 0, 1) := by decide +kernel
theorem dX6_ofBoard_2 : decode cX6_ofBoard 2 = .ok (.iload_n 1, 1) := by decide +kernel
theorem dX6_ofBoard_3 : decode cX6_ofBoard 3 = .ok (.invokevirtual 150, 3) := by decide +kernel
theorem dX6_ofBoard_6 : decode cX6_ofBoard 6 = .ok (.ifCond .ne 7, 3) := by decide +kernel
theorem dX6_ofBoard_9 : decode cX6_ofBoard 9 = .ok (.iconst 1, 1) := by decide +kernel
theorem dX6_ofBoard_10 : decode cX6_ofBoard 10 = .ok (.goto 18, 3) := by decide +kernel
theorem dX6_ofBoard_13 : decode cX6_ofBoard 13 = .ok (.aload_n 0, 1) := by decide +kernel
theorem dX6_ofBoard_14 : decode cX6_ofBoard 14 = .ok (.iload_n 2, 1) := by decide +kernel
theorem dX6_ofBoard_15 : decode cX6_ofBoard 15 = .ok (.iconst 0, 1) := by decide +kernel
theorem dX6_ofBoard_16 : decode cX6_ofBoard 16 = .ok (.iconst 2, 1) := by decide +kernel
theorem dX6_ofBoard_17 : decode cX6_ofBoard 17 = .ok (.invokevirtual 111, 3) := by decide +kernel
theorem dX6_ofBoard_20 : decode cX6_ofBoard 20 = .ok (.ifCond .ne 7, 3) := by decide +kernel
theorem dX6_ofBoard_23 : decode cX6_ofBoard 23 = .ok (.iconst 2, 1) := by decide +kernel
theorem dX6_ofBoard_24 : decode cX6_ofBoard 24 = .ok (.goto 4, 3) := by decide +kernel
theorem dX6_ofBoard_27 : decode cX6_ofBoard 27 = .ok (.iconst 0, 1) := by decide +kernel
theorem dX6_ofBoard_28 : decode cX6_ofBoard 28 = .ok (.putfield 105, 3) := by decide +kernel
theorem dX6_ofBoard_31 : decode cX6_ofBoard 31 = .ok (.aload_n 0, 1) := by decide +kernel
theorem dX6_ofBoard_32 : decode cX6_ofBoard 32 = .ok (.getfield 105, 3) := by decide +kernel
theorem dX6_ofBoard_35 : decode cX6_ofBoard 35 = .ok (.ifCond .le 5, 3) := by decide +kernel
theorem dX6_ofBoard_38 : decode cX6_ofBoard 38 = .ok (.iconst 0, 1) := by decide +kernel
theorem dX6_ofBoard_39 : decode cX6_ofBoard 39 = .ok (.ireturn, 1) := by decide +kernel
theorem dX6_ofBoard_40 : decode cX6_ofBoard 40 = .ok (.iload_n 2, 1) := by decide +kernel
theorem dX6_ofBoard_41 : decode cX6_ofBoard 41 = .ok (.ifCond .ne 12, 3) := by decide +kernel
theorem dX6_ofBoard_44 : decode cX6_ofBoard 44 = .ok (.aload_n 0, 1) := by decide +kernel
theorem dX6_ofBoard_45 : decode cX6_ofBoard 45 = .ok (.getfield 38, 3) := by decide +kernel
theorem dX6_ofBoard_48 : decode cX6_ofBoard 48 = .ok (.iload_n 1, 1) := by decide +kernel
theorem dX6_ofBoard_49 : decode cX6_ofBoard 49 = .ok (.iaload, 1) := by decide +kernel
theorem dX6_ofBoard_50 : decode cX6_ofBoard 50 = .ok (.goto 22, 3) := by decide +kernel
theorem dX6_ofBoard_53 : decode cX6_ofBoard 53 = .ok (.iload_n 2, 1) := by decide +kernel
theorem dX6_ofBoard_54 : decode cX6_ofBoard 54 = .ok (.iconst 1, 1) := by decide +kernel
theorem dX6_ofBoard_55 : decode cX6_ofBoard 55 = .ok (.if_icmp .ne 11, 3) := by decide +kernel
theorem dX6_ofBoard_58 : decode cX6_ofBoard 58 = .ok (.aload_n 0, 1) := by decide +kernel
theorem dX6_ofBoard_59 : decode cX6_ofBoard 59 = .ok (.iload_n 1, 1) := by decide +kernel
theorem dX6_ofBoard_60 : decode cX6_ofBoard 60 = .ok (.invokevirtual 156, 3) := by decide +kernel
theorem dX6_ofBoard_63 : decode cX6_ofBoard 63 = .ok (.goto 9, 3) := by decide +kernel
theorem dX6_ofBoard_66 : decode cX6_ofBoard 66 = .ok (.aload_n 0, 1) := by decide +kernel
theorem dX6_ofBoard_67 : decode cX6_ofBoard 67 = .ok (.getfield 41, 3) := by decide +kernel
theorem dX6_ofBoard_70 : decode cX6_ofBoard 70 = .ok (.iload_n 1, 1) := by decide +kernel
theorem dX6_ofBoard_71 : decode cX6_ofBoard 71 = .ok (.iaload, 1) := by decide +kernel
theorem dX6_ofBoard_72 : decode cX6_ofBoard 72 = .ok (.ireturn, 1) := by decide +kernel
theorem dX6_ofPart_0 : decode cX6_ofPart 0 = .ok (.aload_n 0, 1) := by decide +kernel
theorem dX6_ofPart_1 : decode cX6_ofPart 1 = .ok (.aload_n 0, 1) := by decide +kernel
theorem dX6_ofPart_2 : decode cX6_ofPart 2 = .ok (.iload_n 1, 1) := by decide +kernel
theorem dX6_ofPart_3 : decode cX6_ofPart 3 = .ok (.invokevirtual 165, 3) := by decide +kernel
theorem dX6_ofPart_6 : decode cX6_ofPart 6 = .ok (.ifCond .ne 7, 3) := by decide +kernel
theorem dX6_ofPart_9 : decode cX6_ofPart 9 = .ok (.iconst 1, 1) := by decide +kernel
theorem dX6_ofPart_10 : decode cX6_ofPart 10 = .ok (.goto 18, 3) := by decide +kernel
theorem dX6_ofPart_13 : decode cX6_ofPart 13 = .ok (.aload_n 0, 1) := by decide +kernel
theorem dX6_ofPart_14 : decode cX6_ofPart 14 = .ok (.iload_n 2, 1) := by decide +kernel
theorem dX6_ofPart_15 : decode cX6_ofPart 15 = .ok (.iconst 0, 1) := by decide +kernel
theorem dX6_ofPart_16 : decode cX6_ofPart 16 = .ok (.iconst 4, 1) := by decide +kernel
theorem dX6_ofPart_17 : decode cX6_ofPart 17 = .ok (.invokevirtual 111, 3) := by decide +kernel
theorem dX6_ofPart_20 : decode cX6_ofPart 20 = .ok (.ifCond .ne 7, 3) := by decide +kernel
theorem dX6_ofPart_23 : decode cX6_ofPart 23 = .ok (.iconst 2, 1) := by decide +kernel
theorem dX6_ofPart_24 : decode cX6_ofPart 24 = .ok (.goto 4, 3) := by decide +kernel
theorem dX6_ofPart_27 : decode cX6_ofPart 27 = .ok (.iconst 0, 1) := by decide +kernel
theorem dX6_ofPart_28 : decode cX6_ofPart 28 = .ok (.putfield 105, 3) := by decide +kernel
theorem dX6_ofPart_31 : decode cX6_ofPart 31 = .ok (.aload_n 0, 1) := by decide +kernel
theorem dX6_ofPart_32 : decode cX6_ofPart 32 = .ok (.getfield 105, 3) := by decide +kernel
theorem dX6_ofPart_35 : decode cX6_ofPart 35 = .ok (.ifCond .le 5, 3) := by decide +kernel
theorem dX6_ofPart_38 : decode cX6_ofPart 38 = .ok (.iconst 0, 1) := by decide +kernel
theorem dX6_ofPart_39 : decode cX6_ofPart 39 = .ok (.ireturn, 1) := by decide +kernel
theorem dX6_ofPart_40 : decode cX6_ofPart 40 = .ok (.iload_n 2, 1) := by decide +kernel
theorem dX6_ofPart_41 : decode cX6_ofPart 41 = .ok (.ifCond .ne 12, 3) := by decide +kernel
theorem dX6_ofPart_44 : decode cX6_ofPart 44 = .ok (.aload_n 0, 1) := by decide +kernel
theorem dX6_ofPart_45 : decode cX6_ofPart 45 = .ok (.getfield 50, 3) := by decide +kernel
theorem dX6_ofPart_48 : decode cX6_ofPart 48 = .ok (.iload_n 1, 1) := by decide +kernel
theorem dX6_ofPart_49 : decode cX6_ofPart 49 = .ok (.iaload, 1) := by decide +kernel
theorem dX6_ofPart_50 : decode cX6_ofPart 50 = .ok (.goto 56, 3) := by decide +kernel
theorem dX6_ofPart_53 : decode cX6_ofPart 53 = .ok (.iload_n 2, 1) := by decide +kernel
theorem dX6_ofPart_54 : decode cX6_ofPart 54 = .ok (.iconst 1, 1) := by decide +kernel
theorem dX6_ofPart_55 : decode cX6_ofPart 55 = .ok (.if_icmp .ne 17, 3) := by decide +kernel
theorem dX6_ofPart_58 : decode cX6_ofPart 58 = .ok (.aload_n 0, 1) := by decide +kernel
theorem dX6_ofPart_59 : decode cX6_ofPart 59 = .ok (.iload_n 1, 1) := by decide +kernel
theorem dX6_ofPart_60 : decode cX6_ofPart 60 = .ok (.aload_n 0, 1) := by decide +kernel
theorem dX6_ofPart_61 : decode cX6_ofPart 61 = .ok (.getfield 65, 3) := by decide +kernel
theorem dX6_ofPart_64 : decode cX6_ofPart 64 = .ok (.iload_n 1, 1) := by decide +kernel
theorem dX6_ofPart_65 : decode cX6_ofPart 65 = .ok (.iaload, 1) := by decide +kernel
theorem dX6_ofPart_66 : decode cX6_ofPart 66 = .ok (.invokevirtual 136, 3) := by decide +kernel
theorem dX6_ofPart_69 : decode cX6_ofPart 69 = .ok (.goto 37, 3) := by decide +kernel
theorem dX6_ofPart_72 : decode cX6_ofPart 72 = .ok (.iload_n 2, 1) := by decide +kernel
theorem dX6_ofPart_73 : decode cX6_ofPart 73 = .ok (.iconst 2, 1) := by decide +kernel
theorem dX6_ofPart_74 : decode cX6_ofPart 74 = .ok (.if_icmp .ne 12, 3) := by decide +kernel
theorem dX6_ofPart_77 : decode cX6_ofPart 77 = .ok (.aload_n 0, 1) := by decide +kernel
theorem dX6_ofPart_78 : decode cX6_ofPart 78 = .ok (.getfield 65, 3) := by decide +kernel
theorem dX6_ofPart_81 : decode cX6_ofPart 81 = .ok (.iload_n 1, 1) := by decide +kernel
theorem dX6_ofPart_82 : decode cX6_ofPart 82 = .ok (.iaload, 1) := by decide +kernel
theorem dX6_ofPart_83 : decode cX6_ofPart 83 = .ok (.goto 23, 3) := by decide +kernel
theorem dX6_ofPart_86 : decode cX6_ofPart 86 = .ok (.iload_n 2, 1) := by decide +kernel
theorem dX6_ofPart_87 : decode cX6_ofPart 87 = .ok (.iconst 3, 1) := by decide +kernel
theorem dX6_ofPart_88 : decode cX6_ofPart 88 = .ok (.if_icmp .ne 12, 3) := by decide +kernel
theorem dX6_ofPart_91 : decode cX6_ofPart 91 = .ok (.aload_n 0, 1) := by decide +kernel
theorem dX6_ofPart_92 : decode cX6_ofPart 92 = .ok (.getfield 68, 3) := by decide +kernel
theorem dX6_ofPart_95 : decode cX6_ofPart 95 = .ok (.iload_n 1, 1) := by decide +kernel
theorem dX6_ofPart_96 : decode cX6_ofPart 96 = .ok (.iaload, 1) := by decide +kernel
theorem dX6_ofPart_97 : decode cX6_ofPart 97 = .ok (.goto 9, 3) := by decide +kernel
theorem dX6_ofPart_100 : decode cX6_ofPart 100 = .ok (.aload_n 0, 1) := by decide +kernel
theorem dX6_ofPart_101 : decode cX6_ofPart 101 = .ok (.getfield 53, 3) := by decide +kernel
theorem dX6_ofPart_104 : decode cX6_ofPart 104 = .ok (.iload_n 1, 1) := by decide +kernel
theorem dX6_ofPart_105 : decode cX6_ofPart 105 = .ok (.iaload, 1) := by decide +kernel
theorem dX6_ofPart_106 : decode cX6_ofPart 106 = .ok (.ireturn, 1) := by decide +kernel
theorem dX6_stateOf_0 : decode cX6_stateOf 0 = .ok (.aload_n 0, 1) := by decide +kernel
theorem dX6_stateOf_1 : decode cX6_stateOf 1 = .ok (.getfield 89, 3) := by decide +kernel
theorem dX6_stateOf_4 : decode cX6_stateOf 4 = .ok (.iload_n 1, 1) := by decide +kernel
theorem dX6_stateOf_5 : decode cX6_stateOf 5 = .ok (.baload, 1) := by decide +kernel
theorem dX6_stateOf_6 : decode cX6_stateOf 6 = .ok (.ifCond .ne 5, 3) := by decide +kernel
theorem dX6_stateOf_9 : decode cX6_stateOf 9 = .ok (.iconst 0, 1) := by decide +kernel
theorem dX6_stateOf_10 : decode cX6_stateOf 10 = .ok (.ireturn, 1) := by decide +kernel
theorem dX6_stateOf_11 : decode cX6_stateOf 11 = .ok (.aload_n 0, 1) := by decide +kernel
theorem dX6_stateOf_12 : decode cX6_stateOf 12 = .ok (.getfield 71, 3) := by decide +kernel
theorem dX6_stateOf_15 : decode cX6_stateOf 15 = .ok (.iload_n 1, 1) := by decide +kernel
theorem dX6_stateOf_16 : decode cX6_stateOf 16 = .ok (.iaload, 1) := by decide +kernel
theorem dX6_stateOf_17 : decode cX6_stateOf 17 = .ok (.iconst 2, 1) := by decide +kernel
theorem dX6_stateOf_18 : decode cX6_stateOf 18 = .ok (.if_icmp .ne 37, 3) := by decide +kernel
theorem dX6_stateOf_21 : decode cX6_stateOf 21 = .ok (.aload_n 0, 1) := by decide +kernel
theorem dX6_stateOf_22 : decode cX6_stateOf 22 = .ok (.aload_n 0, 1) := by decide +kernel
theorem dX6_stateOf_23 : decode cX6_stateOf 23 = .ok (.getfield 74, 3) := by decide +kernel
theorem dX6_stateOf_26 : decode cX6_stateOf 26 = .ok (.iload_n 1, 1) := by decide +kernel
theorem dX6_stateOf_27 : decode cX6_stateOf 27 = .ok (.iaload, 1) := by decide +kernel
theorem dX6_stateOf_28 : decode cX6_stateOf 28 = .ok (.aload_n 0, 1) := by decide +kernel
theorem dX6_stateOf_29 : decode cX6_stateOf 29 = .ok (.getfield 65, 3) := by decide +kernel
theorem dX6_stateOf_32 : decode cX6_stateOf 32 = .ok (.aload_n 0, 1) := by decide +kernel
theorem dX6_stateOf_33 : decode cX6_stateOf 33 = .ok (.getfield 74, 3) := by decide +kernel
theorem dX6_stateOf_36 : decode cX6_stateOf 36 = .ok (.iload_n 1, 1) := by decide +kernel
theorem dX6_stateOf_37 : decode cX6_stateOf 37 = .ok (.iaload, 1) := by decide +kernel
theorem dX6_stateOf_38 : decode cX6_stateOf 38 = .ok (.iaload, 1) := by decide +kernel
theorem dX6_stateOf_39 : decode cX6_stateOf 39 = .ok (.invokevirtual 136, 3) := by decide +kernel
theorem dX6_stateOf_42 : decode cX6_stateOf 42 = .ok (.aload_n 0, 1) := by decide +kernel
theorem dX6_stateOf_43 : decode cX6_stateOf 43 = .ok (.getfield 80, 3) := by decide +kernel
theorem dX6_stateOf_46 : decode cX6_stateOf 46 = .ok (.iload_n 1, 1) := by decide +kernel
theorem dX6_stateOf_47 : decode cX6_stateOf 47 = .ok (.iaload, 1) := by decide +kernel
theorem dX6_stateOf_48 : decode cX6_stateOf 48 = .ok (.if_icmp .le 7, 3) := by decide +kernel
theorem dX6_stateOf_51 : decode cX6_stateOf 51 = .ok (.iconst 1, 1) := by decide +kernel
theorem dX6_stateOf_52 : decode cX6_stateOf 52 = .ok (.goto 4, 3) := by decide +kernel
theorem dX6_stateOf_55 : decode cX6_stateOf 55 = .ok (.iconst 0, 1) := by decide +kernel
theorem dX6_stateOf_56 : decode cX6_stateOf 56 = .ok (.istore_n 2, 1) := by decide +kernel
theorem dX6_stateOf_57 : decode cX6_stateOf 57 = .ok (.aload_n 0, 1) := by decide +kernel
theorem dX6_stateOf_58 : decode cX6_stateOf 58 = .ok (.getfield 93, 3) := by decide +kernel
theorem dX6_stateOf_61 : decode cX6_stateOf 61 = .ok (.iload_n 1, 1) := by decide +kernel
theorem dX6_stateOf_62 : decode cX6_stateOf 62 = .ok (.baload, 1) := by decide +kernel
theorem dX6_stateOf_63 : decode cX6_stateOf 63 = .ok (.ifCond .eq 7, 3) := by decide +kernel
theorem dX6_stateOf_66 : decode cX6_stateOf 66 = .ok (.iconst 3, 1) := by decide +kernel
theorem dX6_stateOf_67 : decode cX6_stateOf 67 = .ok (.goto 12, 3) := by decide +kernel
theorem dX6_stateOf_70 : decode cX6_stateOf 70 = .ok (.iload_n 2, 1) := by decide +kernel
theorem dX6_stateOf_71 : decode cX6_stateOf 71 = .ok (.ifCond .eq 7, 3) := by decide +kernel
theorem dX6_stateOf_74 : decode cX6_stateOf 74 = .ok (.iconst 2, 1) := by decide +kernel
theorem dX6_stateOf_75 : decode cX6_stateOf 75 = .ok (.goto 4, 3) := by decide +kernel
theorem dX6_stateOf_78 : decode cX6_stateOf 78 = .ok (.iconst 1, 1) := by decide +kernel
theorem dX6_stateOf_79 : decode cX6_stateOf 79 = .ok (.ireturn, 1) := by decide +kernel
theorem dX6_ofJoint_0 : decode cX6_ofJoint 0 = .ok (.aload_n 0, 1) := by decide +kernel
theorem dX6_ofJoint_1 : decode cX6_ofJoint 1 = .ok (.aload_n 0, 1) := by decide +kernel
theorem dX6_ofJoint_2 : decode cX6_ofJoint 2 = .ok (.iload_n 1, 1) := by decide +kernel
theorem dX6_ofJoint_3 : decode cX6_ofJoint 3 = .ok (.invokevirtual 172, 3) := by decide +kernel
theorem dX6_ofJoint_6 : decode cX6_ofJoint 6 = .ok (.ifCond .ne 7, 3) := by decide +kernel
theorem dX6_ofJoint_9 : decode cX6_ofJoint 9 = .ok (.iconst 1, 1) := by decide +kernel
theorem dX6_ofJoint_10 : decode cX6_ofJoint 10 = .ok (.goto 18, 3) := by decide +kernel
theorem dX6_ofJoint_13 : decode cX6_ofJoint 13 = .ok (.aload_n 0, 1) := by decide +kernel
theorem dX6_ofJoint_14 : decode cX6_ofJoint 14 = .ok (.iload_n 2, 1) := by decide +kernel
theorem dX6_ofJoint_15 : decode cX6_ofJoint 15 = .ok (.iconst 0, 1) := by decide +kernel
theorem dX6_ofJoint_16 : decode cX6_ofJoint 16 = .ok (.iconst 4, 1) := by decide +kernel
theorem dX6_ofJoint_17 : decode cX6_ofJoint 17 = .ok (.invokevirtual 111, 3) := by decide +kernel
theorem dX6_ofJoint_20 : decode cX6_ofJoint 20 = .ok (.ifCond .ne 7, 3) := by decide +kernel
theorem dX6_ofJoint_23 : decode cX6_ofJoint 23 = .ok (.iconst 2, 1) := by decide +kernel
theorem dX6_ofJoint_24 : decode cX6_ofJoint 24 = .ok (.goto 4, 3) := by decide +kernel
theorem dX6_ofJoint_27 : decode cX6_ofJoint 27 = .ok (.iconst 0, 1) := by decide +kernel
theorem dX6_ofJoint_28 : decode cX6_ofJoint 28 = .ok (.putfield 105, 3) := by decide +kernel
theorem dX6_ofJoint_31 : decode cX6_ofJoint 31 = .ok (.aload_n 0, 1) := by decide +kernel
theorem dX6_ofJoint_32 : decode cX6_ofJoint 32 = .ok (.getfield 105, 3) := by decide +kernel
theorem dX6_ofJoint_35 : decode cX6_ofJoint 35 = .ok (.ifCond .le 5, 3) := by decide +kernel
theorem dX6_ofJoint_38 : decode cX6_ofJoint 38 = .ok (.iconst 0, 1) := by decide +kernel
theorem dX6_ofJoint_39 : decode cX6_ofJoint 39 = .ok (.ireturn, 1) := by decide +kernel
theorem dX6_ofJoint_40 : decode cX6_ofJoint 40 = .ok (.iload_n 2, 1) := by decide +kernel
theorem dX6_ofJoint_41 : decode cX6_ofJoint 41 = .ok (.ifCond .ne 11, 3) := by decide +kernel
theorem dX6_ofJoint_44 : decode cX6_ofJoint 44 = .ok (.aload_n 0, 1) := by decide +kernel
theorem dX6_ofJoint_45 : decode cX6_ofJoint 45 = .ok (.iload_n 1, 1) := by decide +kernel
theorem dX6_ofJoint_46 : decode cX6_ofJoint 46 = .ok (.invokevirtual 179, 3) := by decide +kernel
theorem dX6_ofJoint_49 : decode cX6_ofJoint 49 = .ok (.goto 51, 3) := by decide +kernel
theorem dX6_ofJoint_52 : decode cX6_ofJoint 52 = .ok (.iload_n 2, 1) := by decide +kernel
theorem dX6_ofJoint_53 : decode cX6_ofJoint 53 = .ok (.iconst 1, 1) := by decide +kernel
theorem dX6_ofJoint_54 : decode cX6_ofJoint 54 = .ok (.if_icmp .ne 12, 3) := by decide +kernel
theorem dX6_ofJoint_57 : decode cX6_ofJoint 57 = .ok (.aload_n 0, 1) := by decide +kernel
theorem dX6_ofJoint_58 : decode cX6_ofJoint 58 = .ok (.getfield 80, 3) := by decide +kernel
theorem dX6_ofJoint_61 : decode cX6_ofJoint 61 = .ok (.iload_n 1, 1) := by decide +kernel
theorem dX6_ofJoint_62 : decode cX6_ofJoint 62 = .ok (.iaload, 1) := by decide +kernel
theorem dX6_ofJoint_63 : decode cX6_ofJoint 63 = .ok (.goto 37, 3) := by decide +kernel
theorem dX6_ofJoint_66 : decode cX6_ofJoint 66 = .ok (.iload_n 2, 1) := by decide +kernel
theorem dX6_ofJoint_67 : decode cX6_ofJoint 67 = .ok (.iconst 2, 1) := by decide +kernel
theorem dX6_ofJoint_68 : decode cX6_ofJoint 68 = .ok (.if_icmp .ne 12, 3) := by decide +kernel
theorem dX6_ofJoint_71 : decode cX6_ofJoint 71 = .ok (.aload_n 0, 1) := by decide +kernel
theorem dX6_ofJoint_72 : decode cX6_ofJoint 72 = .ok (.getfield 86, 3) := by decide +kernel
theorem dX6_ofJoint_75 : decode cX6_ofJoint 75 = .ok (.iload_n 1, 1) := by decide +kernel
theorem dX6_ofJoint_76 : decode cX6_ofJoint 76 = .ok (.iaload, 1) := by decide +kernel
theorem dX6_ofJoint_77 : decode cX6_ofJoint 77 = .ok (.goto 23, 3) := by decide +kernel
theorem dX6_ofJoint_80 : decode cX6_ofJoint 80 = .ok (.iload_n 2, 1) := by decide +kernel
theorem dX6_ofJoint_81 : decode cX6_ofJoint 81 = .ok (.iconst 3, 1) := by decide +kernel
theorem dX6_ofJoint_82 : decode cX6_ofJoint 82 = .ok (.if_icmp .ne 12, 3) := by decide +kernel
theorem dX6_ofJoint_85 : decode cX6_ofJoint 85 = .ok (.aload_n 0, 1) := by decide +kernel
theorem dX6_ofJoint_86 : decode cX6_ofJoint 86 = .ok (.getfield 74, 3) := by decide +kernel
theorem dX6_ofJoint_89 : decode cX6_ofJoint 89 = .ok (.iload_n 1, 1) := by decide +kernel
theorem dX6_ofJoint_90 : decode cX6_ofJoint 90 = .ok (.iaload, 1) := by decide +kernel
theorem dX6_ofJoint_91 : decode cX6_ofJoint 91 = .ok (.goto 9, 3) := by decide +kernel
theorem dX6_ofJoint_94 : decode cX6_ofJoint 94 = .ok (.aload_n 0, 1) := by decide +kernel
theorem dX6_ofJoint_95 : decode cX6_ofJoint 95 = .ok (.getfield 77, 3) := by decide +kernel
theorem dX6_ofJoint_98 : decode cX6_ofJoint 98 = .ok (.iload_n 1, 1) := by decide +kernel
theorem dX6_ofJoint_99 : decode cX6_ofJoint 99 = .ok (.iaload, 1) := by decide +kernel
theorem dX6_ofJoint_100 : decode cX6_ofJoint 100 = .ok (.ireturn, 1) := by decide +kernel
