theorem dX11_init_0 : decode cX11_init 0 = .ok (.aload_n 0, 1) := by decide +kernel
theorem dX11_init_1 : decode cX11_init 1 = .ok (.invokespecial 1, 3) := by decide +kernel
theorem dX11_init_4 : decode cX11_init 4 = .ok (.aload_n 0, 1) := by decide +kernel
theorem dX11_init_5 : decode cX11_init 5 = .ok (.iconst 4, 1) := by decide +kernel
theorem dX11_init_6 : decode cX11_init 6 = .ok (.newarray .int, 2) := by decide +kernel
theorem dX11_init_8 : decode cX11_init 8 = .ok (.dup, 1) := by decide +kernel
theorem dX11_init_9 : decode cX11_init 9 = .ok (.iconst 0, 1) := by decide +kernel
theorem dX11_init_10 : decode cX11_init 10 = .ok (.bipush 31, 2) := by decide +kernel
theorem dX11_init_12 : decode cX11_init 12 = .ok (.iastore, 1) := by decide +kernel
theorem dX11_init_13 : decode cX11_init 13 = .ok (.dup, 1) := by decide +kernel
theorem dX11_init_14 : decode cX11_init 14 = .ok (.iconst 1, 1) := by decide +kernel
theorem dX11_init_15 : decode cX11_init 15 = .ok (.bipush 31, 2) := by decide +kernel
theorem dX11_init_17 : decode cX11_init 17 = .ok (.iastore, 1) := by decide +kernel
theorem dX11_init_18 : decode cX11_init 18 = .ok (.dup, 1) := by decide +kernel
theorem dX11_init_19 : decode cX11_init 19 = .ok (.iconst 2, 1) := by decide +kernel
theorem dX11_init_20 : decode cX11_init 20 = .ok (.bipush 31, 2) := by decide +kernel
theorem dX11_init_22 : decode cX11_init 22 = .ok (.iastore, 1) := by decide +kernel
theorem dX11_init_23 : decode cX11_init 23 = .ok (.dup, 1) := by decide +kernel
theorem dX11_init_24 : decode cX11_init 24 = .ok (.iconst 3, 1) := by decide +kernel
theorem dX11_init_25 : decode cX11_init 25 = .ok (.bipush 31, 2) := by decide +kernel
theorem dX11_init_27 : decode cX11_init 27 = .ok (.iastore, 1) := by decide +kernel
theorem dX11_init_28 : decode cX11_init 28 = .ok (.putfield 7, 3) := by decide +kernel
theorem dX11_init_31 : decode cX11_init 31 = .ok (.aload_n 0, 1) := by decide +kernel
theorem dX11_init_32 : decode cX11_init 32 = .ok (.iconst 4, 1) := by decide +kernel
theorem dX11_init_33 : decode cX11_init 33 = .ok (.newarray .int, 2) := by decide +kernel
theorem dX11_init_35 : decode cX11_init 35 = .ok (.putfield 13, 3) := by decide +kernel
theorem dX11_init_38 : decode cX11_init 38 = .ok (.aload_n 0, 1) := by decide +kernel
theorem dX11_init_39 : decode cX11_init 39 = .ok (.iconst 4, 1) := by decide +kernel
theorem dX11_init_40 : decode cX11_init 40 = .ok (.bipush 12, 2) := by decide +kernel
theorem dX11_init_42 : decode cX11_init 42 = .ok (.multianewarray 16 2, 4) := by decide +kernel
theorem dX11_init_46 : decode cX11_init 46 = .ok (.putfield 18, 3) := by decide +kernel
theorem dX11_init_49 : decode cX11_init 49 = .ok (.aload_n 0, 1) := by decide +kernel
theorem dX11_init_50 : decode cX11_init 50 = .ok (.iconst 4, 1) := by decide +kernel
theorem dX11_init_51 : decode cX11_init 51 = .ok (.newarray .int, 2) := by decide +kernel
theorem dX11_init_53 : decode cX11_init 53 = .ok (.dup, 1) := by decide +kernel
theorem dX11_init_54 : decode cX11_init 54 = .ok (.iconst 0, 1) := by decide +kernel
theorem dX11_init_55 : decode cX11_init 55 = .ok (.bipush 9, 2) := by decide +kernel
theorem dX11_init_57 : decode cX11_init 57 = .ok (.iastore, 1) := by decide +kernel
theorem dX11_init_58 : decode cX11_init 58 = .ok (.dup, 1) := by decide +kernel
theorem dX11_init_59 : decode cX11_init 59 = .ok (.iconst 1, 1) := by decide +kernel
theorem dX11_init_60 : decode cX11_init 60 = .ok (.bipush 9, 2) := by decide +kernel
theorem dX11_init_62 : decode cX11_init 62 = .ok (.iastore, 1) := by decide +kernel
theorem dX11_init_63 : decode cX11_init 63 = .ok (.dup, 1) := by decide +kernel
theorem dX11_init_64 : decode cX11_init 64 = .ok (.iconst 2, 1) := by decide +kernel
theorem dX11_init_65 : decode cX11_init 65 = .ok (.bipush 9, 2) := by decide +kernel
theorem dX11_init_67 : decode cX11_init 67 = .ok (.iastore, 1) := by decide +kernel
theorem dX11_init_68 : decode cX11_init 68 = .ok (.dup, 1) := by decide +kernel
theorem dX11_init_69 : decode cX11_init 69 = .ok (.iconst 3, 1) := by decide +kernel
theorem dX11_init_70 : decode cX11_init 70 = .ok (.bipush 9, 2) := by decide +kernel
theorem dX11_init_72 : decode cX11_init 72 = .ok (.iastore, 1) := by decide +kernel
theorem dX11_init_73 : decode cX11_init 73 = .ok (.putfield 21, 3) := by decide +kernel
theorem dX11_init_76 : decode cX11_init 76 = .ok (.aload_n 0, 1) := by decide +kernel
theorem dX11_init_77 : decode cX11_init 77 = .ok (.iconst 4, 1) := by decide +kernel
theorem dX11_init_78 : decode cX11_init 78 = .ok (.newarray .int, 2) := by decide +kernel
theorem dX11_init_80 : decode cX11_init 80 = .ok (.putfield 24, 3) := by decide +kernel
theorem dX11_init_83 : decode cX11_init 83 = .ok (.aload_n 0, 1) := by decide +kernel
theorem dX11_init_84 : decode cX11_init 84 = .ok (.bipush 24, 2) := by decide +kernel
theorem dX11_init_86 : decode cX11_init 86 = .ok (.newarray .int, 2) := by decide +kernel
theorem dX11_init_88 : decode cX11_init 88 = .ok (.putfield 27, 3) := by decide +kernel
theorem dX11_init_91 : decode cX11_init 91 = .ok (.aload_n 0, 1) := by decide +kernel
theorem dX11_init_92 : decode cX11_init 92 = .ok (.bipush 24, 2) := by decide +kernel
theorem dX11_init_94 : decode cX11_init 94 = .ok (.newarray .int, 2) := by decide +kernel
theorem dX11_init_96 : decode cX11_init 96 = .ok (.putfield 30, 3) := by decide +kernel
theorem dX11_init_99 : decode cX11_init 99 = .ok (.aload_n 0, 1) := by decide +kernel
theorem dX11_init_100 : decode cX11_init 100 = .ok (.bipush 24, 2) := by decide +kernel
theorem dX11_init_102 : decode cX11_init 102 = .ok (.newarray .int, 2) := by decide +kernel
theorem dX11_init_104 : decode cX11_init 104 = .ok (.putfield 33, 3) := by decide +kernel
theorem dX11_init_107 : decode cX11_init 107 = .ok (.aload_n 0, 1) := by decide +kernel
theorem dX11_init_108 : decode cX11_init 108 = .ok (.bipush 24, 2) := by decide +kernel
theorem dX11_init_110 : decode cX11_init 110 = .ok (.newarray .int, 2) := by decide +kernel
theorem dX11_init_112 : decode cX11_init 112 = .ok (.putfield 36, 3) := by decide +kernel
theorem dX11_init_115 : decode cX11_init 115 = .ok (.aload_n 0, 1) := by decide +kernel
theorem dX11_init_116 : decode cX11_init 116 = .ok (.bipush 24, 2) := by decide +kernel
theorem dX11_init_118 : decode cX11_init 118 = .ok (.iconst 4, 1) := by decide +kernel
theorem dX11_init_119 : decode cX11_init 119 = .ok (.multianewarray 16 2, 4) := by decide +kernel
theorem dX11_init_123 : decode cX11_init 123 = .ok (.putfield 39, 3) := by decide +kernel
theorem dX11_init_126 : decode cX11_init 126 = .ok (.aload_n 0, 1) := by decide +kernel
theorem dX11_init_127 : decode cX11_init 127 = .ok (.bipush 24, 2) := by decide +kernel
theorem dX11_init_129 : decode cX11_init 129 = .ok (.newarray .boolean, 2) := by decide +kernel
theorem dX11_init_131 : decode cX11_init 131 = .ok (.putfield 42, 3) := by decide +kernel
theorem dX11_init_134 : decode cX11_init 134 = .ok (.aload_n 0, 1) := by decide +kernel
theorem dX11_init_135 : decode cX11_init 135 = .ok (.iconst 2, 1) := by decide +kernel
theorem dX11_init_136 : decode cX11_init 136 = .ok (.bipush 24, 2) := by decide +kernel
theorem dX11_init_138 : decode cX11_init 138 = .ok (.multianewarray 16 2, 4) := by decide +kernel
theorem dX11_init_142 : decode cX11_init 142 = .ok (.putfield 46, 3) := by decide +kernel
theorem dX11_init_145 : decode cX11_init 145 = .ok (.aload_n 0, 1) := by decide +kernel
theorem dX11_init_146 : decode cX11_init 146 = .ok (.bipush 40, 2) := by decide +kernel
theorem dX11_init_148 : decode cX11_init 148 = .ok (.iconst 4, 1) := by decide +kernel
theorem dX11_init_149 : decode cX11_init 149 = .ok (.multianewarray 16 2, 4) := by decide +kernel
theorem dX11_init_153 : decode cX11_init 153 = .ok (.putfield 49, 3) := by decide +kernel
theorem dX11_init_156 : decode cX11_init 156 = .ok (.aload_n 0, 1) := by decide +kernel
theorem dX11_init_157 : decode cX11_init 157 = .ok (.bipush 24, 2) := by decide +kernel
theorem dX11_init_159 : decode cX11_init 159 = .ok (.newarray .int, 2) := by decide +kernel
theorem dX11_init_161 : decode cX11_init 161 = .ok (.putfield 52, 3) := by decide +kernel
theorem dX11_init_164 : decode cX11_init 164 = .ok (.aload_n 0, 1) := by decide +kernel
theorem dX11_init_165 : decode cX11_init 165 = .ok (.iconst 2, 1) := by decide +kernel
theorem dX11_init_166 : decode cX11_init 166 = .ok (.bipush 24, 2) := by decide +kernel
theorem dX11_init_168 : decode cX11_init 168 = .ok (.multianewarray 16 2, 4) := by decide +kernel
theorem dX11_init_172 : decode cX11_init 172 = .ok (.putfield 55, 3) := by decide +kernel
theorem dX11_init_175 : decode cX11_init 175 = .ok (.aload_n 0, 1) := by decide +kernel
theorem dX11_init_176 : decode cX11_init 176 = .ok (.iconst 2, 1) := by decide +kernel
theorem dX11_init_177 : decode cX11_init 177 = .ok (.bipush 24, 2) := by decide +kernel
theorem dX11_init_179 : decode cX11_init 179 = .ok (.multianewarray 16 2, 4) := by decide +kernel
theorem dX11_init_183 : decode cX11_init 183 = .ok (.putfield 58, 3) := by decide +kernel
theorem dX11_init_186 : decode cX11_init 186 = .ok (.aload_n 0, 1) := by decide +kernel
theorem dX11_init_187 : decode cX11_init 187 = .ok (.bipush 24, 2) := by decide +kernel
theorem dX11_init_189 : decode cX11_init 189 = .ok (.newarray .int, 2) := by decide +kernel
theorem dX11_init_191 : decode cX11_init 191 = .ok (.putfield 61, 3) := by decide +kernel
theorem dX11_init_194 : decode cX11_init 194 = .ok (.aload_n 0, 1) := by decide +kernel
theorem dX11_init_195 : decode cX11_init 195 = .ok (.iconst 2, 1) := by decide +kernel
theorem dX11_init_196 : decode cX11_init 196 = .ok (.bipush 24, 2) := by decide +kernel
theorem dX11_init_198 : decode cX11_init 198 = .ok (.multianewarray 16 2, 4) := by decide +kernel
theorem dX11_init_202 : decode cX11_init 202 = .ok (.putfield 64, 3) := by decide +kernel
theorem dX11_init_205 : decode cX11_init 205 = .ok (.aload_n 0, 1) := by decide +kernel
theorem dX11_init_206 : decode cX11_init 206 = .ok (.bipush 24, 2) := by decide +kernel
theorem dX11_init_208 : decode cX11_init 208 = .ok (.newarray .int, 2) := by decide +kernel
theorem dX11_init_210 : decode cX11_init 210 = .ok (.putfield 67, 3) := by decide +kernel
theorem dX11_init_213 : decode cX11_init 213 = .ok (.aload_n 0, 1) := by decide +kernel
theorem dX11_init_214 : decode cX11_init 214 = .ok (.iconst 4, 1) := by decide +kernel
theorem dX11_init_215 : decode cX11_init 215 = .ok (.sipush 16000, 3) := by decide +kernel
theorem dX11_init_218 : decode cX11_init 218 = .ok (.multianewarray 16 2, 4) := by decide +kernel
theorem dX11_init_222 : decode cX11_init 222 = .ok (.putfield 70, 3) := by decide +kernel
theorem dX11_init_225 : decode cX11_init 225 = .ok (.aload_n 0, 1) := by decide +kernel
theorem dX11_init_226 : decode cX11_init 226 = .ok (.iconst 2, 1) := by decide +kernel
theorem dX11_init_227 : decode cX11_init 227 = .ok (.bipush 24, 2) := by decide +kernel
theorem dX11_init_229 : decode cX11_init 229 = .ok (.multianewarray 16 2, 4) := by decide +kernel
theorem dX11_init_233 : decode cX11_init 233 = .ok (.putfield 73, 3) := by decide +kernel
theorem dX11_init_236 : decode cX11_init 236 = .ok (.aload_n 0, 1) := by decide +kernel
theorem dX11_init_237 : decode cX11_init 237 = .ok (.bipush 24, 2) := by decide +kernel
theorem dX11_init_239 : decode cX11_init 239 = .ok (.newarray .int, 2) := by decide +kernel
theorem dX11_init_241 : decode cX11_init 241 = .ok (.putfield 76, 3) := by decide +kernel
theorem dX11_init_244 : decode cX11_init 244 = .ok (.aload_n 0, 1) := by decide +kernel
theorem dX11_init_245 : decode cX11_init 245 = .ok (.iconst 4, 1) := by decide +kernel
theorem dX11_init_246 : decode cX11_init 246 = .ok (.newarray .int, 2) := by decide +kernel
theorem dX11_init_248 : decode cX11_init 248 = .ok (.putfield 79, 3) := by decide +kernel
theorem dX11_init_251 : decode cX11_init 251 = .ok (.aload_n 0, 1) := by decide +kernel
theorem dX11_init_252 : decode cX11_init 252 = .ok (.iconst 4, 1) := by decide +kernel
theorem dX11_init_253 : decode cX11_init 253 = .ok (.newarray .int, 2) := by decide +kernel
theorem dX11_init_255 : decode cX11_init 255 = .ok (.putfield 82, 3) := by decide +kernel
theorem dX11_init_258 : decode cX11_init 258 = .ok (.aload_n 0, 1) := by decide +kernel
theorem dX11_init_259 : decode cX11_init 259 = .ok (.iconst 4, 1) := by decide +kernel
theorem dX11_init_260 : decode cX11_init 260 = .ok (.bipush 12, 2) := by decide +kernel
theorem dX11_init_262 : decode cX11_init 262 = .ok (.multianewarray 16 2, 4) := by decide +kernel
theorem dX11_init_266 : decode cX11_init 266 = .ok (.putfield 85, 3) := by decide +kernel
theorem dX11_init_269 : decode cX11_init 269 = .ok (.return_, 1) := by decide +kernel
theorem dX11_thrown_0 : decode cX11_thrown 0 = .ok (.aload_n 0, 1) := by decide +kernel
theorem dX11_thrown_1 : decode cX11_thrown 1 = .ok (.getfield 88, 3) := by decide +kernel
theorem dX11_thrown_4 : decode cX11_thrown 4 = .ok (.ireturn, 1) := by decide +kernel
theorem dX11_refuse_0 : decode cX11_refuse 0 = .ok (.aload_n 0, 1) := by decide +kernel
theorem dX11_refuse_1 : decode cX11_refuse 1 = .ok (.iload_n 1, 1) := by decide +kernel
theorem dX11_refuse_2 : decode cX11_refuse 2 = .ok (.putfield 88, 3) := by decide +kernel
theorem dX11_refuse_5 : decode cX11_refuse 5 = .ok (.iconst 0, 1) := by decide +kernel
theorem dX11_refuse_6 : decode cX11_refuse 6 = .ok (.ireturn, 1) := by decide +kernel
theorem dX11_is_0 : decode cX11_is 0 = .ok (.iload_n 0, 1) := by decide +kernel
theorem dX11_is_1 : decode cX11_is 1 = .ok (.iload_n 1, 1) := by decide +kernel
theorem dX11_is_2 : decode cX11_is 2 = .ok (.if_icmp .lt 12, 3) := by decide +kernel
theorem dX11_is_5 : decode cX11_is 5 = .ok (.iload_n 0, 1) := by decide +kernel
theorem dX11_is_6 : decode cX11_is 6 = .ok (.iload_n 2, 1) := by decide +kernel
theorem dX11_is_7 : decode cX11_is 7 = .ok (.if_icmp .gt 7, 3) := by decide +kernel
theorem dX11_is_10 : decode cX11_is 10 = .ok (.iconst 1, 1) := by decide +kernel
theorem dX11_is_11 : decode cX11_is 11 = .ok (.goto 4, 3) := by decide +kernel
theorem dX11_is_14 : decode cX11_is 14 = .ok (.iconst 0, 1) := by decide +kernel
theorem dX11_is_15 : decode cX11_is 15 = .ok (.ireturn, 1) := by decide +kernel
theorem dX11_isCalendar_0 : decode cX11_isCalendar 0 = .ok (.iload_n 0, 1) := by decide +kernel
theorem dX11_isCalendar_1 : decode cX11_isCalendar 1 = .ok (.iconst 0, 1) := by decide +kernel
theorem dX11_isCalendar_2 : decode cX11_isCalendar 2 = .ok (.iconst 3, 1) := by decide +kernel
theorem dX11_isCalendar_3 : decode cX11_isCalendar 3 = .ok (.invokestatic 92, 3) := by decide +kernel
theorem dX11_isCalendar_6 : decode cX11_isCalendar 6 = .ok (.ireturn, 1) := by decide +kernel
theorem dX11_isCrew_0 : decode cX11_isCrew 0 = .ok (.iload_n 0, 1) := by decide +kernel
theorem dX11_isCrew_1 : decode cX11_isCrew 1 = .ok (.iconst 0, 1) := by decide +kernel
theorem dX11_isCrew_2 : decode cX11_isCrew 2 = .ok (.iconst 3, 1) := by decide +kernel
theorem dX11_isCrew_3 : decode cX11_isCrew 3 = .ok (.invokestatic 92, 3) := by decide +kernel
theorem dX11_isCrew_6 : decode cX11_isCrew 6 = .ok (.ireturn, 1) := by decide +kernel
theorem dX11_isTask_0 : decode cX11_isTask 0 = .ok (.iload_n 1, 1) := by decide +kernel
theorem dX11_isTask_1 : decode cX11_isTask 1 = .ok (.iconst 0, 1) := by decide +kernel
theorem dX11_isTask_2 : decode cX11_isTask 2 = .ok (.aload_n 0, 1) := by decide +kernel
theorem dX11_isTask_3 : decode cX11_isTask 3 = .ok (.getfield 96, 3) := by decide +kernel
theorem dX11_isTask_6 : decode cX11_isTask 6 = .ok (.iconst 1, 1) := by decide +kernel
theorem dX11_isTask_7 : decode cX11_isTask 7 = .ok (.isub, 1) := by decide +kernel
theorem dX11_isTask_8 : decode cX11_isTask 8 = .ok (.invokestatic 92, 3) := by decide +kernel
theorem dX11_isTask_11 : decode cX11_isTask 11 = .ok (.ireturn, 1) := by decide +kernel
theorem dX11_isLink_0 : decode cX11_isLink 0 = .ok (.iload_n 1, 1) := by decide +kernel
theorem dX11_isLink_1 : decode cX11_isLink 1 = .ok (.iconst 0, 1) := by decide +kernel
theorem dX11_isLink_2 : decode cX11_isLink 2 = .ok (.aload_n 0, 1) := by decide +kernel
theorem dX11_isLink_3 : decode cX11_isLink 3 = .ok (.getfield 99, 3) := by decide +kernel
theorem dX11_isLink_6 : decode cX11_isLink 6 = .ok (.iconst 1, 1) := by decide +kernel
theorem dX11_isLink_7 : decode cX11_isLink 7 = .ok (.isub, 1) := by decide +kernel
theorem dX11_isLink_8 : decode cX11_isLink 8 = .ok (.invokestatic 92, 3) := by decide +kernel
theorem dX11_isLink_11 : decode cX11_isLink 11 = .ok (.ireturn, 1) := by decide +kernel
theorem dX11_freeAt_0 : decode cX11_freeAt 0 = .ok (.aload_n 0, 1) := by decide +kernel
theorem dX11_freeAt_1 : decode cX11_freeAt 1 = .ok (.getfield 13, 3) := by decide +kernel
theorem dX11_freeAt_4 : decode cX11_freeAt 4 = .ok (.iload_n 1, 1) := by decide +kernel
theorem dX11_freeAt_5 : decode cX11_freeAt 5 = .ok (.iaload, 1) := by decide +kernel
theorem dX11_freeAt_6 : decode cX11_freeAt 6 = .ok (.iconst 1, 1) := by decide +kernel
theorem dX11_freeAt_7 : decode cX11_freeAt 7 = .ok (.isub, 1) := by decide +kernel
theorem dX11_freeAt_8 : decode cX11_freeAt 8 = .ok (.istore_n 3, 1) := by decide +kernel
theorem dX11_freeAt_9 : decode cX11_freeAt 9 = .ok (.iload_n 3, 1) := by decide +kernel
theorem dX11_freeAt_10 : decode cX11_freeAt 10 = .ok (.ifCond .lt 21, 3) := by decide +kernel
theorem dX11_freeAt_13 : decode cX11_freeAt 13 = .ok (.aload_n 0, 1) := by decide +kernel
theorem dX11_freeAt_14 : decode cX11_freeAt 14 = .ok (.getfield 18, 3) := by decide +kernel
theorem dX11_freeAt_17 : decode cX11_freeAt 17 = .ok (.iload_n 1, 1) := by decide +kernel
theorem dX11_freeAt_18 : decode cX11_freeAt 18 = .ok (.aaload, 1) := by decide +kernel
theorem dX11_freeAt_19 : decode cX11_freeAt 19 = .ok (.iload_n 3, 1) := by decide +kernel
theorem dX11_freeAt_20 : decode cX11_freeAt 20 = .ok (.iaload, 1) := by decide +kernel
theorem dX11_freeAt_21 : decode cX11_freeAt 21 = .ok (.iload_n 2, 1) := by decide +kernel
theorem dX11_freeAt_22 : decode cX11_freeAt 22 = .ok (.if_icmp .eq 9, 3) := by decide +kernel
theorem dX11_freeAt_25 : decode cX11_freeAt 25 = .ok (.iinc 3 (-1), 3) := by decide +kernel
theorem dX11_freeAt_28 : decode cX11_freeAt 28 = .ok (.goto (-19), 3) := by decide +kernel
theorem dX11_freeAt_31 : decode cX11_freeAt 31 = .ok (.iload_n 3, 1) := by decide +kernel
theorem dX11_freeAt_32 : decode cX11_freeAt 32 = .ok (.ireturn, 1) := by decide +kernel
theorem dX11_worksOn_0 : decode cX11_worksOn 0 = .ok (.aload_n 0, 1) := by decide +kernel
theorem dX11_worksOn_1 : decode cX11_worksOn 1 = .ok (.getfield 7, 3) := by decide +kernel
theorem dX11_worksOn_4 : decode cX11_worksOn 4 = .ok (.iload_n 1, 1) := by decide +kernel
theorem dX11_worksOn_5 : decode cX11_worksOn 5 = .ok (.iaload, 1) := by decide +kernel
theorem dX11_worksOn_6 : decode cX11_worksOn 6 = .ok (.iload_n 2, 1) := by decide +kernel
theorem dX11_worksOn_7 : decode cX11_worksOn 7 = .ok (.bipush 7, 2) := by decide +kernel
theorem dX11_worksOn_9 : decode cX11_worksOn 9 = .ok (.irem, 1) := by decide +kernel
theorem dX11_worksOn_10 : decode cX11_worksOn 10 = .ok (.ishr, 1) := by decide +kernel
theorem dX11_worksOn_11 : decode cX11_worksOn 11 = .ok (.iconst 1, 1) := by decide +kernel
theorem dX11_worksOn_12 : decode cX11_worksOn 12 = .ok (.iand, 1) := by decide +kernel
theorem dX11_worksOn_13 : decode cX11_worksOn 13 = .ok (.ifCond .eq 17, 3) := by decide +kernel
theorem dX11_worksOn_16 : decode cX11_worksOn 16 = .ok (.aload_n 0, 1) := by decide +kernel
theorem dX11_worksOn_17 : decode cX11_worksOn 17 = .ok (.iload_n 1, 1) := by decide +kernel
theorem dX11_worksOn_18 : decode cX11_worksOn 18 = .ok (.iload_n 2, 1) := by decide +kernel
theorem dX11_worksOn_19 : decode cX11_worksOn 19 = .ok (.invokevirtual 102, 3) := by decide +kernel
theorem dX11_worksOn_22 : decode cX11_worksOn 22 = .ok (.iconst (-1), 1) := by decide +kernel
theorem dX11_worksOn_23 : decode cX11_worksOn 23 = .ok (.if_icmp .ne 7, 3) := by decide +kernel
theorem dX11_worksOn_26 : decode cX11_worksOn 26 = .ok (.iconst 1, 1) := by decide +kernel
theorem dX11_worksOn_27 : decode cX11_worksOn 27 = .ok (.goto 4, 3) := by decide +kernel
theorem dX11_worksOn_30 : decode cX11_worksOn 30 = .ok (.iconst 0, 1) := by decide +kernel
theorem dX11_worksOn_31 : decode cX11_worksOn 31 = .ok (.ireturn, 1) := by decide +kernel
theorem dX11_from_0 : decode cX11_from 0 = .ok (.iload_n 2, 1) := by decide +kernel
theorem dX11_from_1 : decode cX11_from 1 = .ok (.istore_n 3, 1) := by decide +kernel
theorem dX11_from_2 : decode cX11_from 2 = .ok (.aload_n 0, 1) := by decide +kernel
theorem dX11_from_3 : decode cX11_from 3 = .ok (.getfield 27, 3) := by decide +kernel
theorem dX11_from_6 : decode cX11_from 6 = .ok (.iload_n 1, 1) := by decide +kernel
theorem dX11_from_7 : decode cX11_from 7 = .ok (.iaload, 1) := by decide +kernel
theorem dX11_from_8 : decode cX11_from 8 = .ok (.ifCond .le 23, 3) := by decide +kernel
theorem dX11_from_11 : decode cX11_from 11 = .ok (.aload_n 0, 1) := by decide +kernel
theorem dX11_from_12 : decode cX11_from 12 = .ok (.aload_n 0, 1) := by decide +kernel
theorem dX11_from_13 : decode cX11_from 13 = .ok (.getfield 30, 3) := by decide +kernel
theorem dX11_from_16 : decode cX11_from 16 = .ok (.iload_n 1, 1) := by decide +kernel
theorem dX11_from_17 : decode cX11_from 17 = .ok (.iaload, 1) := by decide +kernel
theorem dX11_from_18 : decode cX11_from 18 = .ok (.iload_n 3, 1) := by decide +kernel
theorem dX11_from_19 : decode cX11_from 19 = .ok (.invokevirtual 106, 3) := by decide +kernel
theorem dX11_from_22 : decode cX11_from 22 = .ok (.ifCond .ne 9, 3) := by decide +kernel
theorem dX11_from_25 : decode cX11_from 25 = .ok (.iinc 3 1, 3) := by decide +kernel
theorem dX11_from_28 : decode cX11_from 28 = .ok (.goto (-26), 3) := by decide +kernel
theorem dX11_from_31 : decode cX11_from 31 = .ok (.iload_n 3, 1) := by decide +kernel
theorem dX11_from_32 : decode cX11_from 32 = .ok (.ireturn, 1) := by decide +kernel
theorem dX11_endOf_0 : decode cX11_endOf 0 = .ok (.iload_n 2, 1) := by decide +kernel
theorem dX11_endOf_1 : decode cX11_endOf 1 = .ok (.istore_n 3, 1) := by decide +kernel
theorem dX11_endOf_2 : decode cX11_endOf 2 = .ok (.aload_n 0, 1) := by decide +kernel
theorem dX11_endOf_3 : decode cX11_endOf 3 = .ok (.getfield 27, 3) := by decide +kernel
theorem dX11_endOf_6 : decode cX11_endOf 6 = .ok (.iload_n 1, 1) := by decide +kernel
theorem dX11_endOf_7 : decode cX11_endOf 7 = .ok (.iaload, 1) := by decide +kernel
theorem dX11_endOf_8 : decode cX11_endOf 8 = .ok (.istore 4, 2) := by decide +kernel
theorem dX11_endOf_10 : decode cX11_endOf 10 = .ok (.iload 4, 2) := by decide +kernel
theorem dX11_endOf_12 : decode cX11_endOf 12 = .ok (.ifCond .le 33, 3) := by decide +kernel
theorem dX11_endOf_15 : decode cX11_endOf 15 = .ok (.iload 4, 2) := by decide +kernel
theorem dX11_endOf_17 : decode cX11_endOf 17 = .ok (.aload_n 0, 1) := by decide +kernel
theorem dX11_endOf_18 : decode cX11_endOf 18 = .ok (.aload_n 0, 1) := by decide +kernel
theorem dX11_endOf_19 : decode cX11_endOf 19 = .ok (.getfield 30, 3) := by decide +kernel
theorem dX11_endOf_22 : decode cX11_endOf 22 = .ok (.iload_n 1, 1) := by decide +kernel
theorem dX11_endOf_23 : decode cX11_endOf 23 = .ok (.iaload, 1) := by decide +kernel
theorem dX11_endOf_24 : decode cX11_endOf 24 = .ok (.iload_n 3, 1) := by decide +kernel
theorem dX11_endOf_25 : decode cX11_endOf 25 = .ok (.invokevirtual 106, 3) := by decide +kernel
theorem dX11_endOf_28 : decode cX11_endOf 28 = .ok (.ifCond .eq 7, 3) := by decide +kernel
theorem dX11_endOf_31 : decode cX11_endOf 31 = .ok (.iconst 1, 1) := by decide +kernel
theorem dX11_endOf_32 : decode cX11_endOf 32 = .ok (.goto 4, 3) := by decide +kernel
theorem dX11_endOf_35 : decode cX11_endOf 35 = .ok (.iconst 0, 1) := by decide +kernel
theorem dX11_endOf_36 : decode cX11_endOf 36 = .ok (.isub, 1) := by decide +kernel
theorem dX11_endOf_37 : decode cX11_endOf 37 = .ok (.istore 4, 2) := by decide +kernel
theorem dX11_endOf_39 : decode cX11_endOf 39 = .ok (.iinc 3 1, 3) := by decide +kernel
theorem dX11_endOf_42 : decode cX11_endOf 42 = .ok (.goto (-32), 3) := by decide +kernel
theorem dX11_endOf_45 : decode cX11_endOf 45 = .ok (.iload_n 3, 1) := by decide +kernel
theorem dX11_endOf_46 : decode cX11_endOf 46 = .ok (.ireturn, 1) := by decide +kernel
theorem dX11_ending_0 : decode cX11_ending 0 = .ok (.aload_n 0, 1) := by decide +kernel
theorem dX11_ending_1 : decode cX11_ending 1 = .ok (.iload_n 1, 1) := by decide +kernel
theorem dX11_ending_2 : decode cX11_ending 2 = .ok (.iload_n 2, 1) := by decide +kernel
theorem dX11_ending_3 : decode cX11_ending 3 = .ok (.invokevirtual 110, 3) := by decide +kernel
theorem dX11_ending_6 : decode cX11_ending 6 = .ok (.istore 4, 2) := by decide +kernel
theorem dX11_ending_8 : decode cX11_ending 8 = .ok (.aload_n 0, 1) := by decide +kernel
theorem dX11_ending_9 : decode cX11_ending 9 = .ok (.iload_n 1, 1) := by decide +kernel
theorem dX11_ending_10 : decode cX11_ending 10 = .ok (.iload 4, 2) := by decide +kernel
theorem dX11_ending_12 : decode cX11_ending 12 = .ok (.invokevirtual 113, 3) := by decide +kernel
theorem dX11_ending_15 : decode cX11_ending 15 = .ok (.iload_n 3, 1) := by decide +kernel
theorem dX11_ending_16 : decode cX11_ending 16 = .ok (.if_icmp .ge 17, 3) := by decide +kernel
theorem dX11_ending_19 : decode cX11_ending 19 = .ok (.aload_n 0, 1) := by decide +kernel
theorem dX11_ending_20 : decode cX11_ending 20 = .ok (.iload_n 1, 1) := by decide +kernel
theorem dX11_ending_21 : decode cX11_ending 21 = .ok (.iload 4, 2) := by decide +kernel
theorem dX11_ending_23 : decode cX11_ending 23 = .ok (.iconst 1, 1) := by decide +kernel
theorem dX11_ending_24 : decode cX11_ending 24 = .ok (.iadd, 1) := by decide +kernel
theorem dX11_ending_25 : decode cX11_ending 25 = .ok (.invokevirtual 110, 3) := by decide +kernel
theorem dX11_ending_28 : decode cX11_ending 28 = .ok (.istore 4, 2) := by decide +kernel
theorem dX11_ending_30 : decode cX11_ending 30 = .ok (.goto (-22), 3) := by decide +kernel
theorem dX11_ending_33 : decode cX11_ending 33 = .ok (.iload 4, 2) := by decide +kernel
theorem dX11_ending_35 : decode cX11_ending 35 = .ok (.ireturn, 1) := by decide +kernel
theorem dX11_byLink_0 : decode cX11_byLink 0 = .ok (.aload_n 0, 1) := by decide +kernel
theorem dX11_byLink_1 : decode cX11_byLink 1 = .ok (.getfield 49, 3) := by decide +kernel
theorem dX11_byLink_4 : decode cX11_byLink 4 = .ok (.iload_n 1, 1) := by decide +kernel
theorem dX11_byLink_5 : decode cX11_byLink 5 = .ok (.aaload, 1) := by decide +kernel
theorem dX11_byLink_6 : decode cX11_byLink 6 = .ok (.iconst 0, 1) := by decide +kernel
theorem dX11_byLink_7 : decode cX11_byLink 7 = .ok (.iaload, 1) := by decide +kernel
theorem dX11_byLink_8 : decode cX11_byLink 8 = .ok (.istore 4, 2) := by decide +kernel
theorem dX11_byLink_10 : decode cX11_byLink 10 = .ok (.aload_n 0, 1) := by decide +kernel
theorem dX11_byLink_11 : decode cX11_byLink 11 = .ok (.getfield 49, 3) := by decide +kernel
theorem dX11_byLink_14 : decode cX11_byLink 14 = .ok (.iload_n 1, 1) := by decide +kernel
theorem dX11_byLink_15 : decode cX11_byLink 15 = .ok (.aaload, 1) := by decide +kernel
theorem dX11_byLink_16 : decode cX11_byLink 16 = .ok (.iconst 1, 1) := by decide +kernel
theorem dX11_byLink_17 : decode cX11_byLink 17 = .ok (.iaload, 1) := by decide +kernel
theorem dX11_byLink_18 : decode cX11_byLink 18 = .ok (.istore 5, 2) := by decide +kernel
theorem dX11_byLink_20 : decode cX11_byLink 20 = .ok (.aload_n 0, 1) := by decide +kernel
theorem dX11_byLink_21 : decode cX11_byLink 21 = .ok (.getfield 49, 3) := by decide +kernel
theorem dX11_byLink_24 : decode cX11_byLink 24 = .ok (.iload_n 1, 1) := by decide +kernel
theorem dX11_byLink_25 : decode cX11_byLink 25 = .ok (.aaload, 1) := by decide +kernel
theorem dX11_byLink_26 : decode cX11_byLink 26 = .ok (.iconst 2, 1) := by decide +kernel
theorem dX11_byLink_27 : decode cX11_byLink 27 = .ok (.iaload, 1) := by decide +kernel
theorem dX11_byLink_28 : decode cX11_byLink 28 = .ok (.ifCond .ne 29, 3) := by decide +kernel
theorem dX11_byLink_31 : decode cX11_byLink 31 = .ok (.aload_n 0, 1) := by decide +kernel
theorem dX11_byLink_32 : decode cX11_byLink 32 = .ok (.iload 5, 2) := by decide +kernel
theorem dX11_byLink_34 : decode cX11_byLink 34 = .ok (.iload_n 3, 1) := by decide +kernel
theorem dX11_byLink_35 : decode cX11_byLink 35 = .ok (.aload_n 2, 1) := by decide +kernel
theorem dX11_byLink_36 : decode cX11_byLink 36 = .ok (.iconst 1, 1) := by decide +kernel
theorem dX11_byLink_37 : decode cX11_byLink 37 = .ok (.aaload, 1) := by decide +kernel
theorem dX11_byLink_38 : decode cX11_byLink 38 = .ok (.iload 4, 2) := by decide +kernel
theorem dX11_byLink_40 : decode cX11_byLink 40 = .ok (.iaload, 1) := by decide +kernel
theorem dX11_byLink_41 : decode cX11_byLink 41 = .ok (.aload_n 0, 1) := by decide +kernel
theorem dX11_byLink_42 : decode cX11_byLink 42 = .ok (.getfield 49, 3) := by decide +kernel
theorem dX11_byLink_45 : decode cX11_byLink 45 = .ok (.iload_n 1, 1) := by decide +kernel
theorem dX11_byLink_46 : decode cX11_byLink 46 = .ok (.aaload, 1) := by decide +kernel
theorem dX11_byLink_47 : decode cX11_byLink 47 = .ok (.iconst 3, 1) := by decide +kernel
theorem dX11_byLink_48 : decode cX11_byLink 48 = .ok (.iaload, 1) := by decide +kernel
theorem dX11_byLink_49 : decode cX11_byLink 49 = .ok (.iadd, 1) := by decide +kernel
theorem dX11_byLink_50 : decode cX11_byLink 50 = .ok (.invokestatic 116, 3) := by decide +kernel
theorem dX11_byLink_53 : decode cX11_byLink 53 = .ok (.invokevirtual 110, 3) := by decide +kernel
theorem dX11_byLink_56 : decode cX11_byLink 56 = .ok (.ireturn, 1) := by decide +kernel
theorem dX11_byLink_57 : decode cX11_byLink 57 = .ok (.aload_n 0, 1) := by decide +kernel
theorem dX11_byLink_58 : decode cX11_byLink 58 = .ok (.getfield 49, 3) := by decide +kernel
theorem dX11_byLink_61 : decode cX11_byLink 61 = .ok (.iload_n 1, 1) := by decide +kernel
theorem dX11_byLink_62 : decode cX11_byLink 62 = .ok (.aaload, 1) := by decide +kernel
theorem dX11_byLink_63 : decode cX11_byLink 63 = .ok (.iconst 2, 1) := by decide +kernel
theorem dX11_byLink_64 : decode cX11_byLink 64 = .ok (.iaload, 1) := by decide +kernel
theorem dX11_byLink_65 : decode cX11_byLink 65 = .ok (.iconst 1, 1) := by decide +kernel
theorem dX11_byLink_66 : decode cX11_byLink 66 = .ok (.if_icmp .ne 29, 3) := by decide +kernel
theorem dX11_byLink_69 : decode cX11_byLink 69 = .ok (.aload_n 0, 1) := by decide +kernel
theorem dX11_byLink_70 : decode cX11_byLink 70 = .ok (.iload 5, 2) := by decide +kernel
theorem dX11_byLink_72 : decode cX11_byLink 72 = .ok (.iload_n 3, 1) := by decide +kernel
theorem dX11_byLink_73 : decode cX11_byLink 73 = .ok (.aload_n 2, 1) := by decide +kernel
theorem dX11_byLink_74 : decode cX11_byLink 74 = .ok (.iconst 0, 1) := by decide +kernel
theorem dX11_byLink_75 : decode cX11_byLink 75 = .ok (.aaload, 1) := by decide +kernel
theorem dX11_byLink_76 : decode cX11_byLink 76 = .ok (.iload 4, 2) := by decide +kernel
theorem dX11_byLink_78 : decode cX11_byLink 78 = .ok (.iaload, 1) := by decide +kernel
theorem dX11_byLink_79 : decode cX11_byLink 79 = .ok (.aload_n 0, 1) := by decide +kernel
theorem dX11_byLink_80 : decode cX11_byLink 80 = .ok (.getfield 49, 3) := by decide +kernel
theorem dX11_byLink_83 : decode cX11_byLink 83 = .ok (.iload_n 1, 1) := by decide +kernel
theorem dX11_byLink_84 : decode cX11_byLink 84 = .ok (.aaload, 1) := by decide +kernel
theorem dX11_byLink_85 : decode cX11_byLink 85 = .ok (.iconst 3, 1) := by decide +kernel
theorem dX11_byLink_86 : decode cX11_byLink 86 = .ok (.iaload, 1) := by decide +kernel
theorem dX11_byLink_87 : decode cX11_byLink 87 = .ok (.iadd, 1) := by decide +kernel
theorem dX11_byLink_88 : decode cX11_byLink 88 = .ok (.invokestatic 116, 3) := by decide +kernel
theorem dX11_byLink_91 : decode cX11_byLink 91 = .ok (.invokevirtual 110, 3) := by decide +kernel
theorem dX11_byLink_94 : decode cX11_byLink 94 = .ok (.ireturn, 1) := by decide +kernel
theorem dX11_byLink_95 : decode cX11_byLink 95 = .ok (.aload_n 0, 1) := by decide +kernel
theorem dX11_byLink_96 : decode cX11_byLink 96 = .ok (.iload 5, 2) := by decide +kernel
theorem dX11_byLink_98 : decode cX11_byLink 98 = .ok (.iload_n 3, 1) := by decide +kernel
theorem dX11_byLink_99 : decode cX11_byLink 99 = .ok (.aload_n 2, 1) := by decide +kernel
theorem dX11_byLink_100 : decode cX11_byLink 100 = .ok (.iconst 1, 1) := by decide +kernel
theorem dX11_byLink_101 : decode cX11_byLink 101 = .ok (.aaload, 1) := by decide +kernel
theorem dX11_byLink_102 : decode cX11_byLink 102 = .ok (.iload 4, 2) := by decide +kernel
theorem dX11_byLink_104 : decode cX11_byLink 104 = .ok (.iaload, 1) := by decide +kernel
theorem dX11_byLink_105 : decode cX11_byLink 105 = .ok (.aload_n 0, 1) := by decide +kernel
theorem dX11_byLink_106 : decode cX11_byLink 106 = .ok (.getfield 49, 3) := by decide +kernel
theorem dX11_byLink_109 : decode cX11_byLink 109 = .ok (.iload_n 1, 1) := by decide +kernel
theorem dX11_byLink_110 : decode cX11_byLink 110 = .ok (.aaload, 1) := by decide +kernel
theorem dX11_byLink_111 : decode cX11_byLink 111 = .ok (.iconst 3, 1) := by decide +kernel
theorem dX11_byLink_112 : decode cX11_byLink 112 = .ok (.iaload, 1) := by decide +kernel
theorem dX11_byLink_113 : decode cX11_byLink 113 = .ok (.iadd, 1) := by decide +kernel
theorem dX11_byLink_114 : decode cX11_byLink 114 = .ok (.invokevirtual 121, 3) := by decide +kernel
theorem dX11_byLink_117 : decode cX11_byLink 117 = .ok (.ireturn, 1) := by decide +kernel
theorem dX11_byAll_0 : decode cX11_byAll 0 = .ok (.aload_n 0, 1) := by decide +kernel
theorem dX11_byAll_1 : decode cX11_byAll 1 = .ok (.iload_n 1, 1) := by decide +kernel
theorem dX11_byAll_2 : decode cX11_byAll 2 = .ok (.aload_n 0, 1) := by decide +kernel
theorem dX11_byAll_3 : decode cX11_byAll 3 = .ok (.getfield 36, 3) := by decide +kernel
theorem dX11_byAll_6 : decode cX11_byAll 6 = .ok (.iload_n 1, 1) := by decide +kernel
theorem dX11_byAll_7 : decode cX11_byAll 7 = .ok (.iaload, 1) := by decide +kernel
theorem dX11_byAll_8 : decode cX11_byAll 8 = .ok (.invokevirtual 110, 3) := by decide +kernel
theorem dX11_byAll_11 : decode cX11_byAll 11 = .ok (.istore_n 3, 1) := by decide +kernel
theorem dX11_byAll_12 : decode cX11_byAll 12 = .ok (.iconst 0, 1) := by decide +kernel
theorem dX11_byAll_13 : decode cX11_byAll 13 = .ok (.istore 4, 2) := by decide +kernel
theorem dX11_byAll_15 : decode cX11_byAll 15 = .ok (.iload 4, 2) := by decide +kernel
theorem dX11_byAll_17 : decode cX11_byAll 17 = .ok (.aload_n 0, 1) := by decide +kernel
theorem dX11_byAll_18 : decode cX11_byAll 18 = .ok (.getfield 99, 3) := by decide +kernel
theorem dX11_byAll_21 : decode cX11_byAll 21 = .ok (.if_icmp .ge 31, 3) := by decide +kernel
theorem dX11_byAll_24 : decode cX11_byAll 24 = .ok (.aload_n 0, 1) := by decide +kernel
theorem dX11_byAll_25 : decode cX11_byAll 25 = .ok (.getfield 49, 3) := by decide +kernel
theorem dX11_byAll_28 : decode cX11_byAll 28 = .ok (.iload 4, 2) := by decide +kernel
theorem dX11_byAll_30 : decode cX11_byAll 30 = .ok (.aaload, 1) := by decide +kernel
theorem dX11_byAll_31 : decode cX11_byAll 31 = .ok (.iconst 1, 1) := by decide +kernel
theorem dX11_byAll_32 : decode cX11_byAll 32 = .ok (.iaload, 1) := by decide +kernel
theorem dX11_byAll_33 : decode cX11_byAll 33 = .ok (.iload_n 1, 1) := by decide +kernel
theorem dX11_byAll_34 : decode cX11_byAll 34 = .ok (.if_icmp .ne 12, 3) := by decide +kernel
theorem dX11_byAll_37 : decode cX11_byAll 37 = .ok (.aload_n 0, 1) := by decide +kernel
theorem dX11_byAll_38 : decode cX11_byAll 38 = .ok (.iload 4, 2) := by decide +kernel
theorem dX11_byAll_40 : decode cX11_byAll 40 = .ok (.aload_n 2, 1) := by decide +kernel
theorem dX11_byAll_41 : decode cX11_byAll 41 = .ok (.iload_n 3, 1) := by decide +kernel
theorem dX11_byAll_42 : decode cX11_byAll 42 = .ok (.invokevirtual 125, 3) := by decide +kernel
theorem dX11_byAll_45 : decode cX11_byAll 45 = .ok (.istore_n 3, 1) := by decide +kernel
theorem dX11_byAll_46 : decode cX11_byAll 46 = .ok (.iinc 4 1, 3) := by decide +kernel
theorem dX11_byAll_49 : decode cX11_byAll 49 = .ok (.goto (-34), 3) := by decide +kernel
theorem dX11_byAll_52 : decode cX11_byAll 52 = .ok (.iload_n 3, 1) := by decide +kernel
theorem dX11_byAll_53 : decode cX11_byAll 53 = .ok (.ireturn, 1) := by decide +kernel
theorem dX11_sort_0 : decode cX11_sort 0 = .ok (.bipush 24, 2) := by decide +kernel
theorem dX11_sort_2 : decode cX11_sort 2 = .ok (.newarray .boolean, 2) := by decide +kernel
theorem dX11_sort_4 : decode cX11_sort 4 = .ok (.astore_n 1, 1) := by decide +kernel
theorem dX11_sort_5 : decode cX11_sort 5 = .ok (.iconst 0, 1) := by decide +kernel
theorem dX11_sort_6 : decode cX11_sort 6 = .ok (.istore_n 2, 1) := by decide +kernel
theorem dX11_sort_7 : decode cX11_sort 7 = .ok (.iload_n 2, 1) := by decide +kernel
theorem dX11_sort_8 : decode cX11_sort 8 = .ok (.aload_n 0, 1) := by decide +kernel
theorem dX11_sort_9 : decode cX11_sort 9 = .ok (.getfield 96, 3) := by decide +kernel
theorem dX11_sort_12 : decode cX11_sort 12 = .ok (.if_icmp .ge 43, 3) := by decide +kernel
theorem dX11_sort_15 : decode cX11_sort 15 = .ok (.iconst 0, 1) := by decide +kernel
theorem dX11_sort_16 : decode cX11_sort 16 = .ok (.istore_n 3, 1) := by decide +kernel
theorem dX11_sort_17 : decode cX11_sort 17 = .ok (.aload_n 1, 1) := by decide +kernel
theorem dX11_sort_18 : decode cX11_sort 18 = .ok (.iload_n 3, 1) := by decide +kernel
theorem dX11_sort_19 : decode cX11_sort 19 = .ok (.baload, 1) := by decide +kernel
theorem dX11_sort_20 : decode cX11_sort 20 = .ok (.ifCond .ne 12, 3) := by decide +kernel
theorem dX11_sort_23 : decode cX11_sort 23 = .ok (.aload_n 0, 1) := by decide +kernel
theorem dX11_sort_24 : decode cX11_sort 24 = .ok (.iload_n 3, 1) := by decide +kernel
theorem dX11_sort_25 : decode cX11_sort 25 = .ok (.aload_n 1, 1) := by decide +kernel
theorem dX11_sort_26 : decode cX11_sort 26 = .ok (.invokevirtual 129, 3) := by decide +kernel
theorem dX11_sort_29 : decode cX11_sort 29 = .ok (.ifCond .ne 9, 3) := by decide +kernel
theorem dX11_sort_32 : decode cX11_sort 32 = .ok (.iinc 3 1, 3) := by decide +kernel
theorem dX11_sort_35 : decode cX11_sort 35 = .ok (.goto (-18), 3) := by decide +kernel
theorem dX11_sort_38 : decode cX11_sort 38 = .ok (.aload_n 1, 1) := by decide +kernel
theorem dX11_sort_39 : decode cX11_sort 39 = .ok (.iload_n 3, 1) := by decide +kernel
theorem dX11_sort_40 : decode cX11_sort 40 = .ok (.iconst 1, 1) := by decide +kernel
theorem dX11_sort_41 : decode cX11_sort 41 = .ok (.bastore, 1) := by decide +kernel
theorem dX11_sort_42 : decode cX11_sort 42 = .ok (.aload_n 0, 1) := by decide +kernel
theorem dX11_sort_43 : decode cX11_sort 43 = .ok (.getfield 52, 3) := by decide +kernel
theorem dX11_sort_46 : decode cX11_sort 46 = .ok (.iload_n 2, 1) := by decide +kernel
theorem dX11_sort_47 : decode cX11_sort 47 = .ok (.iload_n 3, 1) := by decide +kernel
theorem dX11_sort_48 : decode cX11_sort 48 = .ok (.iastore, 1) := by decide +kernel
theorem dX11_sort_49 : decode cX11_sort 49 = .ok (.iinc 2 1, 3) := by decide +kernel
theorem dX11_sort_52 : decode cX11_sort 52 = .ok (.goto (-45), 3) := by decide +kernel
theorem dX11_sort_55 : decode cX11_sort 55 = .ok (.return_, 1) := by decide +kernel
theorem dX11_isFree_0 : decode cX11_isFree 0 = .ok (.iconst 0, 1) := by decide +kernel
theorem dX11_isFree_1 : decode cX11_isFree 1 = .ok (.istore_n 3, 1) := by decide +kernel
theorem dX11_isFree_2 : decode cX11_isFree 2 = .ok (.iload_n 3, 1) := by decide +kernel
theorem dX11_isFree_3 : decode cX11_isFree 3 = .ok (.aload_n 0, 1) := by decide +kernel
theorem dX11_isFree_4 : decode cX11_isFree 4 = .ok (.getfield 99, 3) := by decide +kernel
theorem dX11_isFree_7 : decode cX11_isFree 7 = .ok (.if_icmp .ge 36, 3) := by decide +kernel
theorem dX11_isFree_10 : decode cX11_isFree 10 = .ok (.aload_n 0, 1) := by decide +kernel
theorem dX11_isFree_11 : decode cX11_isFree 11 = .ok (.getfield 49, 3) := by decide +kernel
theorem dX11_isFree_14 : decode cX11_isFree 14 = .ok (.iload_n 3, 1) := by decide +kernel
theorem dX11_isFree_15 : decode cX11_isFree 15 = .ok (.aaload, 1) := by decide +kernel
theorem dX11_isFree_16 : decode cX11_isFree 16 = .ok (.iconst 1, 1) := by decide +kernel
theorem dX11_isFree_17 : decode cX11_isFree 17 = .ok (.iaload, 1) := by decide +kernel
theorem dX11_isFree_18 : decode cX11_isFree 18 = .ok (.iload_n 1, 1) := by decide +kernel
theorem dX11_isFree_19 : decode cX11_isFree 19 = .ok (.if_icmp .ne 18, 3) := by decide +kernel
theorem dX11_isFree_22 : decode cX11_isFree 22 = .ok (.aload_n 2, 1) := by decide +kernel
theorem dX11_isFree_23 : decode cX11_isFree 23 = .ok (.aload_n 0, 1) := by decide +kernel
theorem dX11_isFree_24 : decode cX11_isFree 24 = .ok (.getfield 49, 3) := by decide +kernel
theorem dX11_isFree_27 : decode cX11_isFree 27 = .ok (.iload_n 3, 1) := by decide +kernel
theorem dX11_isFree_28 : decode cX11_isFree 28 = .ok (.aaload, 1) := by decide +kernel
theorem dX11_isFree_29 : decode cX11_isFree 29 = .ok (.iconst 0, 1) := by decide +kernel
theorem dX11_isFree_30 : decode cX11_isFree 30 = .ok (.iaload, 1) := by decide +kernel
theorem dX11_isFree_31 : decode cX11_isFree 31 = .ok (.baload, 1) := by decide +kernel
theorem dX11_isFree_32 : decode cX11_isFree 32 = .ok (.ifCond .ne 5, 3) := by decide +kernel
theorem dX11_isFree_35 : decode cX11_isFree 35 = .ok (.iconst 0, 1) := by decide +kernel
theorem dX11_isFree_36 : decode cX11_isFree 36 = .ok (.ireturn, 1) := by decide +kernel
theorem dX11_isFree_37 : decode cX11_isFree 37 = .ok (.iinc 3 1, 3) := by decide +kernel
theorem dX11_isFree_40 : decode cX11_isFree 40 = .ok (.goto (-38), 3) := by decide +kernel
theorem dX11_isFree_43 : decode cX11_isFree 43 = .ok (.iconst 1, 1) := by decide +kernel
theorem dX11_isFree_44 : decode cX11_isFree 44 = .ok (.ireturn, 1) := by decide +kernel
theorem dX11_layEarly_0 : decode cX11_layEarly 0 = .ok (.aload_n 0, 1) := by decide +kernel
theorem dX11_layEarly_1 : decode cX11_layEarly 1 = .ok (.iconst 0, 1) := by decide +kernel
theorem dX11_layEarly_2 : decode cX11_layEarly 2 = .ok (.putfield 133, 3) := by decide +kernel
theorem dX11_layEarly_5 : decode cX11_layEarly 5 = .ok (.iconst 0, 1) := by decide +kernel
theorem dX11_layEarly_6 : decode cX11_layEarly 6 = .ok (.istore_n 1, 1) := by decide +kernel
theorem dX11_layEarly_7 : decode cX11_layEarly 7 = .ok (.iload_n 1, 1) := by decide +kernel
theorem dX11_layEarly_8 : decode cX11_layEarly 8 = .ok (.aload_n 0, 1) := by decide +kernel
theorem dX11_layEarly_9 : decode cX11_layEarly 9 = .ok (.getfield 96, 3) := by decide +kernel
theorem dX11_layEarly_12 : decode cX11_layEarly 12 = .ok (.if_icmp .ge 113, 3) := by decide +kernel
theorem dX11_layEarly_15 : decode cX11_layEarly 15 = .ok (.aload_n 0, 1) := by decide +kernel
theorem dX11_layEarly_16 : decode cX11_layEarly 16 = .ok (.getfield 52, 3) := by decide +kernel
theorem dX11_layEarly_19 : decode cX11_layEarly 19 = .ok (.iload_n 1, 1) := by decide +kernel
theorem dX11_layEarly_20 : decode cX11_layEarly 20 = .ok (.iaload, 1) := by decide +kernel
theorem dX11_layEarly_21 : decode cX11_layEarly 21 = .ok (.istore_n 2, 1) := by decide +kernel
theorem dX11_layEarly_22 : decode cX11_layEarly 22 = .ok (.aload_n 0, 1) := by decide +kernel
theorem dX11_layEarly_23 : decode cX11_layEarly 23 = .ok (.getfield 55, 3) := by decide +kernel
theorem dX11_layEarly_26 : decode cX11_layEarly 26 = .ok (.iconst 0, 1) := by decide +kernel
theorem dX11_layEarly_27 : decode cX11_layEarly 27 = .ok (.aaload, 1) := by decide +kernel
theorem dX11_layEarly_28 : decode cX11_layEarly 28 = .ok (.iload_n 2, 1) := by decide +kernel
theorem dX11_layEarly_29 : decode cX11_layEarly 29 = .ok (.aload_n 0, 1) := by decide +kernel
theorem dX11_layEarly_30 : decode cX11_layEarly 30 = .ok (.getfield 42, 3) := by decide +kernel
theorem dX11_layEarly_33 : decode cX11_layEarly 33 = .ok (.iload_n 2, 1) := by decide +kernel
theorem dX11_layEarly_34 : decode cX11_layEarly 34 = .ok (.baload, 1) := by decide +kernel
theorem dX11_layEarly_35 : decode cX11_layEarly 35 = .ok (.ifCond .eq 14, 3) := by decide +kernel
theorem dX11_layEarly_38 : decode cX11_layEarly 38 = .ok (.aload_n 0, 1) := by decide +kernel
theorem dX11_layEarly_39 : decode cX11_layEarly 39 = .ok (.getfield 46, 3) := by decide +kernel
theorem dX11_layEarly_42 : decode cX11_layEarly 42 = .ok (.iconst 0, 1) := by decide +kernel
theorem dX11_layEarly_43 : decode cX11_layEarly 43 = .ok (.aaload, 1) := by decide +kernel
theorem dX11_layEarly_44 : decode cX11_layEarly 44 = .ok (.iload_n 2, 1) := by decide +kernel
theorem dX11_layEarly_45 : decode cX11_layEarly 45 = .ok (.iaload, 1) := by decide +kernel
theorem dX11_layEarly_46 : decode cX11_layEarly 46 = .ok (.goto 12, 3) := by decide +kernel
theorem dX11_layEarly_49 : decode cX11_layEarly 49 = .ok (.aload_n 0, 1) := by decide +kernel
theorem dX11_layEarly_50 : decode cX11_layEarly 50 = .ok (.iload_n 2, 1) := by decide +kernel
theorem dX11_layEarly_51 : decode cX11_layEarly 51 = .ok (.aload_n 0, 1) := by decide +kernel
theorem dX11_layEarly_52 : decode cX11_layEarly 52 = .ok (.getfield 55, 3) := by decide +kernel
theorem dX11_layEarly_55 : decode cX11_layEarly 55 = .ok (.invokevirtual 136, 3) := by decide +kernel
theorem dX11_layEarly_58 : decode cX11_layEarly 58 = .ok (.iastore, 1) := by decide +kernel
theorem dX11_layEarly_59 : decode cX11_layEarly 59 = .ok (.aload_n 0, 1) := by decide +kernel
theorem dX11_layEarly_60 : decode cX11_layEarly 60 = .ok (.getfield 55, 3) := by decide +kernel
theorem dX11_layEarly_63 : decode cX11_layEarly 63 = .ok (.iconst 1, 1) := by decide +kernel
theorem dX11_layEarly_64 : decode cX11_layEarly 64 = .ok (.aaload, 1) := by decide +kernel
theorem dX11_layEarly_65 : decode cX11_layEarly 65 = .ok (.iload_n 2, 1) := by decide +kernel
theorem dX11_layEarly_66 : decode cX11_layEarly 66 = .ok (.aload_n 0, 1) := by decide +kernel
theorem dX11_layEarly_67 : decode cX11_layEarly 67 = .ok (.getfield 42, 3) := by decide +kernel
theorem dX11_layEarly_70 : decode cX11_layEarly 70 = .ok (.iload_n 2, 1) := by decide +kernel
theorem dX11_layEarly_71 : decode cX11_layEarly 71 = .ok (.baload, 1) := by decide +kernel
theorem dX11_layEarly_72 : decode cX11_layEarly 72 = .ok (.ifCond .eq 14, 3) := by decide +kernel
theorem dX11_layEarly_75 : decode cX11_layEarly 75 = .ok (.aload_n 0, 1) := by decide +kernel
theorem dX11_layEarly_76 : decode cX11_layEarly 76 = .ok (.getfield 46, 3) := by decide +kernel
theorem dX11_layEarly_79 : decode cX11_layEarly 79 = .ok (.iconst 1, 1) := by decide +kernel
theorem dX11_layEarly_80 : decode cX11_layEarly 80 = .ok (.aaload, 1) := by decide +kernel
theorem dX11_layEarly_81 : decode cX11_layEarly 81 = .ok (.iload_n 2, 1) := by decide +kernel
theorem dX11_layEarly_82 : decode cX11_layEarly 82 = .ok (.iaload, 1) := by decide +kernel
theorem dX11_layEarly_83 : decode cX11_layEarly 83 = .ok (.goto 16, 3) := by decide +kernel
theorem dX11_layEarly_86 : decode cX11_layEarly 86 = .ok (.aload_n 0, 1) := by decide +kernel
theorem dX11_layEarly_87 : decode cX11_layEarly 87 = .ok (.iload_n 2, 1) := by decide +kernel
theorem dX11_layEarly_88 : decode cX11_layEarly 88 = .ok (.aload_n 0, 1) := by decide +kernel
theorem dX11_layEarly_89 : decode cX11_layEarly 89 = .ok (.getfield 55, 3) := by decide +kernel
theorem dX11_layEarly_92 : decode cX11_layEarly 92 = .ok (.iconst 0, 1) := by decide +kernel
theorem dX11_layEarly_93 : decode cX11_layEarly 93 = .ok (.aaload, 1) := by decide +kernel
theorem dX11_layEarly_94 : decode cX11_layEarly 94 = .ok (.iload_n 2, 1) := by decide +kernel
theorem dX11_layEarly_95 : decode cX11_layEarly 95 = .ok (.iaload, 1) := by decide +kernel
theorem dX11_layEarly_96 : decode cX11_layEarly 96 = .ok (.invokevirtual 113, 3) := by decide +kernel
theorem dX11_layEarly_99 : decode cX11_layEarly 99 = .ok (.iastore, 1) := by decide +kernel
theorem dX11_layEarly_100 : decode cX11_layEarly 100 = .ok (.aload_n 0, 1) := by decide +kernel
theorem dX11_layEarly_101 : decode cX11_layEarly 101 = .ok (.aload_n 0, 1) := by decide +kernel
theorem dX11_layEarly_102 : decode cX11_layEarly 102 = .ok (.getfield 133, 3) := by decide +kernel
theorem dX11_layEarly_105 : decode cX11_layEarly 105 = .ok (.aload_n 0, 1) := by decide +kernel
theorem dX11_layEarly_106 : decode cX11_layEarly 106 = .ok (.getfield 55, 3) := by decide +kernel
theorem dX11_layEarly_109 : decode cX11_layEarly 109 = .ok (.iconst 1, 1) := by decide +kernel
theorem dX11_layEarly_110 : decode cX11_layEarly 110 = .ok (.aaload, 1) := by decide +kernel
theorem dX11_layEarly_111 : decode cX11_layEarly 111 = .ok (.iload_n 2, 1) := by decide +kernel
theorem dX11_layEarly_112 : decode cX11_layEarly 112 = .ok (.iaload, 1) := by decide +kernel
theorem dX11_layEarly_113 : decode cX11_layEarly 113 = .ok (.invokestatic 116, 3) := by decide +kernel
theorem dX11_layEarly_116 : decode cX11_layEarly 116 = .ok (.putfield 133, 3) := by decide +kernel
theorem dX11_layEarly_119 : decode cX11_layEarly 119 = .ok (.iinc 1 1, 3) := by decide +kernel
theorem dX11_layEarly_122 : decode cX11_layEarly 122 = .ok (.goto (-115), 3) := by decide +kernel
theorem dX11_layEarly_125 : decode cX11_layEarly 125 = .ok (.return_, 1) := by decide +kernel
theorem dX11_canBeLate_0 : decode cX11_canBeLate 0 = .ok (.aload_n 0, 1) := by decide +kernel
theorem dX11_canBeLate_1 : decode cX11_canBeLate 1 = .ok (.getfield 27, 3) := by decide +kernel
theorem dX11_canBeLate_4 : decode cX11_canBeLate 4 = .ok (.iload_n 1, 1) := by decide +kernel
theorem dX11_canBeLate_5 : decode cX11_canBeLate 5 = .ok (.iaload, 1) := by decide +kernel
theorem dX11_canBeLate_6 : decode cX11_canBeLate 6 = .ok (.ifCond .le 19, 3) := by decide +kernel
theorem dX11_canBeLate_9 : decode cX11_canBeLate 9 = .ok (.aload_n 0, 1) := by decide +kernel
theorem dX11_canBeLate_10 : decode cX11_canBeLate 10 = .ok (.aload_n 0, 1) := by decide +kernel
theorem dX11_canBeLate_11 : decode cX11_canBeLate 11 = .ok (.getfield 30, 3) := by decide +kernel
theorem dX11_canBeLate_14 : decode cX11_canBeLate 14 = .ok (.iload_n 1, 1) := by decide +kernel
theorem dX11_canBeLate_15 : decode cX11_canBeLate 15 = .ok (.iaload, 1) := by decide +kernel
theorem dX11_canBeLate_16 : decode cX11_canBeLate 16 = .ok (.iload_n 2, 1) := by decide +kernel
theorem dX11_canBeLate_17 : decode cX11_canBeLate 17 = .ok (.invokevirtual 106, 3) := by decide +kernel
theorem dX11_canBeLate_20 : decode cX11_canBeLate 20 = .ok (.ifCond .ne 5, 3) := by decide +kernel
theorem dX11_canBeLate_23 : decode cX11_canBeLate 23 = .ok (.iconst 0, 1) := by decide +kernel
theorem dX11_canBeLate_24 : decode cX11_canBeLate 24 = .ok (.ireturn, 1) := by decide +kernel
theorem dX11_canBeLate_25 : decode cX11_canBeLate 25 = .ok (.aload_n 0, 1) := by decide +kernel
theorem dX11_canBeLate_26 : decode cX11_canBeLate 26 = .ok (.iload_n 1, 1) := by decide +kernel
theorem dX11_canBeLate_27 : decode cX11_canBeLate 27 = .ok (.iload_n 2, 1) := by decide +kernel
theorem dX11_canBeLate_28 : decode cX11_canBeLate 28 = .ok (.invokevirtual 113, 3) := by decide +kernel
theorem dX11_canBeLate_31 : decode cX11_canBeLate 31 = .ok (.istore_n 3, 1) := by decide +kernel
theorem dX11_canBeLate_32 : decode cX11_canBeLate 32 = .ok (.iload_n 3, 1) := by decide +kernel
theorem dX11_canBeLate_33 : decode cX11_canBeLate 33 = .ok (.aload_n 0, 1) := by decide +kernel
theorem dX11_canBeLate_34 : decode cX11_canBeLate 34 = .ok (.getfield 133, 3) := by decide +kernel
theorem dX11_canBeLate_37 : decode cX11_canBeLate 37 = .ok (.if_icmp .le 5, 3) := by decide +kernel
theorem dX11_canBeLate_40 : decode cX11_canBeLate 40 = .ok (.iconst 0, 1) := by decide +kernel
theorem dX11_canBeLate_41 : decode cX11_canBeLate 41 = .ok (.ireturn, 1) := by decide +kernel
theorem dX11_canBeLate_42 : decode cX11_canBeLate 42 = .ok (.iconst 0, 1) := by decide +kernel
theorem dX11_canBeLate_43 : decode cX11_canBeLate 43 = .ok (.istore 4, 2) := by decide +kernel
theorem dX11_canBeLate_45 : decode cX11_canBeLate 45 = .ok (.iload 4, 2) := by decide +kernel
theorem dX11_canBeLate_47 : decode cX11_canBeLate 47 = .ok (.aload_n 0, 1) := by decide +kernel
theorem dX11_canBeLate_48 : decode cX11_canBeLate 48 = .ok (.getfield 99, 3) := by decide +kernel
theorem dX11_canBeLate_51 : decode cX11_canBeLate 51 = .ok (.if_icmp .ge 117, 3) := by decide +kernel
theorem dX11_canBeLate_54 : decode cX11_canBeLate 54 = .ok (.aload_n 0, 1) := by decide +kernel
theorem dX11_canBeLate_55 : decode cX11_canBeLate 55 = .ok (.getfield 49, 3) := by decide +kernel
theorem dX11_canBeLate_58 : decode cX11_canBeLate 58 = .ok (.iload 4, 2) := by decide +kernel
theorem dX11_canBeLate_60 : decode cX11_canBeLate 60 = .ok (.aaload, 1) := by decide +kernel
theorem dX11_canBeLate_61 : decode cX11_canBeLate 61 = .ok (.iconst 1, 1) := by decide +kernel
theorem dX11_canBeLate_62 : decode cX11_canBeLate 62 = .ok (.iaload, 1) := by decide +kernel
theorem dX11_canBeLate_63 : decode cX11_canBeLate 63 = .ok (.istore 5, 2) := by decide +kernel
theorem dX11_canBeLate_65 : decode cX11_canBeLate 65 = .ok (.aload_n 0, 1) := by decide +kernel
theorem dX11_canBeLate_66 : decode cX11_canBeLate 66 = .ok (.getfield 49, 3) := by decide +kernel
theorem dX11_canBeLate_69 : decode cX11_canBeLate 69 = .ok (.iload 4, 2) := by decide +kernel
theorem dX11_canBeLate_71 : decode cX11_canBeLate 71 = .ok (.aaload, 1) := by decide +kernel
theorem dX11_canBeLate_72 : decode cX11_canBeLate 72 = .ok (.iconst 0, 1) := by decide +kernel
theorem dX11_canBeLate_73 : decode cX11_canBeLate 73 = .ok (.iaload, 1) := by decide +kernel
theorem dX11_canBeLate_74 : decode cX11_canBeLate 74 = .ok (.iload_n 1, 1) := by decide +kernel
theorem dX11_canBeLate_75 : decode cX11_canBeLate 75 = .ok (.if_icmp .ne 87, 3) := by decide +kernel
theorem dX11_canBeLate_78 : decode cX11_canBeLate 78 = .ok (.aload_n 0, 1) := by decide +kernel
theorem dX11_canBeLate_79 : decode cX11_canBeLate 79 = .ok (.getfield 42, 3) := by decide +kernel
theorem dX11_canBeLate_82 : decode cX11_canBeLate 82 = .ok (.iload 5, 2) := by decide +kernel
theorem dX11_canBeLate_84 : decode cX11_canBeLate 84 = .ok (.baload, 1) := by decide +kernel
theorem dX11_canBeLate_85 : decode cX11_canBeLate 85 = .ok (.ifCond .eq 6, 3) := by decide +kernel
theorem dX11_canBeLate_88 : decode cX11_canBeLate 88 = .ok (.goto 74, 3) := by decide +kernel
theorem dX11_canBeLate_91 : decode cX11_canBeLate 91 = .ok (.aload_n 0, 1) := by decide +kernel
theorem dX11_canBeLate_92 : decode cX11_canBeLate 92 = .ok (.getfield 49, 3) := by decide +kernel
theorem dX11_canBeLate_95 : decode cX11_canBeLate 95 = .ok (.iload 4, 2) := by decide +kernel
theorem dX11_canBeLate_97 : decode cX11_canBeLate 97 = .ok (.aaload, 1) := by decide +kernel
theorem dX11_canBeLate_98 : decode cX11_canBeLate 98 = .ok (.iconst 3, 1) := by decide +kernel
theorem dX11_canBeLate_99 : decode cX11_canBeLate 99 = .ok (.iaload, 1) := by decide +kernel
theorem dX11_canBeLate_100 : decode cX11_canBeLate 100 = .ok (.aload_n 0, 1) := by decide +kernel
theorem dX11_canBeLate_101 : decode cX11_canBeLate 101 = .ok (.getfield 49, 3) := by decide +kernel
theorem dX11_canBeLate_104 : decode cX11_canBeLate 104 = .ok (.iload 4, 2) := by decide +kernel
theorem dX11_canBeLate_106 : decode cX11_canBeLate 106 = .ok (.aaload, 1) := by decide +kernel
theorem dX11_canBeLate_107 : decode cX11_canBeLate 107 = .ok (.iconst 2, 1) := by decide +kernel
theorem dX11_canBeLate_108 : decode cX11_canBeLate 108 = .ok (.iaload, 1) := by decide +kernel
theorem dX11_canBeLate_109 : decode cX11_canBeLate 109 = .ok (.iconst 1, 1) := by decide +kernel
theorem dX11_canBeLate_110 : decode cX11_canBeLate 110 = .ok (.if_icmp .ne 7, 3) := by decide +kernel
theorem dX11_canBeLate_113 : decode cX11_canBeLate 113 = .ok (.iload_n 2, 1) := by decide +kernel
theorem dX11_canBeLate_114 : decode cX11_canBeLate 114 = .ok (.goto 4, 3) := by decide +kernel
theorem dX11_canBeLate_117 : decode cX11_canBeLate 117 = .ok (.iload_n 3, 1) := by decide +kernel
theorem dX11_canBeLate_118 : decode cX11_canBeLate 118 = .ok (.iadd, 1) := by decide +kernel
theorem dX11_canBeLate_119 : decode cX11_canBeLate 119 = .ok (.istore 6, 2) := by decide +kernel
theorem dX11_canBeLate_121 : decode cX11_canBeLate 121 = .ok (.iload 6, 2) := by decide +kernel
theorem dX11_canBeLate_123 : decode cX11_canBeLate 123 = .ok (.aload_n 0, 1) := by decide +kernel
theorem dX11_canBeLate_124 : decode cX11_canBeLate 124 = .ok (.getfield 49, 3) := by decide +kernel
theorem dX11_canBeLate_127 : decode cX11_canBeLate 127 = .ok (.iload 4, 2) := by decide +kernel
theorem dX11_canBeLate_129 : decode cX11_canBeLate 129 = .ok (.aaload, 1) := by decide +kernel
theorem dX11_canBeLate_130 : decode cX11_canBeLate 130 = .ok (.iconst 2, 1) := by decide +kernel
theorem dX11_canBeLate_131 : decode cX11_canBeLate 131 = .ok (.iaload, 1) := by decide +kernel
theorem dX11_canBeLate_132 : decode cX11_canBeLate 132 = .ok (.iconst 1, 1) := by decide +kernel
theorem dX11_canBeLate_133 : decode cX11_canBeLate 133 = .ok (.if_icmp .gt 15, 3) := by decide +kernel
theorem dX11_canBeLate_136 : decode cX11_canBeLate 136 = .ok (.aload_n 0, 1) := by decide +kernel
theorem dX11_canBeLate_137 : decode cX11_canBeLate 137 = .ok (.getfield 58, 3) := by decide +kernel
theorem dX11_canBeLate_140 : decode cX11_canBeLate 140 = .ok (.iconst 0, 1) := by decide +kernel
theorem dX11_canBeLate_141 : decode cX11_canBeLate 141 = .ok (.aaload, 1) := by decide +kernel
theorem dX11_canBeLate_142 : decode cX11_canBeLate 142 = .ok (.iload 5, 2) := by decide +kernel
theorem dX11_canBeLate_144 : decode cX11_canBeLate 144 = .ok (.iaload, 1) := by decide +kernel
theorem dX11_canBeLate_145 : decode cX11_canBeLate 145 = .ok (.goto 12, 3) := by decide +kernel
theorem dX11_canBeLate_148 : decode cX11_canBeLate 148 = .ok (.aload_n 0, 1) := by decide +kernel
theorem dX11_canBeLate_149 : decode cX11_canBeLate 149 = .ok (.getfield 58, 3) := by decide +kernel
theorem dX11_canBeLate_152 : decode cX11_canBeLate 152 = .ok (.iconst 1, 1) := by decide +kernel
theorem dX11_canBeLate_153 : decode cX11_canBeLate 153 = .ok (.aaload, 1) := by decide +kernel
theorem dX11_canBeLate_154 : decode cX11_canBeLate 154 = .ok (.iload 5, 2) := by decide +kernel
theorem dX11_canBeLate_156 : decode cX11_canBeLate 156 = .ok (.iaload, 1) := by decide +kernel
theorem dX11_canBeLate_157 : decode cX11_canBeLate 157 = .ok (.if_icmp .le 5, 3) := by decide +kernel
theorem dX11_canBeLate_160 : decode cX11_canBeLate 160 = .ok (.iconst 0, 1) := by decide +kernel
theorem dX11_canBeLate_161 : decode cX11_canBeLate 161 = .ok (.ireturn, 1) := by decide +kernel
theorem dX11_canBeLate_162 : decode cX11_canBeLate 162 = .ok (.iinc 4 1, 3) := by decide +kernel
theorem dX11_canBeLate_165 : decode cX11_canBeLate 165 = .ok (.goto (-120), 3) := by decide +kernel
theorem dX11_canBeLate_168 : decode cX11_canBeLate 168 = .ok (.iconst 1, 1) := by decide +kernel
theorem dX11_canBeLate_169 : decode cX11_canBeLate 169 = .ok (.ireturn, 1) := by decide +kernel
theorem dX11_layLate_0 : decode cX11_layLate 0 = .ok (.aload_n 0, 1) := by decide +kernel
theorem dX11_layLate_1 : decode cX11_layLate 1 = .ok (.getfield 96, 3) := by decide +kernel
theorem dX11_layLate_4 : decode cX11_layLate 4 = .ok (.iconst 1, 1) := by decide +kernel
theorem dX11_layLate_5 : decode cX11_layLate 5 = .ok (.isub, 1) := by decide +kernel
theorem dX11_layLate_6 : decode cX11_layLate 6 = .ok (.istore_n 1, 1) := by decide +kernel
theorem dX11_layLate_7 : decode cX11_layLate 7 = .ok (.iload_n 1, 1) := by decide +kernel
theorem dX11_layLate_8 : decode cX11_layLate 8 = .ok (.ifCond .lt 209, 3) := by decide +kernel
theorem dX11_layLate_11 : decode cX11_layLate 11 = .ok (.aload_n 0, 1) := by decide +kernel
theorem dX11_layLate_12 : decode cX11_layLate 12 = .ok (.getfield 52, 3) := by decide +kernel
theorem dX11_layLate_15 : decode cX11_layLate 15 = .ok (.iload_n 1, 1) := by decide +kernel
theorem dX11_layLate_16 : decode cX11_layLate 16 = .ok (.iaload, 1) := by decide +kernel
theorem dX11_layLate_17 : decode cX11_layLate 17 = .ok (.istore_n 2, 1) := by decide +kernel
theorem dX11_layLate_18 : decode cX11_layLate 18 = .ok (.aload_n 0, 1) := by decide +kernel
theorem dX11_layLate_19 : decode cX11_layLate 19 = .ok (.getfield 133, 3) := by decide +kernel
theorem dX11_layLate_22 : decode cX11_layLate 22 = .ok (.istore_n 3, 1) := by decide +kernel
theorem dX11_layLate_23 : decode cX11_layLate 23 = .ok (.aload_n 0, 1) := by decide +kernel
theorem dX11_layLate_24 : decode cX11_layLate 24 = .ok (.getfield 42, 3) := by decide +kernel
theorem dX11_layLate_27 : decode cX11_layLate 27 = .ok (.iload_n 2, 1) := by decide +kernel
theorem dX11_layLate_28 : decode cX11_layLate 28 = .ok (.baload, 1) := by decide +kernel
theorem dX11_layLate_29 : decode cX11_layLate 29 = .ok (.ifCond .ne 30, 3) := by decide +kernel
theorem dX11_layLate_32 : decode cX11_layLate 32 = .ok (.iload_n 3, 1) := by decide +kernel
theorem dX11_layLate_33 : decode cX11_layLate 33 = .ok (.aload_n 0, 1) := by decide +kernel
theorem dX11_layLate_34 : decode cX11_layLate 34 = .ok (.getfield 55, 3) := by decide +kernel
theorem dX11_layLate_37 : decode cX11_layLate 37 = .ok (.iconst 0, 1) := by decide +kernel
theorem dX11_layLate_38 : decode cX11_layLate 38 = .ok (.aaload, 1) := by decide +kernel
theorem dX11_layLate_39 : decode cX11_layLate 39 = .ok (.iload_n 2, 1) := by decide +kernel
theorem dX11_layLate_40 : decode cX11_layLate 40 = .ok (.iaload, 1) := by decide +kernel
theorem dX11_layLate_41 : decode cX11_layLate 41 = .ok (.if_icmp .le 18, 3) := by decide +kernel
theorem dX11_layLate_44 : decode cX11_layLate 44 = .ok (.aload_n 0, 1) := by decide +kernel
theorem dX11_layLate_45 : decode cX11_layLate 45 = .ok (.iload_n 2, 1) := by decide +kernel
theorem dX11_layLate_46 : decode cX11_layLate 46 = .ok (.iload_n 3, 1) := by decide +kernel
theorem dX11_layLate_47 : decode cX11_layLate 47 = .ok (.invokevirtual 140, 3) := by decide +kernel
theorem dX11_layLate_50 : decode cX11_layLate 50 = .ok (.ifCond .ne 9, 3) := by decide +kernel
theorem dX11_layLate_53 : decode cX11_layLate 53 = .ok (.iinc 3 (-1), 3) := by decide +kernel
theorem dX11_layLate_56 : decode cX11_layLate 56 = .ok (.goto (-33), 3) := by decide +kernel
theorem dX11_layLate_59 : decode cX11_layLate 59 = .ok (.iload_n 3, 1) := by decide +kernel
theorem dX11_layLate_60 : decode cX11_layLate 60 = .ok (.aload_n 0, 1) := by decide +kernel
theorem dX11_layLate_61 : decode cX11_layLate 61 = .ok (.getfield 55, 3) := by decide +kernel
theorem dX11_layLate_64 : decode cX11_layLate 64 = .ok (.iconst 0, 1) := by decide +kernel
theorem dX11_layLate_65 : decode cX11_layLate 65 = .ok (.aaload, 1) := by decide +kernel
theorem dX11_layLate_66 : decode cX11_layLate 66 = .ok (.iload_n 2, 1) := by decide +kernel
theorem dX11_layLate_67 : decode cX11_layLate 67 = .ok (.iaload, 1) := by decide +kernel
theorem dX11_layLate_68 : decode cX11_layLate 68 = .ok (.invokestatic 116, 3) := by decide +kernel
theorem dX11_layLate_71 : decode cX11_layLate 71 = .ok (.istore_n 3, 1) := by decide +kernel
theorem dX11_layLate_72 : decode cX11_layLate 72 = .ok (.aload_n 0, 1) := by decide +kernel
theorem dX11_layLate_73 : decode cX11_layLate 73 = .ok (.getfield 58, 3) := by decide +kernel
theorem dX11_layLate_76 : decode cX11_layLate 76 = .ok (.iconst 0, 1) := by decide +kernel
theorem dX11_layLate_77 : decode cX11_layLate 77 = .ok (.aaload, 1) := by decide +kernel
theorem dX11_layLate_78 : decode cX11_layLate 78 = .ok (.iload_n 2, 1) := by decide +kernel
theorem dX11_layLate_79 : decode cX11_layLate 79 = .ok (.aload_n 0, 1) := by decide +kernel
theorem dX11_layLate_80 : decode cX11_layLate 80 = .ok (.getfield 42, 3) := by decide +kernel
theorem dX11_layLate_83 : decode cX11_layLate 83 = .ok (.iload_n 2, 1) := by decide +kernel
theorem dX11_layLate_84 : decode cX11_layLate 84 = .ok (.baload, 1) := by decide +kernel
theorem dX11_layLate_85 : decode cX11_layLate 85 = .ok (.ifCond .eq 14, 3) := by decide +kernel
theorem dX11_layLate_88 : decode cX11_layLate 88 = .ok (.aload_n 0, 1) := by decide +kernel
theorem dX11_layLate_89 : decode cX11_layLate 89 = .ok (.getfield 46, 3) := by decide +kernel
theorem dX11_layLate_92 : decode cX11_layLate 92 = .ok (.iconst 0, 1) := by decide +kernel
theorem dX11_layLate_93 : decode cX11_layLate 93 = .ok (.aaload, 1) := by decide +kernel
theorem dX11_layLate_94 : decode cX11_layLate 94 = .ok (.iload_n 2, 1) := by decide +kernel
theorem dX11_layLate_95 : decode cX11_layLate 95 = .ok (.iaload, 1) := by decide +kernel
theorem dX11_layLate_96 : decode cX11_layLate 96 = .ok (.goto 4, 3) := by decide +kernel
theorem dX11_layLate_99 : decode cX11_layLate 99 = .ok (.iload_n 3, 1) := by decide +kernel
theorem dX11_layLate_100 : decode cX11_layLate 100 = .ok (.iastore, 1) := by decide +kernel
theorem dX11_layLate_101 : decode cX11_layLate 101 = .ok (.aload_n 0, 1) := by decide +kernel
theorem dX11_layLate_102 : decode cX11_layLate 102 = .ok (.getfield 58, 3) := by decide +kernel
theorem dX11_layLate_105 : decode cX11_layLate 105 = .ok (.iconst 1, 1) := by decide +kernel
theorem dX11_layLate_106 : decode cX11_layLate 106 = .ok (.aaload, 1) := by decide +kernel
theorem dX11_layLate_107 : decode cX11_layLate 107 = .ok (.iload_n 2, 1) := by decide +kernel
theorem dX11_layLate_108 : decode cX11_layLate 108 = .ok (.aload_n 0, 1) := by decide +kernel
theorem dX11_layLate_109 : decode cX11_layLate 109 = .ok (.getfield 42, 3) := by decide +kernel
theorem dX11_layLate_112 : decode cX11_layLate 112 = .ok (.iload_n 2, 1) := by decide +kernel
theorem dX11_layLate_113 : decode cX11_layLate 113 = .ok (.baload, 1) := by decide +kernel
theorem dX11_layLate_114 : decode cX11_layLate 114 = .ok (.ifCond .eq 14, 3) := by decide +kernel
theorem dX11_layLate_117 : decode cX11_layLate 117 = .ok (.aload_n 0, 1) := by decide +kernel
theorem dX11_layLate_118 : decode cX11_layLate 118 = .ok (.getfield 46, 3) := by decide +kernel
theorem dX11_layLate_121 : decode cX11_layLate 121 = .ok (.iconst 1, 1) := by decide +kernel
theorem dX11_layLate_122 : decode cX11_layLate 122 = .ok (.aaload, 1) := by decide +kernel
theorem dX11_layLate_123 : decode cX11_layLate 123 = .ok (.iload_n 2, 1) := by decide +kernel
theorem dX11_layLate_124 : decode cX11_layLate 124 = .ok (.iaload, 1) := by decide +kernel
theorem dX11_layLate_125 : decode cX11_layLate 125 = .ok (.goto 9, 3) := by decide +kernel
theorem dX11_layLate_128 : decode cX11_layLate 128 = .ok (.aload_n 0, 1) := by decide +kernel
theorem dX11_layLate_129 : decode cX11_layLate 129 = .ok (.iload_n 2, 1) := by decide +kernel
theorem dX11_layLate_130 : decode cX11_layLate 130 = .ok (.iload_n 3, 1) := by decide +kernel
theorem dX11_layLate_131 : decode cX11_layLate 131 = .ok (.invokevirtual 113, 3) := by decide +kernel
theorem dX11_layLate_134 : decode cX11_layLate 134 = .ok (.iastore, 1) := by decide +kernel
theorem dX11_layLate_135 : decode cX11_layLate 135 = .ok (.aload_n 0, 1) := by decide +kernel
theorem dX11_layLate_136 : decode cX11_layLate 136 = .ok (.getfield 61, 3) := by decide +kernel
theorem dX11_layLate_139 : decode cX11_layLate 139 = .ok (.iload_n 2, 1) := by decide +kernel
theorem dX11_layLate_140 : decode cX11_layLate 140 = .ok (.iconst 0, 1) := by decide +kernel
theorem dX11_layLate_141 : decode cX11_layLate 141 = .ok (.iastore, 1) := by decide +kernel
theorem dX11_layLate_142 : decode cX11_layLate 142 = .ok (.aload_n 0, 1) := by decide +kernel
theorem dX11_layLate_143 : decode cX11_layLate 143 = .ok (.getfield 55, 3) := by decide +kernel
theorem dX11_layLate_146 : decode cX11_layLate 146 = .ok (.iconst 0, 1) := by decide +kernel
theorem dX11_layLate_147 : decode cX11_layLate 147 = .ok (.aaload, 1) := by decide +kernel
theorem dX11_layLate_148 : decode cX11_layLate 148 = .ok (.iload_n 2, 1) := by decide +kernel
theorem dX11_layLate_149 : decode cX11_layLate 149 = .ok (.iaload, 1) := by decide +kernel
theorem dX11_layLate_150 : decode cX11_layLate 150 = .ok (.istore 4, 2) := by decide +kernel
theorem dX11_layLate_152 : decode cX11_layLate 152 = .ok (.iload 4, 2) := by decide +kernel
theorem dX11_layLate_154 : decode cX11_layLate 154 = .ok (.iload_n 3, 1) := by decide +kernel
theorem dX11_layLate_155 : decode cX11_layLate 155 = .ok (.if_icmp .ge 56, 3) := by decide +kernel
theorem dX11_layLate_158 : decode cX11_layLate 158 = .ok (.aload_n 0, 1) := by decide +kernel
theorem dX11_layLate_159 : decode cX11_layLate 159 = .ok (.getfield 42, 3) := by decide +kernel
theorem dX11_layLate_162 : decode cX11_layLate 162 = .ok (.iload_n 2, 1) := by decide +kernel
theorem dX11_layLate_163 : decode cX11_layLate 163 = .ok (.baload, 1) := by decide +kernel
theorem dX11_layLate_164 : decode cX11_layLate 164 = .ok (.ifCond .ne 47, 3) := by decide +kernel
theorem dX11_layLate_167 : decode cX11_layLate 167 = .ok (.aload_n 0, 1) := by decide +kernel
theorem dX11_layLate_168 : decode cX11_layLate 168 = .ok (.getfield 61, 3) := by decide +kernel
theorem dX11_layLate_171 : decode cX11_layLate 171 = .ok (.iload_n 2, 1) := by decide +kernel
theorem dX11_layLate_172 : decode cX11_layLate 172 = .ok (.dup2, 1) := by decide +kernel
theorem dX11_layLate_173 : decode cX11_layLate 173 = .ok (.iaload, 1) := by decide +kernel
theorem dX11_layLate_174 : decode cX11_layLate 174 = .ok (.aload_n 0, 1) := by decide +kernel
theorem dX11_layLate_175 : decode cX11_layLate 175 = .ok (.getfield 27, 3) := by decide +kernel
theorem dX11_layLate_178 : decode cX11_layLate 178 = .ok (.iload_n 2, 1) := by decide +kernel
theorem dX11_layLate_179 : decode cX11_layLate 179 = .ok (.iaload, 1) := by decide +kernel
theorem dX11_layLate_180 : decode cX11_layLate 180 = .ok (.ifCond .eq 18, 3) := by decide +kernel
theorem dX11_layLate_183 : decode cX11_layLate 183 = .ok (.aload_n 0, 1) := by decide +kernel
theorem dX11_layLate_184 : decode cX11_layLate 184 = .ok (.aload_n 0, 1) := by decide +kernel
theorem dX11_layLate_185 : decode cX11_layLate 185 = .ok (.getfield 30, 3) := by decide +kernel
theorem dX11_layLate_188 : decode cX11_layLate 188 = .ok (.iload_n 2, 1) := by decide +kernel
theorem dX11_layLate_189 : decode cX11_layLate 189 = .ok (.iaload, 1) := by decide +kernel
theorem dX11_layLate_190 : decode cX11_layLate 190 = .ok (.iload 4, 2) := by decide +kernel
theorem dX11_layLate_192 : decode cX11_layLate 192 = .ok (.invokevirtual 106, 3) := by decide +kernel
theorem dX11_layLate_195 : decode cX11_layLate 195 = .ok (.ifCond .eq 7, 3) := by decide +kernel
theorem dX11_layLate_198 : decode cX11_layLate 198 = .ok (.iconst 1, 1) := by decide +kernel
theorem dX11_layLate_199 : decode cX11_layLate 199 = .ok (.goto 4, 3) := by decide +kernel
theorem dX11_layLate_202 : decode cX11_layLate 202 = .ok (.iconst 0, 1) := by decide +kernel
theorem dX11_layLate_203 : decode cX11_layLate 203 = .ok (.iadd, 1) := by decide +kernel
theorem dX11_layLate_204 : decode cX11_layLate 204 = .ok (.iastore, 1) := by decide +kernel
theorem dX11_layLate_205 : decode cX11_layLate 205 = .ok (.iinc 4 1, 3) := by decide +kernel
theorem dX11_layLate_208 : decode cX11_layLate 208 = .ok (.goto (-56), 3) := by decide +kernel
theorem dX11_layLate_211 : decode cX11_layLate 211 = .ok (.iinc 1 (-1), 3) := by decide +kernel
theorem dX11_layLate_214 : decode cX11_layLate 214 = .ok (.goto (-207), 3) := by decide +kernel
theorem dX11_layLate_217 : decode cX11_layLate 217 = .ok (.return_, 1) := by decide +kernel
theorem dX11_isTooMuch_0 : decode cX11_isTooMuch 0 = .ok (.iconst 0, 1) := by decide +kernel
theorem dX11_isTooMuch_1 : decode cX11_isTooMuch 1 = .ok (.istore_n 2, 1) := by decide +kernel
theorem dX11_isTooMuch_2 : decode cX11_isTooMuch 2 = .ok (.iconst 0, 1) := by decide +kernel
theorem dX11_isTooMuch_3 : decode cX11_isTooMuch 3 = .ok (.istore_n 3, 1) := by decide +kernel
theorem dX11_isTooMuch_4 : decode cX11_isTooMuch 4 = .ok (.iload_n 3, 1) := by decide +kernel
theorem dX11_isTooMuch_5 : decode cX11_isTooMuch 5 = .ok (.iconst 4, 1) := by decide +kernel
theorem dX11_isTooMuch_6 : decode cX11_isTooMuch 6 = .ok (.if_icmp .ge 43, 3) := by decide +kernel
theorem dX11_isTooMuch_9 : decode cX11_isTooMuch 9 = .ok (.iload_n 2, 1) := by decide +kernel
theorem dX11_isTooMuch_10 : decode cX11_isTooMuch 10 = .ok (.aload_n 0, 1) := by decide +kernel
theorem dX11_isTooMuch_11 : decode cX11_isTooMuch 11 = .ok (.getfield 27, 3) := by decide +kernel
theorem dX11_isTooMuch_14 : decode cX11_isTooMuch 14 = .ok (.iload_n 1, 1) := by decide +kernel
theorem dX11_isTooMuch_15 : decode cX11_isTooMuch 15 = .ok (.iaload, 1) := by decide +kernel
theorem dX11_isTooMuch_16 : decode cX11_isTooMuch 16 = .ok (.ifCond .le 24, 3) := by decide +kernel
theorem dX11_isTooMuch_19 : decode cX11_isTooMuch 19 = .ok (.aload_n 0, 1) := by decide +kernel
theorem dX11_isTooMuch_20 : decode cX11_isTooMuch 20 = .ok (.getfield 39, 3) := by decide +kernel
theorem dX11_isTooMuch_23 : decode cX11_isTooMuch 23 = .ok (.iload_n 1, 1) := by decide +kernel
theorem dX11_isTooMuch_24 : decode cX11_isTooMuch 24 = .ok (.aaload, 1) := by decide +kernel
theorem dX11_isTooMuch_25 : decode cX11_isTooMuch 25 = .ok (.iload_n 3, 1) := by decide +kernel
theorem dX11_isTooMuch_26 : decode cX11_isTooMuch 26 = .ok (.iaload, 1) := by decide +kernel
theorem dX11_isTooMuch_27 : decode cX11_isTooMuch 27 = .ok (.aload_n 0, 1) := by decide +kernel
theorem dX11_isTooMuch_28 : decode cX11_isTooMuch 28 = .ok (.getfield 21, 3) := by decide +kernel
theorem dX11_isTooMuch_31 : decode cX11_isTooMuch 31 = .ok (.iload_n 3, 1) := by decide +kernel
theorem dX11_isTooMuch_32 : decode cX11_isTooMuch 32 = .ok (.iaload, 1) := by decide +kernel
theorem dX11_isTooMuch_33 : decode cX11_isTooMuch 33 = .ok (.if_icmp .le 7, 3) := by decide +kernel
theorem dX11_isTooMuch_36 : decode cX11_isTooMuch 36 = .ok (.iconst 1, 1) := by decide +kernel
theorem dX11_isTooMuch_37 : decode cX11_isTooMuch 37 = .ok (.goto 4, 3) := by decide +kernel
theorem dX11_isTooMuch_40 : decode cX11_isTooMuch 40 = .ok (.iconst 0, 1) := by decide +kernel
theorem dX11_isTooMuch_41 : decode cX11_isTooMuch 41 = .ok (.ior, 1) := by decide +kernel
theorem dX11_isTooMuch_42 : decode cX11_isTooMuch 42 = .ok (.istore_n 2, 1) := by decide +kernel
theorem dX11_isTooMuch_43 : decode cX11_isTooMuch 43 = .ok (.iinc 3 1, 3) := by decide +kernel
theorem dX11_isTooMuch_46 : decode cX11_isTooMuch 46 = .ok (.goto (-42), 3) := by decide +kernel
theorem dX11_isTooMuch_49 : decode cX11_isTooMuch 49 = .ok (.iload_n 2, 1) := by decide +kernel
theorem dX11_isTooMuch_50 : decode cX11_isTooMuch 50 = .ok (.ireturn, 1) := by decide +kernel
theorem dX11_use_0 : decode cX11_use 0 = .ok (.iload_n 2, 1) := by decide +kernel
theorem dX11_use_1 : decode cX11_use 1 = .ok (.istore 4, 2) := by decide +kernel
theorem dX11_use_3 : decode cX11_use 3 = .ok (.iload 4, 2) := by decide +kernel
theorem dX11_use_5 : decode cX11_use 5 = .ok (.iload_n 3, 1) := by decide +kernel
theorem dX11_use_6 : decode cX11_use 6 = .ok (.if_icmp .ge 61, 3) := by decide +kernel
theorem dX11_use_9 : decode cX11_use 9 = .ok (.iconst 0, 1) := by decide +kernel
theorem dX11_use_10 : decode cX11_use 10 = .ok (.istore 5, 2) := by decide +kernel
theorem dX11_use_12 : decode cX11_use 12 = .ok (.iload 5, 2) := by decide +kernel
theorem dX11_use_14 : decode cX11_use 14 = .ok (.iconst 4, 1) := by decide +kernel
theorem dX11_use_15 : decode cX11_use 15 = .ok (.if_icmp .ge 46, 3) := by decide +kernel
theorem dX11_use_18 : decode cX11_use 18 = .ok (.aload_n 0, 1) := by decide +kernel
theorem dX11_use_19 : decode cX11_use 19 = .ok (.aload_n 0, 1) := by decide +kernel
theorem dX11_use_20 : decode cX11_use 20 = .ok (.getfield 30, 3) := by decide +kernel
theorem dX11_use_23 : decode cX11_use 23 = .ok (.iload_n 1, 1) := by decide +kernel
theorem dX11_use_24 : decode cX11_use 24 = .ok (.iaload, 1) := by decide +kernel
theorem dX11_use_25 : decode cX11_use 25 = .ok (.iload 4, 2) := by decide +kernel
theorem dX11_use_27 : decode cX11_use 27 = .ok (.invokevirtual 106, 3) := by decide +kernel
theorem dX11_use_30 : decode cX11_use 30 = .ok (.ifCond .eq 31, 3) := by decide +kernel
theorem dX11_use_33 : decode cX11_use 33 = .ok (.aload_n 0, 1) := by decide +kernel
theorem dX11_use_34 : decode cX11_use 34 = .ok (.getfield 70, 3) := by decide +kernel
theorem dX11_use_37 : decode cX11_use 37 = .ok (.iload 5, 2) := by decide +kernel
theorem dX11_use_39 : decode cX11_use 39 = .ok (.aaload, 1) := by decide +kernel
theorem dX11_use_40 : decode cX11_use 40 = .ok (.iload 4, 2) := by decide +kernel
theorem dX11_use_42 : decode cX11_use 42 = .ok (.dup2, 1) := by decide +kernel
theorem dX11_use_43 : decode cX11_use 43 = .ok (.iaload, 1) := by decide +kernel
theorem dX11_use_44 : decode cX11_use 44 = .ok (.aload_n 0, 1) := by decide +kernel
theorem dX11_use_45 : decode cX11_use 45 = .ok (.getfield 39, 3) := by decide +kernel
theorem dX11_use_48 : decode cX11_use 48 = .ok (.iload_n 1, 1) := by decide +kernel
theorem dX11_use_49 : decode cX11_use 49 = .ok (.aaload, 1) := by decide +kernel
theorem dX11_use_50 : decode cX11_use 50 = .ok (.iload 5, 2) := by decide +kernel
theorem dX11_use_52 : decode cX11_use 52 = .ok (.iaload, 1) := by decide +kernel
theorem dX11_use_53 : decode cX11_use 53 = .ok (.iadd, 1) := by decide +kernel
theorem dX11_use_54 : decode cX11_use 54 = .ok (.iastore, 1) := by decide +kernel
theorem dX11_use_55 : decode cX11_use 55 = .ok (.iinc 5 1, 3) := by decide +kernel
theorem dX11_use_58 : decode cX11_use 58 = .ok (.goto (-46), 3) := by decide +kernel
theorem dX11_use_61 : decode cX11_use 61 = .ok (.iinc 4 1, 3) := by decide +kernel
theorem dX11_use_64 : decode cX11_use 64 = .ok (.goto (-61), 3) := by decide +kernel
theorem dX11_use_67 : decode cX11_use 67 = .ok (.return_, 1) := by decide +kernel
theorem dX11_hasCrews_0 : decode cX11_hasCrews 0 = .ok (.aload_n 0, 1) := by decide +kernel
theorem dX11_hasCrews_1 : decode cX11_hasCrews 1 = .ok (.iload_n 1, 1) := by decide +kernel
theorem dX11_hasCrews_2 : decode cX11_hasCrews 2 = .ok (.iload_n 2, 1) := by decide +kernel
theorem dX11_hasCrews_3 : decode cX11_hasCrews 3 = .ok (.invokevirtual 113, 3) := by decide +kernel
theorem dX11_hasCrews_6 : decode cX11_hasCrews 6 = .ok (.istore_n 3, 1) := by decide +kernel
theorem dX11_hasCrews_7 : decode cX11_hasCrews 7 = .ok (.iload_n 2, 1) := by decide +kernel
theorem dX11_hasCrews_8 : decode cX11_hasCrews 8 = .ok (.istore 4, 2) := by decide +kernel
theorem dX11_hasCrews_10 : decode cX11_hasCrews 10 = .ok (.iload 4, 2) := by decide +kernel
theorem dX11_hasCrews_12 : decode cX11_hasCrews 12 = .ok (.iload_n 3, 1) := by decide +kernel
theorem dX11_hasCrews_13 : decode cX11_hasCrews 13 = .ok (.if_icmp .ge 86, 3) := by decide +kernel
theorem dX11_hasCrews_16 : decode cX11_hasCrews 16 = .ok (.aload_n 0, 1) := by decide +kernel
theorem dX11_hasCrews_17 : decode cX11_hasCrews 17 = .ok (.aload_n 0, 1) := by decide +kernel
theorem dX11_hasCrews_18 : decode cX11_hasCrews 18 = .ok (.getfield 30, 3) := by decide +kernel
theorem dX11_hasCrews_21 : decode cX11_hasCrews 21 = .ok (.iload_n 1, 1) := by decide +kernel
theorem dX11_hasCrews_22 : decode cX11_hasCrews 22 = .ok (.iaload, 1) := by decide +kernel
theorem dX11_hasCrews_23 : decode cX11_hasCrews 23 = .ok (.iload 4, 2) := by decide +kernel
theorem dX11_hasCrews_25 : decode cX11_hasCrews 25 = .ok (.invokevirtual 106, 3) := by decide +kernel
theorem dX11_hasCrews_28 : decode cX11_hasCrews 28 = .ok (.ifCond .ne 6, 3) := by decide +kernel
theorem dX11_hasCrews_31 : decode cX11_hasCrews 31 = .ok (.goto 62, 3) := by decide +kernel
theorem dX11_hasCrews_34 : decode cX11_hasCrews 34 = .ok (.iconst 0, 1) := by decide +kernel
theorem dX11_hasCrews_35 : decode cX11_hasCrews 35 = .ok (.istore 5, 2) := by decide +kernel
theorem dX11_hasCrews_37 : decode cX11_hasCrews 37 = .ok (.iload 5, 2) := by decide +kernel
theorem dX11_hasCrews_39 : decode cX11_hasCrews 39 = .ok (.iconst 4, 1) := by decide +kernel
theorem dX11_hasCrews_40 : decode cX11_hasCrews 40 = .ok (.if_icmp .ge 53, 3) := by decide +kernel
theorem dX11_hasCrews_43 : decode cX11_hasCrews 43 = .ok (.aload_n 0, 1) := by decide +kernel
theorem dX11_hasCrews_44 : decode cX11_hasCrews 44 = .ok (.getfield 39, 3) := by decide +kernel
theorem dX11_hasCrews_47 : decode cX11_hasCrews 47 = .ok (.iload_n 1, 1) := by decide +kernel
theorem dX11_hasCrews_48 : decode cX11_hasCrews 48 = .ok (.aaload, 1) := by decide +kernel
theorem dX11_hasCrews_49 : decode cX11_hasCrews 49 = .ok (.iload 5, 2) := by decide +kernel
theorem dX11_hasCrews_51 : decode cX11_hasCrews 51 = .ok (.iaload, 1) := by decide +kernel
theorem dX11_hasCrews_52 : decode cX11_hasCrews 52 = .ok (.ifCond .le 35, 3) := by decide +kernel
theorem dX11_hasCrews_55 : decode cX11_hasCrews 55 = .ok (.aload_n 0, 1) := by decide +kernel
theorem dX11_hasCrews_56 : decode cX11_hasCrews 56 = .ok (.getfield 70, 3) := by decide +kernel
theorem dX11_hasCrews_59 : decode cX11_hasCrews 59 = .ok (.iload 5, 2) := by decide +kernel
theorem dX11_hasCrews_61 : decode cX11_hasCrews 61 = .ok (.aaload, 1) := by decide +kernel
theorem dX11_hasCrews_62 : decode cX11_hasCrews 62 = .ok (.iload 4, 2) := by decide +kernel
theorem dX11_hasCrews_64 : decode cX11_hasCrews 64 = .ok (.iaload, 1) := by decide +kernel
theorem dX11_hasCrews_65 : decode cX11_hasCrews 65 = .ok (.aload_n 0, 1) := by decide +kernel
theorem dX11_hasCrews_66 : decode cX11_hasCrews 66 = .ok (.getfield 39, 3) := by decide +kernel
theorem dX11_hasCrews_69 : decode cX11_hasCrews 69 = .ok (.iload_n 1, 1) := by decide +kernel
theorem dX11_hasCrews_70 : decode cX11_hasCrews 70 = .ok (.aaload, 1) := by decide +kernel
theorem dX11_hasCrews_71 : decode cX11_hasCrews 71 = .ok (.iload 5, 2) := by decide +kernel
theorem dX11_hasCrews_73 : decode cX11_hasCrews 73 = .ok (.iaload, 1) := by decide +kernel
theorem dX11_hasCrews_74 : decode cX11_hasCrews 74 = .ok (.iadd, 1) := by decide +kernel
theorem dX11_hasCrews_75 : decode cX11_hasCrews 75 = .ok (.aload_n 0, 1) := by decide +kernel
theorem dX11_hasCrews_76 : decode cX11_hasCrews 76 = .ok (.getfield 21, 3) := by decide +kernel
theorem dX11_hasCrews_79 : decode cX11_hasCrews 79 = .ok (.iload 5, 2) := by decide +kernel
theorem dX11_hasCrews_81 : decode cX11_hasCrews 81 = .ok (.iaload, 1) := by decide +kernel
theorem dX11_hasCrews_82 : decode cX11_hasCrews 82 = .ok (.if_icmp .le 5, 3) := by decide +kernel
theorem dX11_hasCrews_85 : decode cX11_hasCrews 85 = .ok (.iconst 0, 1) := by decide +kernel
theorem dX11_hasCrews_86 : decode cX11_hasCrews 86 = .ok (.ireturn, 1) := by decide +kernel
theorem dX11_hasCrews_87 : decode cX11_hasCrews 87 = .ok (.iinc 5 1, 3) := by decide +kernel
theorem dX11_hasCrews_90 : decode cX11_hasCrews 90 = .ok (.goto (-53), 3) := by decide +kernel
theorem dX11_hasCrews_93 : decode cX11_hasCrews 93 = .ok (.iinc 4 1, 3) := by decide +kernel
theorem dX11_hasCrews_96 : decode cX11_hasCrews 96 = .ok (.goto (-86), 3) := by decide +kernel
theorem dX11_hasCrews_99 : decode cX11_hasCrews 99 = .ok (.iconst 1, 1) := by decide +kernel
theorem dX11_hasCrews_100 : decode cX11_hasCrews 100 = .ok (.ireturn, 1) := by decide +kernel
theorem dX11_isBetter_0 : decode cX11_isBetter 0 = .ok (.aload_n 0, 1) := by decide +kernel
theorem dX11_isBetter_1 : decode cX11_isBetter 1 = .ok (.getfield 143, 3) := by decide +kernel
theorem dX11_isBetter_4 : decode cX11_isBetter 4 = .ok (.ifCond .ne 28, 3) := by decide +kernel
theorem dX11_isBetter_7 : decode cX11_isBetter 7 = .ok (.aload_n 0, 1) := by decide +kernel
theorem dX11_isBetter_8 : decode cX11_isBetter 8 = .ok (.getfield 58, 3) := by decide +kernel
theorem dX11_isBetter_11 : decode cX11_isBetter 11 = .ok (.iconst 0, 1) := by decide +kernel
theorem dX11_isBetter_12 : decode cX11_isBetter 12 = .ok (.aaload, 1) := by decide +kernel
theorem dX11_isBetter_13 : decode cX11_isBetter 13 = .ok (.iload_n 1, 1) := by decide +kernel
theorem dX11_isBetter_14 : decode cX11_isBetter 14 = .ok (.iaload, 1) := by decide +kernel
theorem dX11_isBetter_15 : decode cX11_isBetter 15 = .ok (.aload_n 0, 1) := by decide +kernel
theorem dX11_isBetter_16 : decode cX11_isBetter 16 = .ok (.getfield 58, 3) := by decide +kernel
theorem dX11_isBetter_19 : decode cX11_isBetter 19 = .ok (.iconst 0, 1) := by decide +kernel
theorem dX11_isBetter_20 : decode cX11_isBetter 20 = .ok (.aaload, 1) := by decide +kernel
theorem dX11_isBetter_21 : decode cX11_isBetter 21 = .ok (.iload_n 2, 1) := by decide +kernel
theorem dX11_isBetter_22 : decode cX11_isBetter 22 = .ok (.iaload, 1) := by decide +kernel
theorem dX11_isBetter_23 : decode cX11_isBetter 23 = .ok (.if_icmp .ge 7, 3) := by decide +kernel
theorem dX11_isBetter_26 : decode cX11_isBetter 26 = .ok (.iconst 1, 1) := by decide +kernel
theorem dX11_isBetter_27 : decode cX11_isBetter 27 = .ok (.goto 4, 3) := by decide +kernel
theorem dX11_isBetter_30 : decode cX11_isBetter 30 = .ok (.iconst 0, 1) := by decide +kernel
theorem dX11_isBetter_31 : decode cX11_isBetter 31 = .ok (.ireturn, 1) := by decide +kernel
theorem dX11_isBetter_32 : decode cX11_isBetter 32 = .ok (.aload_n 0, 1) := by decide +kernel
theorem dX11_isBetter_33 : decode cX11_isBetter 33 = .ok (.getfield 143, 3) := by decide +kernel
theorem dX11_isBetter_36 : decode cX11_isBetter 36 = .ok (.iconst 1, 1) := by decide +kernel
theorem dX11_isBetter_37 : decode cX11_isBetter 37 = .ok (.if_icmp .ne 24, 3) := by decide +kernel
theorem dX11_isBetter_40 : decode cX11_isBetter 40 = .ok (.aload_n 0, 1) := by decide +kernel
theorem dX11_isBetter_41 : decode cX11_isBetter 41 = .ok (.getfield 61, 3) := by decide +kernel
theorem dX11_isBetter_44 : decode cX11_isBetter 44 = .ok (.iload_n 1, 1) := by decide +kernel
theorem dX11_isBetter_45 : decode cX11_isBetter 45 = .ok (.iaload, 1) := by decide +kernel
theorem dX11_isBetter_46 : decode cX11_isBetter 46 = .ok (.aload_n 0, 1) := by decide +kernel
theorem dX11_isBetter_47 : decode cX11_isBetter 47 = .ok (.getfield 61, 3) := by decide +kernel
theorem dX11_isBetter_50 : decode cX11_isBetter 50 = .ok (.iload_n 2, 1) := by decide +kernel
theorem dX11_isBetter_51 : decode cX11_isBetter 51 = .ok (.iaload, 1) := by decide +kernel
theorem dX11_isBetter_52 : decode cX11_isBetter 52 = .ok (.if_icmp .ge 7, 3) := by decide +kernel
theorem dX11_isBetter_55 : decode cX11_isBetter 55 = .ok (.iconst 1, 1) := by decide +kernel
theorem dX11_isBetter_56 : decode cX11_isBetter 56 = .ok (.goto 4, 3) := by decide +kernel
theorem dX11_isBetter_59 : decode cX11_isBetter 59 = .ok (.iconst 0, 1) := by decide +kernel
theorem dX11_isBetter_60 : decode cX11_isBetter 60 = .ok (.ireturn, 1) := by decide +kernel
theorem dX11_isBetter_61 : decode cX11_isBetter 61 = .ok (.aload_n 0, 1) := by decide +kernel
theorem dX11_isBetter_62 : decode cX11_isBetter 62 = .ok (.getfield 143, 3) := by decide +kernel
theorem dX11_isBetter_65 : decode cX11_isBetter 65 = .ok (.iconst 2, 1) := by decide +kernel
theorem dX11_isBetter_66 : decode cX11_isBetter 66 = .ok (.if_icmp .ne 26, 3) := by decide +kernel
theorem dX11_isBetter_69 : decode cX11_isBetter 69 = .ok (.aload_n 0, 1) := by decide +kernel
theorem dX11_isBetter_70 : decode cX11_isBetter 70 = .ok (.getfield 33, 3) := by decide +kernel
theorem dX11_isBetter_73 : decode cX11_isBetter 73 = .ok (.iload_n 1, 1) := by decide +kernel
theorem dX11_isBetter_74 : decode cX11_isBetter 74 = .ok (.iaload, 1) := by decide +kernel
theorem dX11_isBetter_75 : decode cX11_isBetter 75 = .ok (.aload_n 0, 1) := by decide +kernel
theorem dX11_isBetter_76 : decode cX11_isBetter 76 = .ok (.getfield 33, 3) := by decide +kernel
theorem dX11_isBetter_79 : decode cX11_isBetter 79 = .ok (.iload_n 2, 1) := by decide +kernel
theorem dX11_isBetter_80 : decode cX11_isBetter 80 = .ok (.iaload, 1) := by decide +kernel
theorem dX11_isBetter_81 : decode cX11_isBetter 81 = .ok (.if_icmp .le 7, 3) := by decide +kernel
theorem dX11_isBetter_84 : decode cX11_isBetter 84 = .ok (.iconst 1, 1) := by decide +kernel
theorem dX11_isBetter_85 : decode cX11_isBetter 85 = .ok (.goto 27, 3) := by decide +kernel
theorem dX11_isBetter_88 : decode cX11_isBetter 88 = .ok (.iconst 0, 1) := by decide +kernel
theorem dX11_isBetter_89 : decode cX11_isBetter 89 = .ok (.goto 23, 3) := by decide +kernel
theorem dX11_isBetter_92 : decode cX11_isBetter 92 = .ok (.aload_n 0, 1) := by decide +kernel
theorem dX11_isBetter_93 : decode cX11_isBetter 93 = .ok (.getfield 27, 3) := by decide +kernel
theorem dX11_isBetter_96 : decode cX11_isBetter 96 = .ok (.iload_n 1, 1) := by decide +kernel
theorem dX11_isBetter_97 : decode cX11_isBetter 97 = .ok (.iaload, 1) := by decide +kernel
theorem dX11_isBetter_98 : decode cX11_isBetter 98 = .ok (.aload_n 0, 1) := by decide +kernel
theorem dX11_isBetter_99 : decode cX11_isBetter 99 = .ok (.getfield 27, 3) := by decide +kernel
theorem dX11_isBetter_102 : decode cX11_isBetter 102 = .ok (.iload_n 2, 1) := by decide +kernel
theorem dX11_isBetter_103 : decode cX11_isBetter 103 = .ok (.iaload, 1) := by decide +kernel
theorem dX11_isBetter_104 : decode cX11_isBetter 104 = .ok (.if_icmp .le 7, 3) := by decide +kernel
theorem dX11_isBetter_107 : decode cX11_isBetter 107 = .ok (.iconst 1, 1) := by decide +kernel
theorem dX11_isBetter_108 : decode cX11_isBetter 108 = .ok (.goto 4, 3) := by decide +kernel
theorem dX11_isBetter_111 : decode cX11_isBetter 111 = .ok (.iconst 0, 1) := by decide +kernel
theorem dX11_isBetter_112 : decode cX11_isBetter 112 = .ok (.ireturn, 1) := by decide +kernel
theorem dX11_place_0 : decode cX11_place 0 = .ok (.aload_n 0, 1) := by decide +kernel
theorem dX11_place_1 : decode cX11_place 1 = .ok (.getfield 64, 3) := by decide +kernel
theorem dX11_place_4 : decode cX11_place 4 = .ok (.iconst 0, 1) := by decide +kernel
theorem dX11_place_5 : decode cX11_place 5 = .ok (.aaload, 1) := by decide +kernel
theorem dX11_place_6 : decode cX11_place 6 = .ok (.iload_n 1, 1) := by decide +kernel
theorem dX11_place_7 : decode cX11_place 7 = .ok (.iload_n 2, 1) := by decide +kernel
theorem dX11_place_8 : decode cX11_place 8 = .ok (.iastore, 1) := by decide +kernel
theorem dX11_place_9 : decode cX11_place 9 = .ok (.aload_n 0, 1) := by decide +kernel
theorem dX11_place_10 : decode cX11_place 10 = .ok (.getfield 64, 3) := by decide +kernel
theorem dX11_place_13 : decode cX11_place 13 = .ok (.iconst 1, 1) := by decide +kernel
theorem dX11_place_14 : decode cX11_place 14 = .ok (.aaload, 1) := by decide +kernel
theorem dX11_place_15 : decode cX11_place 15 = .ok (.iload_n 1, 1) := by decide +kernel
theorem dX11_place_16 : decode cX11_place 16 = .ok (.iload_n 3, 1) := by decide +kernel
theorem dX11_place_17 : decode cX11_place 17 = .ok (.iastore, 1) := by decide +kernel
theorem dX11_place_18 : decode cX11_place 18 = .ok (.aload_n 0, 1) := by decide +kernel
theorem dX11_place_19 : decode cX11_place 19 = .ok (.iload_n 1, 1) := by decide +kernel
theorem dX11_place_20 : decode cX11_place 20 = .ok (.iload_n 2, 1) := by decide +kernel
theorem dX11_place_21 : decode cX11_place 21 = .ok (.iload_n 3, 1) := by decide +kernel
theorem dX11_place_22 : decode cX11_place 22 = .ok (.invokevirtual 146, 3) := by decide +kernel
theorem dX11_place_25 : decode cX11_place 25 = .ok (.aload_n 0, 1) := by decide +kernel
theorem dX11_place_26 : decode cX11_place 26 = .ok (.getfield 67, 3) := by decide +kernel
theorem dX11_place_29 : decode cX11_place 29 = .ok (.aload_n 0, 1) := by decide +kernel
theorem dX11_place_30 : decode cX11_place 30 = .ok (.getfield 150, 3) := by decide +kernel
theorem dX11_place_33 : decode cX11_place 33 = .ok (.iload_n 1, 1) := by decide +kernel
theorem dX11_place_34 : decode cX11_place 34 = .ok (.iastore, 1) := by decide +kernel
theorem dX11_place_35 : decode cX11_place 35 = .ok (.aload_n 0, 1) := by decide +kernel
theorem dX11_place_36 : decode cX11_place 36 = .ok (.dup, 1) := by decide +kernel
theorem dX11_place_37 : decode cX11_place 37 = .ok (.getfield 150, 3) := by decide +kernel
theorem dX11_place_40 : decode cX11_place 40 = .ok (.iconst 1, 1) := by decide +kernel
theorem dX11_place_41 : decode cX11_place 41 = .ok (.iadd, 1) := by decide +kernel
theorem dX11_place_42 : decode cX11_place 42 = .ok (.putfield 150, 3) := by decide +kernel
theorem dX11_place_45 : decode cX11_place 45 = .ok (.aload_n 0, 1) := by decide +kernel
theorem dX11_place_46 : decode cX11_place 46 = .ok (.aload_n 0, 1) := by decide +kernel
theorem dX11_place_47 : decode cX11_place 47 = .ok (.getfield 153, 3) := by decide +kernel
theorem dX11_place_50 : decode cX11_place 50 = .ok (.iload_n 3, 1) := by decide +kernel
theorem dX11_place_51 : decode cX11_place 51 = .ok (.invokestatic 116, 3) := by decide +kernel
theorem dX11_place_54 : decode cX11_place 54 = .ok (.putfield 153, 3) := by decide +kernel
theorem dX11_place_57 : decode cX11_place 57 = .ok (.return_, 1) := by decide +kernel
theorem dX11_layLevelled_0 : decode cX11_layLevelled 0 = .ok (.aload_n 0, 1) := by decide +kernel
theorem dX11_layLevelled_1 : decode cX11_layLevelled 1 = .ok (.getfield 70, 3) := by decide +kernel
theorem dX11_layLevelled_4 : decode cX11_layLevelled 4 = .ok (.astore_n 1, 1) := by decide +kernel
theorem dX11_layLevelled_5 : decode cX11_layLevelled 5 = .ok (.aload_n 1, 1) := by decide +kernel
theorem dX11_layLevelled_6 : decode cX11_layLevelled 6 = .ok (.arraylength, 1) := by decide +kernel
theorem dX11_layLevelled_7 : decode cX11_layLevelled 7 = .ok (.istore_n 2, 1) := by decide +kernel
theorem dX11_layLevelled_8 : decode cX11_layLevelled 8 = .ok (.iconst 0, 1) := by decide +kernel
theorem dX11_layLevelled_9 : decode cX11_layLevelled 9 = .ok (.istore_n 3, 1) := by decide +kernel
theorem dX11_layLevelled_10 : decode cX11_layLevelled 10 = .ok (.iload_n 3, 1) := by decide +kernel
theorem dX11_layLevelled_11 : decode cX11_layLevelled 11 = .ok (.iload_n 2, 1) := by decide +kernel
theorem dX11_layLevelled_12 : decode cX11_layLevelled 12 = .ok (.if_icmp .ge 20, 3) := by decide +kernel
theorem dX11_layLevelled_15 : decode cX11_layLevelled 15 = .ok (.aload_n 1, 1) := by decide +kernel
theorem dX11_layLevelled_16 : decode cX11_layLevelled 16 = .ok (.iload_n 3, 1) := by decide +kernel
theorem dX11_layLevelled_17 : decode cX11_layLevelled 17 = .ok (.aaload, 1) := by decide +kernel
theorem dX11_layLevelled_18 : decode cX11_layLevelled 18 = .ok (.astore 4, 2) := by decide +kernel
theorem dX11_layLevelled_20 : decode cX11_layLevelled 20 = .ok (.aload 4, 2) := by decide +kernel
theorem dX11_layLevelled_22 : decode cX11_layLevelled 22 = .ok (.iconst 0, 1) := by decide +kernel
theorem dX11_layLevelled_23 : decode cX11_layLevelled 23 = .ok (.invokestatic 156, 3) := by decide +kernel
theorem dX11_layLevelled_26 : decode cX11_layLevelled 26 = .ok (.iinc 3 1, 3) := by decide +kernel
theorem dX11_layLevelled_29 : decode cX11_layLevelled 29 = .ok (.goto (-19), 3) := by decide +kernel
theorem dX11_layLevelled_32 : decode cX11_layLevelled 32 = .ok (.aload_n 0, 1) := by decide +kernel
theorem dX11_layLevelled_33 : decode cX11_layLevelled 33 = .ok (.getfield 64, 3) := by decide +kernel
theorem dX11_layLevelled_36 : decode cX11_layLevelled 36 = .ok (.iconst 0, 1) := by decide +kernel
theorem dX11_layLevelled_37 : decode cX11_layLevelled 37 = .ok (.aaload, 1) := by decide +kernel
theorem dX11_layLevelled_38 : decode cX11_layLevelled 38 = .ok (.iconst (-1), 1) := by decide +kernel
theorem dX11_layLevelled_39 : decode cX11_layLevelled 39 = .ok (.invokestatic 156, 3) := by decide +kernel
theorem dX11_layLevelled_42 : decode cX11_layLevelled 42 = .ok (.aload_n 0, 1) := by decide +kernel
theorem dX11_layLevelled_43 : decode cX11_layLevelled 43 = .ok (.getfield 64, 3) := by decide +kernel
theorem dX11_layLevelled_46 : decode cX11_layLevelled 46 = .ok (.iconst 1, 1) := by decide +kernel
theorem dX11_layLevelled_47 : decode cX11_layLevelled 47 = .ok (.aaload, 1) := by decide +kernel
theorem dX11_layLevelled_48 : decode cX11_layLevelled 48 = .ok (.iconst (-1), 1) := by decide +kernel
theorem dX11_layLevelled_49 : decode cX11_layLevelled 49 = .ok (.invokestatic 156, 3) := by decide +kernel
theorem dX11_layLevelled_52 : decode cX11_layLevelled 52 = .ok (.aload_n 0, 1) := by decide +kernel
theorem dX11_layLevelled_53 : decode cX11_layLevelled 53 = .ok (.iconst 0, 1) := by decide +kernel
theorem dX11_layLevelled_54 : decode cX11_layLevelled 54 = .ok (.putfield 150, 3) := by decide +kernel
theorem dX11_layLevelled_57 : decode cX11_layLevelled 57 = .ok (.aload_n 0, 1) := by decide +kernel
theorem dX11_layLevelled_58 : decode cX11_layLevelled 58 = .ok (.iconst 0, 1) := by decide +kernel
theorem dX11_layLevelled_59 : decode cX11_layLevelled 59 = .ok (.putfield 153, 3) := by decide +kernel
theorem dX11_layLevelled_62 : decode cX11_layLevelled 62 = .ok (.bipush 24, 2) := by decide +kernel
theorem dX11_layLevelled_64 : decode cX11_layLevelled 64 = .ok (.newarray .boolean, 2) := by decide +kernel
theorem dX11_layLevelled_66 : decode cX11_layLevelled 66 = .ok (.astore_n 1, 1) := by decide +kernel
theorem dX11_layLevelled_67 : decode cX11_layLevelled 67 = .ok (.iconst 0, 1) := by decide +kernel
theorem dX11_layLevelled_68 : decode cX11_layLevelled 68 = .ok (.istore_n 2, 1) := by decide +kernel
theorem dX11_layLevelled_69 : decode cX11_layLevelled 69 = .ok (.iload_n 2, 1) := by decide +kernel
theorem dX11_layLevelled_70 : decode cX11_layLevelled 70 = .ok (.aload_n 0, 1) := by decide +kernel
theorem dX11_layLevelled_71 : decode cX11_layLevelled 71 = .ok (.getfield 96, 3) := by decide +kernel
theorem dX11_layLevelled_74 : decode cX11_layLevelled 74 = .ok (.if_icmp .ge 46, 3) := by decide +kernel
theorem dX11_layLevelled_77 : decode cX11_layLevelled 77 = .ok (.aload_n 0, 1) := by decide +kernel
theorem dX11_layLevelled_78 : decode cX11_layLevelled 78 = .ok (.getfield 42, 3) := by decide +kernel
theorem dX11_layLevelled_81 : decode cX11_layLevelled 81 = .ok (.iload_n 2, 1) := by decide +kernel
theorem dX11_layLevelled_82 : decode cX11_layLevelled 82 = .ok (.baload, 1) := by decide +kernel
theorem dX11_layLevelled_83 : decode cX11_layLevelled 83 = .ok (.ifCond .ne 6, 3) := by decide +kernel
theorem dX11_layLevelled_86 : decode cX11_layLevelled 86 = .ok (.goto 28, 3) := by decide +kernel
theorem dX11_layLevelled_89 : decode cX11_layLevelled 89 = .ok (.aload_n 1, 1) := by decide +kernel
theorem dX11_layLevelled_90 : decode cX11_layLevelled 90 = .ok (.iload_n 2, 1) := by decide +kernel
theorem dX11_layLevelled_91 : decode cX11_layLevelled 91 = .ok (.iconst 1, 1) := by decide +kernel
theorem dX11_layLevelled_92 : decode cX11_layLevelled 92 = .ok (.bastore, 1) := by decide +kernel
theorem dX11_layLevelled_93 : decode cX11_layLevelled 93 = .ok (.aload_n 0, 1) := by decide +kernel
theorem dX11_layLevelled_94 : decode cX11_layLevelled 94 = .ok (.iload_n 2, 1) := by decide +kernel
theorem dX11_layLevelled_95 : decode cX11_layLevelled 95 = .ok (.aload_n 0, 1) := by decide +kernel
theorem dX11_layLevelled_96 : decode cX11_layLevelled 96 = .ok (.getfield 46, 3) := by decide +kernel
theorem dX11_layLevelled_99 : decode cX11_layLevelled 99 = .ok (.iconst 0, 1) := by decide +kernel
theorem dX11_layLevelled_100 : decode cX11_layLevelled 100 = .ok (.aaload, 1) := by decide +kernel
theorem dX11_layLevelled_101 : decode cX11_layLevelled 101 = .ok (.iload_n 2, 1) := by decide +kernel
theorem dX11_layLevelled_102 : decode cX11_layLevelled 102 = .ok (.iaload, 1) := by decide +kernel
theorem dX11_layLevelled_103 : decode cX11_layLevelled 103 = .ok (.aload_n 0, 1) := by decide +kernel
theorem dX11_layLevelled_104 : decode cX11_layLevelled 104 = .ok (.getfield 46, 3) := by decide +kernel
theorem dX11_layLevelled_107 : decode cX11_layLevelled 107 = .ok (.iconst 1, 1) := by decide +kernel
theorem dX11_layLevelled_108 : decode cX11_layLevelled 108 = .ok (.aaload, 1) := by decide +kernel
theorem dX11_layLevelled_109 : decode cX11_layLevelled 109 = .ok (.iload_n 2, 1) := by decide +kernel
theorem dX11_layLevelled_110 : decode cX11_layLevelled 110 = .ok (.iaload, 1) := by decide +kernel
theorem dX11_layLevelled_111 : decode cX11_layLevelled 111 = .ok (.invokevirtual 162, 3) := by decide +kernel
theorem dX11_layLevelled_114 : decode cX11_layLevelled 114 = .ok (.iinc 2 1, 3) := by decide +kernel
theorem dX11_layLevelled_117 : decode cX11_layLevelled 117 = .ok (.goto (-48), 3) := by decide +kernel
theorem dX11_layLevelled_120 : decode cX11_layLevelled 120 = .ok (.iconst (-1), 1) := by decide +kernel
theorem dX11_layLevelled_121 : decode cX11_layLevelled 121 = .ok (.istore_n 2, 1) := by decide +kernel
theorem dX11_layLevelled_122 : decode cX11_layLevelled 122 = .ok (.iconst 0, 1) := by decide +kernel
theorem dX11_layLevelled_123 : decode cX11_layLevelled 123 = .ok (.istore_n 3, 1) := by decide +kernel
theorem dX11_layLevelled_124 : decode cX11_layLevelled 124 = .ok (.iload_n 3, 1) := by decide +kernel
theorem dX11_layLevelled_125 : decode cX11_layLevelled 125 = .ok (.aload_n 0, 1) := by decide +kernel
theorem dX11_layLevelled_126 : decode cX11_layLevelled 126 = .ok (.getfield 96, 3) := by decide +kernel
theorem dX11_layLevelled_129 : decode cX11_layLevelled 129 = .ok (.if_icmp .ge 48, 3) := by decide +kernel
theorem dX11_layLevelled_132 : decode cX11_layLevelled 132 = .ok (.aload_n 1, 1) := by decide +kernel
theorem dX11_layLevelled_133 : decode cX11_layLevelled 133 = .ok (.iload_n 3, 1) := by decide +kernel
theorem dX11_layLevelled_134 : decode cX11_layLevelled 134 = .ok (.baload, 1) := by decide +kernel
theorem dX11_layLevelled_135 : decode cX11_layLevelled 135 = .ok (.ifCond .ne 36, 3) := by decide +kernel
theorem dX11_layLevelled_138 : decode cX11_layLevelled 138 = .ok (.aload_n 0, 1) := by decide +kernel
theorem dX11_layLevelled_139 : decode cX11_layLevelled 139 = .ok (.iload_n 3, 1) := by decide +kernel
theorem dX11_layLevelled_140 : decode cX11_layLevelled 140 = .ok (.aload_n 1, 1) := by decide +kernel
theorem dX11_layLevelled_141 : decode cX11_layLevelled 141 = .ok (.invokevirtual 129, 3) := by decide +kernel
theorem dX11_layLevelled_144 : decode cX11_layLevelled 144 = .ok (.ifCond .eq 27, 3) := by decide +kernel
theorem dX11_layLevelled_147 : decode cX11_layLevelled 147 = .ok (.aload_n 0, 1) := by decide +kernel
theorem dX11_layLevelled_148 : decode cX11_layLevelled 148 = .ok (.iload_n 3, 1) := by decide +kernel
theorem dX11_layLevelled_149 : decode cX11_layLevelled 149 = .ok (.invokevirtual 165, 3) := by decide +kernel
theorem dX11_layLevelled_152 : decode cX11_layLevelled 152 = .ok (.ifCond .ne 19, 3) := by decide +kernel
theorem dX11_layLevelled_155 : decode cX11_layLevelled 155 = .ok (.iload_n 2, 1) := by decide +kernel
theorem dX11_layLevelled_156 : decode cX11_layLevelled 156 = .ok (.iconst (-1), 1) := by decide +kernel
theorem dX11_layLevelled_157 : decode cX11_layLevelled 157 = .ok (.if_icmp .eq 12, 3) := by decide +kernel
theorem dX11_layLevelled_160 : decode cX11_layLevelled 160 = .ok (.aload_n 0, 1) := by decide +kernel
theorem dX11_layLevelled_161 : decode cX11_layLevelled 161 = .ok (.iload_n 3, 1) := by decide +kernel
theorem dX11_layLevelled_162 : decode cX11_layLevelled 162 = .ok (.iload_n 2, 1) := by decide +kernel
theorem dX11_layLevelled_163 : decode cX11_layLevelled 163 = .ok (.invokevirtual 169, 3) := by decide +kernel
theorem dX11_layLevelled_166 : decode cX11_layLevelled 166 = .ok (.ifCond .eq 5, 3) := by decide +kernel
theorem dX11_layLevelled_169 : decode cX11_layLevelled 169 = .ok (.iload_n 3, 1) := by decide +kernel
theorem dX11_layLevelled_170 : decode cX11_layLevelled 170 = .ok (.istore_n 2, 1) := by decide +kernel
theorem dX11_layLevelled_171 : decode cX11_layLevelled 171 = .ok (.iinc 3 1, 3) := by decide +kernel
theorem dX11_layLevelled_174 : decode cX11_layLevelled 174 = .ok (.goto (-50), 3) := by decide +kernel
theorem dX11_layLevelled_177 : decode cX11_layLevelled 177 = .ok (.iload_n 2, 1) := by decide +kernel
theorem dX11_layLevelled_178 : decode cX11_layLevelled 178 = .ok (.iconst (-1), 1) := by decide +kernel
theorem dX11_layLevelled_179 : decode cX11_layLevelled 179 = .ok (.if_icmp .ne 4, 3) := by decide +kernel
theorem dX11_layLevelled_182 : decode cX11_layLevelled 182 = .ok (.return_, 1) := by decide +kernel
theorem dX11_layLevelled_183 : decode cX11_layLevelled 183 = .ok (.aload_n 0, 1) := by decide +kernel
theorem dX11_layLevelled_184 : decode cX11_layLevelled 184 = .ok (.iload_n 2, 1) := by decide +kernel
theorem dX11_layLevelled_185 : decode cX11_layLevelled 185 = .ok (.aload_n 0, 1) := by decide +kernel
theorem dX11_layLevelled_186 : decode cX11_layLevelled 186 = .ok (.getfield 64, 3) := by decide +kernel
theorem dX11_layLevelled_189 : decode cX11_layLevelled 189 = .ok (.invokevirtual 136, 3) := by decide +kernel
theorem dX11_layLevelled_192 : decode cX11_layLevelled 192 = .ok (.istore_n 3, 1) := by decide +kernel
theorem dX11_layLevelled_193 : decode cX11_layLevelled 193 = .ok (.aload_n 0, 1) := by decide +kernel
theorem dX11_layLevelled_194 : decode cX11_layLevelled 194 = .ok (.iload_n 2, 1) := by decide +kernel
theorem dX11_layLevelled_195 : decode cX11_layLevelled 195 = .ok (.iload_n 3, 1) := by decide +kernel
theorem dX11_layLevelled_196 : decode cX11_layLevelled 196 = .ok (.invokevirtual 172, 3) := by decide +kernel
theorem dX11_layLevelled_199 : decode cX11_layLevelled 199 = .ok (.ifCond .ne 15, 3) := by decide +kernel
theorem dX11_layLevelled_202 : decode cX11_layLevelled 202 = .ok (.aload_n 0, 1) := by decide +kernel
theorem dX11_layLevelled_203 : decode cX11_layLevelled 203 = .ok (.iload_n 2, 1) := by decide +kernel
theorem dX11_layLevelled_204 : decode cX11_layLevelled 204 = .ok (.iload_n 3, 1) := by decide +kernel
theorem dX11_layLevelled_205 : decode cX11_layLevelled 205 = .ok (.iconst 1, 1) := by decide +kernel
theorem dX11_layLevelled_206 : decode cX11_layLevelled 206 = .ok (.iadd, 1) := by decide +kernel
theorem dX11_layLevelled_207 : decode cX11_layLevelled 207 = .ok (.invokevirtual 110, 3) := by decide +kernel
theorem dX11_layLevelled_210 : decode cX11_layLevelled 210 = .ok (.istore_n 3, 1) := by decide +kernel
theorem dX11_layLevelled_211 : decode cX11_layLevelled 211 = .ok (.goto (-18), 3) := by decide +kernel
theorem dX11_layLevelled_214 : decode cX11_layLevelled 214 = .ok (.aload_n 1, 1) := by decide +kernel
theorem dX11_layLevelled_215 : decode cX11_layLevelled 215 = .ok (.iload_n 2, 1) := by decide +kernel
theorem dX11_layLevelled_216 : decode cX11_layLevelled 216 = .ok (.iconst 1, 1) := by decide +kernel
theorem dX11_layLevelled_217 : decode cX11_layLevelled 217 = .ok (.bastore, 1) := by decide +kernel
theorem dX11_layLevelled_218 : decode cX11_layLevelled 218 = .ok (.aload_n 0, 1) := by decide +kernel
theorem dX11_layLevelled_219 : decode cX11_layLevelled 219 = .ok (.iload_n 2, 1) := by decide +kernel
theorem dX11_layLevelled_220 : decode cX11_layLevelled 220 = .ok (.iload_n 3, 1) := by decide +kernel
theorem dX11_layLevelled_221 : decode cX11_layLevelled 221 = .ok (.aload_n 0, 1) := by decide +kernel
theorem dX11_layLevelled_222 : decode cX11_layLevelled 222 = .ok (.iload_n 2, 1) := by decide +kernel
theorem dX11_layLevelled_223 : decode cX11_layLevelled 223 = .ok (.iload_n 3, 1) := by decide +kernel
theorem dX11_layLevelled_224 : decode cX11_layLevelled 224 = .ok (.invokevirtual 113, 3) := by decide +kernel
theorem dX11_layLevelled_227 : decode cX11_layLevelled 227 = .ok (.invokevirtual 162, 3) := by decide +kernel
theorem dX11_layLevelled_230 : decode cX11_layLevelled 230 = .ok (.goto (-110), 3) := by decide +kernel
theorem dX11_lay_0 : decode cX11_lay 0 = .ok (.aload_n 0, 1) := by decide +kernel
theorem dX11_lay_1 : decode cX11_lay 1 = .ok (.getfield 175, 3) := by decide +kernel
theorem dX11_lay_4 : decode cX11_lay 4 = .ok (.ifCond .eq 4, 3) := by decide +kernel
theorem dX11_lay_7 : decode cX11_lay 7 = .ok (.return_, 1) := by decide +kernel
theorem dX11_lay_8 : decode cX11_lay 8 = .ok (.aload_n 0, 1) := by decide +kernel
theorem dX11_lay_9 : decode cX11_lay 9 = .ok (.iconst 1, 1) := by decide +kernel
theorem dX11_lay_10 : decode cX11_lay 10 = .ok (.putfield 175, 3) := by decide +kernel
theorem dX11_lay_13 : decode cX11_lay 13 = .ok (.aload_n 0, 1) := by decide +kernel
theorem dX11_lay_14 : decode cX11_lay 14 = .ok (.invokevirtual 179, 3) := by decide +kernel
theorem dX11_lay_17 : decode cX11_lay 17 = .ok (.aload_n 0, 1) := by decide +kernel
theorem dX11_lay_18 : decode cX11_lay 18 = .ok (.invokevirtual 182, 3) := by decide +kernel
theorem dX11_lay_21 : decode cX11_lay 21 = .ok (.aload_n 0, 1) := by decide +kernel
theorem dX11_lay_22 : decode cX11_lay 22 = .ok (.invokevirtual 185, 3) := by decide +kernel
theorem dX11_lay_25 : decode cX11_lay 25 = .ok (.aload_n 0, 1) := by decide +kernel
theorem dX11_lay_26 : decode cX11_lay 26 = .ok (.invokevirtual 188, 3) := by decide +kernel
theorem dX11_lay_29 : decode cX11_lay 29 = .ok (.return_, 1) := by decide +kernel
theorem dX11_setWeek_0 : decode cX11_setWeek 0 = .ok (.aload_n 0, 1) := by decide +kernel
theorem dX11_setWeek_1 : decode cX11_setWeek 1 = .ok (.iconst 0, 1) := by decide +kernel
theorem dX11_setWeek_2 : decode cX11_setWeek 2 = .ok (.putfield 88, 3) := by decide +kernel
theorem dX11_setWeek_5 : decode cX11_setWeek 5 = .ok (.iload_n 1, 1) := by decide +kernel
theorem dX11_setWeek_6 : decode cX11_setWeek 6 = .ok (.invokestatic 191, 3) := by decide +kernel
theorem dX11_setWeek_9 : decode cX11_setWeek 9 = .ok (.ifCond .ne 9, 3) := by decide +kernel
theorem dX11_setWeek_12 : decode cX11_setWeek 12 = .ok (.aload_n 0, 1) := by decide +kernel
theorem dX11_setWeek_13 : decode cX11_setWeek 13 = .ok (.iconst 1, 1) := by decide +kernel
theorem dX11_setWeek_14 : decode cX11_setWeek 14 = .ok (.invokevirtual 194, 3) := by decide +kernel
theorem dX11_setWeek_17 : decode cX11_setWeek 17 = .ok (.ireturn, 1) := by decide +kernel
theorem dX11_setWeek_18 : decode cX11_setWeek 18 = .ok (.iload_n 2, 1) := by decide +kernel
theorem dX11_setWeek_19 : decode cX11_setWeek 19 = .ok (.iconst 1, 1) := by decide +kernel
theorem dX11_setWeek_20 : decode cX11_setWeek 20 = .ok (.bipush 127, 2) := by decide +kernel
theorem dX11_setWeek_22 : decode cX11_setWeek 22 = .ok (.invokestatic 92, 3) := by decide +kernel
theorem dX11_setWeek_25 : decode cX11_setWeek 25 = .ok (.ifCond .ne 9, 3) := by decide +kernel
theorem dX11_setWeek_28 : decode cX11_setWeek 28 = .ok (.aload_n 0, 1) := by decide +kernel
theorem dX11_setWeek_29 : decode cX11_setWeek 29 = .ok (.iconst 2, 1) := by decide +kernel
theorem dX11_setWeek_30 : decode cX11_setWeek 30 = .ok (.invokevirtual 194, 3) := by decide +kernel
theorem dX11_setWeek_33 : decode cX11_setWeek 33 = .ok (.ireturn, 1) := by decide +kernel
theorem dX11_setWeek_34 : decode cX11_setWeek 34 = .ok (.aload_n 0, 1) := by decide +kernel
theorem dX11_setWeek_35 : decode cX11_setWeek 35 = .ok (.getfield 7, 3) := by decide +kernel
theorem dX11_setWeek_38 : decode cX11_setWeek 38 = .ok (.iload_n 1, 1) := by decide +kernel
theorem dX11_setWeek_39 : decode cX11_setWeek 39 = .ok (.iaload, 1) := by decide +kernel
theorem dX11_setWeek_40 : decode cX11_setWeek 40 = .ok (.istore_n 3, 1) := by decide +kernel
theorem dX11_setWeek_41 : decode cX11_setWeek 41 = .ok (.aload_n 0, 1) := by decide +kernel
theorem dX11_setWeek_42 : decode cX11_setWeek 42 = .ok (.getfield 7, 3) := by decide +kernel
theorem dX11_setWeek_45 : decode cX11_setWeek 45 = .ok (.iload_n 1, 1) := by decide +kernel
theorem dX11_setWeek_46 : decode cX11_setWeek 46 = .ok (.iload_n 2, 1) := by decide +kernel
theorem dX11_setWeek_47 : decode cX11_setWeek 47 = .ok (.iastore, 1) := by decide +kernel
theorem dX11_setWeek_48 : decode cX11_setWeek 48 = .ok (.aload_n 0, 1) := by decide +kernel
theorem dX11_setWeek_49 : decode cX11_setWeek 49 = .ok (.iconst 0, 1) := by decide +kernel
theorem dX11_setWeek_50 : decode cX11_setWeek 50 = .ok (.putfield 175, 3) := by decide +kernel
theorem dX11_setWeek_53 : decode cX11_setWeek 53 = .ok (.iload_n 3, 1) := by decide +kernel
theorem dX11_setWeek_54 : decode cX11_setWeek 54 = .ok (.ireturn, 1) := by decide +kernel
theorem dX11_setFree_0 : decode cX11_setFree 0 = .ok (.aload_n 0, 1) := by decide +kernel
theorem dX11_setFree_1 : decode cX11_setFree 1 = .ok (.iload_n 1, 1) := by decide +kernel
theorem dX11_setFree_2 : decode cX11_setFree 2 = .ok (.invokestatic 191, 3) := by decide +kernel
theorem dX11_setFree_5 : decode cX11_setFree 5 = .ok (.ifCond .ne 7, 3) := by decide +kernel
theorem dX11_setFree_8 : decode cX11_setFree 8 = .ok (.iconst 1, 1) := by decide +kernel
theorem dX11_setFree_9 : decode cX11_setFree 9 = .ok (.goto 48, 3) := by decide +kernel
theorem dX11_setFree_12 : decode cX11_setFree 12 = .ok (.iload_n 2, 1) := by decide +kernel
theorem dX11_setFree_13 : decode cX11_setFree 13 = .ok (.iconst 0, 1) := by decide +kernel
theorem dX11_setFree_14 : decode cX11_setFree 14 = .ok (.sipush 999, 3) := by decide +kernel
theorem dX11_setFree_17 : decode cX11_setFree 17 = .ok (.invokestatic 92, 3) := by decide +kernel
theorem dX11_setFree_20 : decode cX11_setFree 20 = .ok (.ifCond .ne 7, 3) := by decide +kernel
theorem dX11_setFree_23 : decode cX11_setFree 23 = .ok (.iconst 2, 1) := by decide +kernel
theorem dX11_setFree_24 : decode cX11_setFree 24 = .ok (.goto 33, 3) := by decide +kernel
theorem dX11_setFree_27 : decode cX11_setFree 27 = .ok (.iload_n 3, 1) := by decide +kernel
theorem dX11_setFree_28 : decode cX11_setFree 28 = .ok (.ifCond .eq 28, 3) := by decide +kernel
theorem dX11_setFree_31 : decode cX11_setFree 31 = .ok (.aload_n 0, 1) := by decide +kernel
theorem dX11_setFree_32 : decode cX11_setFree 32 = .ok (.iload_n 1, 1) := by decide +kernel
theorem dX11_setFree_33 : decode cX11_setFree 33 = .ok (.iload_n 2, 1) := by decide +kernel
theorem dX11_setFree_34 : decode cX11_setFree 34 = .ok (.invokevirtual 102, 3) := by decide +kernel
theorem dX11_setFree_37 : decode cX11_setFree 37 = .ok (.iconst (-1), 1) := by decide +kernel
theorem dX11_setFree_38 : decode cX11_setFree 38 = .ok (.if_icmp .ne 18, 3) := by decide +kernel
theorem dX11_setFree_41 : decode cX11_setFree 41 = .ok (.aload_n 0, 1) := by decide +kernel
theorem dX11_setFree_42 : decode cX11_setFree 42 = .ok (.getfield 13, 3) := by decide +kernel
theorem dX11_setFree_45 : decode cX11_setFree 45 = .ok (.iload_n 1, 1) := by decide +kernel
theorem dX11_setFree_46 : decode cX11_setFree 46 = .ok (.iaload, 1) := by decide +kernel
theorem dX11_setFree_47 : decode cX11_setFree 47 = .ok (.bipush 12, 2) := by decide +kernel
theorem dX11_setFree_49 : decode cX11_setFree 49 = .ok (.if_icmp .ne 7, 3) := by decide +kernel
theorem dX11_setFree_52 : decode cX11_setFree 52 = .ok (.iconst 3, 1) := by decide +kernel
theorem dX11_setFree_53 : decode cX11_setFree 53 = .ok (.goto 4, 3) := by decide +kernel
theorem dX11_setFree_56 : decode cX11_setFree 56 = .ok (.iconst 0, 1) := by decide +kernel
theorem dX11_setFree_57 : decode cX11_setFree 57 = .ok (.putfield 88, 3) := by decide +kernel
theorem dX11_setFree_60 : decode cX11_setFree 60 = .ok (.aload_n 0, 1) := by decide +kernel
theorem dX11_setFree_61 : decode cX11_setFree 61 = .ok (.getfield 88, 3) := by decide +kernel
theorem dX11_setFree_64 : decode cX11_setFree 64 = .ok (.ifCond .le 5, 3) := by decide +kernel
theorem dX11_setFree_67 : decode cX11_setFree 67 = .ok (.iconst 0, 1) := by decide +kernel
theorem dX11_setFree_68 : decode cX11_setFree 68 = .ok (.ireturn, 1) := by decide +kernel
theorem dX11_setFree_69 : decode cX11_setFree 69 = .ok (.aload_n 0, 1) := by decide +kernel
theorem dX11_setFree_70 : decode cX11_setFree 70 = .ok (.iload_n 1, 1) := by decide +kernel
theorem dX11_setFree_71 : decode cX11_setFree 71 = .ok (.iload_n 2, 1) := by decide +kernel
theorem dX11_setFree_72 : decode cX11_setFree 72 = .ok (.invokevirtual 102, 3) := by decide +kernel
theorem dX11_setFree_75 : decode cX11_setFree 75 = .ok (.istore 4, 2) := by decide +kernel
theorem dX11_setFree_77 : decode cX11_setFree 77 = .ok (.aload_n 0, 1) := by decide +kernel
theorem dX11_setFree_78 : decode cX11_setFree 78 = .ok (.iconst 0, 1) := by decide +kernel
theorem dX11_setFree_79 : decode cX11_setFree 79 = .ok (.putfield 175, 3) := by decide +kernel
theorem dX11_setFree_82 : decode cX11_setFree 82 = .ok (.iload_n 3, 1) := by decide +kernel
theorem dX11_setFree_83 : decode cX11_setFree 83 = .ok (.ifCond .eq 33, 3) := by decide +kernel
theorem dX11_setFree_86 : decode cX11_setFree 86 = .ok (.iload 4, 2) := by decide +kernel
theorem dX11_setFree_88 : decode cX11_setFree 88 = .ok (.iconst (-1), 1) := by decide +kernel
theorem dX11_setFree_89 : decode cX11_setFree 89 = .ok (.if_icmp .ne 27, 3) := by decide +kernel
theorem dX11_setFree_92 : decode cX11_setFree 92 = .ok (.aload_n 0, 1) := by decide +kernel
theorem dX11_setFree_93 : decode cX11_setFree 93 = .ok (.getfield 18, 3) := by decide +kernel
theorem dX11_setFree_96 : decode cX11_setFree 96 = .ok (.iload_n 1, 1) := by decide +kernel
theorem dX11_setFree_97 : decode cX11_setFree 97 = .ok (.aaload, 1) := by decide +kernel
theorem dX11_setFree_98 : decode cX11_setFree 98 = .ok (.aload_n 0, 1) := by decide +kernel
theorem dX11_setFree_99 : decode cX11_setFree 99 = .ok (.getfield 13, 3) := by decide +kernel
theorem dX11_setFree_102 : decode cX11_setFree 102 = .ok (.iload_n 1, 1) := by decide +kernel
theorem dX11_setFree_103 : decode cX11_setFree 103 = .ok (.iaload, 1) := by decide +kernel
theorem dX11_setFree_104 : decode cX11_setFree 104 = .ok (.iload_n 2, 1) := by decide +kernel
theorem dX11_setFree_105 : decode cX11_setFree 105 = .ok (.iastore, 1) := by decide +kernel
theorem dX11_setFree_106 : decode cX11_setFree 106 = .ok (.aload_n 0, 1) := by decide +kernel
theorem dX11_setFree_107 : decode cX11_setFree 107 = .ok (.getfield 13, 3) := by decide +kernel
theorem dX11_setFree_110 : decode cX11_setFree 110 = .ok (.iload_n 1, 1) := by decide +kernel
theorem dX11_setFree_111 : decode cX11_setFree 111 = .ok (.dup2, 1) := by decide +kernel
theorem dX11_setFree_112 : decode cX11_setFree 112 = .ok (.iaload, 1) := by decide +kernel
theorem dX11_setFree_113 : decode cX11_setFree 113 = .ok (.iconst 1, 1) := by decide +kernel
theorem dX11_setFree_114 : decode cX11_setFree 114 = .ok (.iadd, 1) := by decide +kernel
theorem dX11_setFree_115 : decode cX11_setFree 115 = .ok (.iastore, 1) := by decide +kernel
theorem dX11_setFree_116 : decode cX11_setFree 116 = .ok (.iload_n 3, 1) := by decide +kernel
theorem dX11_setFree_117 : decode cX11_setFree 117 = .ok (.ifCond .ne 41, 3) := by decide +kernel
theorem dX11_setFree_120 : decode cX11_setFree 120 = .ok (.iload 4, 2) := by decide +kernel
theorem dX11_setFree_122 : decode cX11_setFree 122 = .ok (.iconst (-1), 1) := by decide +kernel
theorem dX11_setFree_123 : decode cX11_setFree 123 = .ok (.if_icmp .eq 35, 3) := by decide +kernel
theorem dX11_setFree_126 : decode cX11_setFree 126 = .ok (.aload_n 0, 1) := by decide +kernel
theorem dX11_setFree_127 : decode cX11_setFree 127 = .ok (.getfield 13, 3) := by decide +kernel
theorem dX11_setFree_130 : decode cX11_setFree 130 = .ok (.iload_n 1, 1) := by decide +kernel
theorem dX11_setFree_131 : decode cX11_setFree 131 = .ok (.dup2, 1) := by decide +kernel
theorem dX11_setFree_132 : decode cX11_setFree 132 = .ok (.iaload, 1) := by decide +kernel
theorem dX11_setFree_133 : decode cX11_setFree 133 = .ok (.iconst 1, 1) := by decide +kernel
theorem dX11_setFree_134 : decode cX11_setFree 134 = .ok (.isub, 1) := by decide +kernel
theorem dX11_setFree_135 : decode cX11_setFree 135 = .ok (.iastore, 1) := by decide +kernel
theorem dX11_setFree_136 : decode cX11_setFree 136 = .ok (.aload_n 0, 1) := by decide +kernel
theorem dX11_setFree_137 : decode cX11_setFree 137 = .ok (.getfield 18, 3) := by decide +kernel
theorem dX11_setFree_140 : decode cX11_setFree 140 = .ok (.iload_n 1, 1) := by decide +kernel
theorem dX11_setFree_141 : decode cX11_setFree 141 = .ok (.aaload, 1) := by decide +kernel
theorem dX11_setFree_142 : decode cX11_setFree 142 = .ok (.iload 4, 2) := by decide +kernel
theorem dX11_setFree_144 : decode cX11_setFree 144 = .ok (.aload_n 0, 1) := by decide +kernel
theorem dX11_setFree_145 : decode cX11_setFree 145 = .ok (.getfield 18, 3) := by decide +kernel
theorem dX11_setFree_148 : decode cX11_setFree 148 = .ok (.iload_n 1, 1) := by decide +kernel
theorem dX11_setFree_149 : decode cX11_setFree 149 = .ok (.aaload, 1) := by decide +kernel
theorem dX11_setFree_150 : decode cX11_setFree 150 = .ok (.aload_n 0, 1) := by decide +kernel
theorem dX11_setFree_151 : decode cX11_setFree 151 = .ok (.getfield 13, 3) := by decide +kernel
theorem dX11_setFree_154 : decode cX11_setFree 154 = .ok (.iload_n 1, 1) := by decide +kernel
theorem dX11_setFree_155 : decode cX11_setFree 155 = .ok (.iaload, 1) := by decide +kernel
theorem dX11_setFree_156 : decode cX11_setFree 156 = .ok (.iaload, 1) := by decide +kernel
theorem dX11_setFree_157 : decode cX11_setFree 157 = .ok (.iastore, 1) := by decide +kernel
theorem dX11_setFree_158 : decode cX11_setFree 158 = .ok (.iload 4, 2) := by decide +kernel
theorem dX11_setFree_160 : decode cX11_setFree 160 = .ok (.iconst (-1), 1) := by decide +kernel
theorem dX11_setFree_161 : decode cX11_setFree 161 = .ok (.if_icmp .eq 7, 3) := by decide +kernel
theorem dX11_setFree_164 : decode cX11_setFree 164 = .ok (.iconst 1, 1) := by decide +kernel
theorem dX11_setFree_165 : decode cX11_setFree 165 = .ok (.goto 4, 3) := by decide +kernel
theorem dX11_setFree_168 : decode cX11_setFree 168 = .ok (.iconst 0, 1) := by decide +kernel
theorem dX11_setFree_169 : decode cX11_setFree 169 = .ok (.ireturn, 1) := by decide +kernel
theorem dX11_setCrew_0 : decode cX11_setCrew 0 = .ok (.aload_n 0, 1) := by decide +kernel
theorem dX11_setCrew_1 : decode cX11_setCrew 1 = .ok (.iconst 0, 1) := by decide +kernel
theorem dX11_setCrew_2 : decode cX11_setCrew 2 = .ok (.putfield 88, 3) := by decide +kernel
theorem dX11_setCrew_5 : decode cX11_setCrew 5 = .ok (.iload_n 1, 1) := by decide +kernel
theorem dX11_setCrew_6 : decode cX11_setCrew 6 = .ok (.invokestatic 198, 3) := by decide +kernel
theorem dX11_setCrew_9 : decode cX11_setCrew 9 = .ok (.ifCond .ne 9, 3) := by decide +kernel
theorem dX11_setCrew_12 : decode cX11_setCrew 12 = .ok (.aload_n 0, 1) := by decide +kernel
theorem dX11_setCrew_13 : decode cX11_setCrew 13 = .ok (.iconst 1, 1) := by decide +kernel
theorem dX11_setCrew_14 : decode cX11_setCrew 14 = .ok (.invokevirtual 194, 3) := by decide +kernel
theorem dX11_setCrew_17 : decode cX11_setCrew 17 = .ok (.ireturn, 1) := by decide +kernel
theorem dX11_setCrew_18 : decode cX11_setCrew 18 = .ok (.iload_n 2, 1) := by decide +kernel
theorem dX11_setCrew_19 : decode cX11_setCrew 19 = .ok (.iconst 0, 1) := by decide +kernel
theorem dX11_setCrew_20 : decode cX11_setCrew 20 = .ok (.bipush 9, 2) := by decide +kernel
theorem dX11_setCrew_22 : decode cX11_setCrew 22 = .ok (.invokestatic 92, 3) := by decide +kernel
theorem dX11_setCrew_25 : decode cX11_setCrew 25 = .ok (.ifCond .eq 13, 3) := by decide +kernel
theorem dX11_setCrew_28 : decode cX11_setCrew 28 = .ok (.iload_n 3, 1) := by decide +kernel
theorem dX11_setCrew_29 : decode cX11_setCrew 29 = .ok (.iconst 0, 1) := by decide +kernel
theorem dX11_setCrew_30 : decode cX11_setCrew 30 = .ok (.bipush 99, 2) := by decide +kernel
theorem dX11_setCrew_32 : decode cX11_setCrew 32 = .ok (.invokestatic 92, 3) := by decide +kernel
theorem dX11_setCrew_35 : decode cX11_setCrew 35 = .ok (.ifCond .ne 9, 3) := by decide +kernel
theorem dX11_setCrew_38 : decode cX11_setCrew 38 = .ok (.aload_n 0, 1) := by decide +kernel
theorem dX11_setCrew_39 : decode cX11_setCrew 39 = .ok (.iconst 2, 1) := by decide +kernel
theorem dX11_setCrew_40 : decode cX11_setCrew 40 = .ok (.invokevirtual 194, 3) := by decide +kernel
theorem dX11_setCrew_43 : decode cX11_setCrew 43 = .ok (.ireturn, 1) := by decide +kernel
theorem dX11_setCrew_44 : decode cX11_setCrew 44 = .ok (.aload_n 0, 1) := by decide +kernel
theorem dX11_setCrew_45 : decode cX11_setCrew 45 = .ok (.getfield 21, 3) := by decide +kernel
theorem dX11_setCrew_48 : decode cX11_setCrew 48 = .ok (.iload_n 1, 1) := by decide +kernel
theorem dX11_setCrew_49 : decode cX11_setCrew 49 = .ok (.iaload, 1) := by decide +kernel
theorem dX11_setCrew_50 : decode cX11_setCrew 50 = .ok (.istore 4, 2) := by decide +kernel
theorem dX11_setCrew_52 : decode cX11_setCrew 52 = .ok (.aload_n 0, 1) := by decide +kernel
theorem dX11_setCrew_53 : decode cX11_setCrew 53 = .ok (.getfield 21, 3) := by decide +kernel
theorem dX11_setCrew_56 : decode cX11_setCrew 56 = .ok (.iload_n 1, 1) := by decide +kernel
theorem dX11_setCrew_57 : decode cX11_setCrew 57 = .ok (.iload_n 2, 1) := by decide +kernel
theorem dX11_setCrew_58 : decode cX11_setCrew 58 = .ok (.iastore, 1) := by decide +kernel
theorem dX11_setCrew_59 : decode cX11_setCrew 59 = .ok (.aload_n 0, 1) := by decide +kernel
theorem dX11_setCrew_60 : decode cX11_setCrew 60 = .ok (.getfield 24, 3) := by decide +kernel
theorem dX11_setCrew_63 : decode cX11_setCrew 63 = .ok (.iload_n 1, 1) := by decide +kernel
theorem dX11_setCrew_64 : decode cX11_setCrew 64 = .ok (.iload_n 3, 1) := by decide +kernel
theorem dX11_setCrew_65 : decode cX11_setCrew 65 = .ok (.iastore, 1) := by decide +kernel
theorem dX11_setCrew_66 : decode cX11_setCrew 66 = .ok (.aload_n 0, 1) := by decide +kernel
theorem dX11_setCrew_67 : decode cX11_setCrew 67 = .ok (.iconst 0, 1) := by decide +kernel
theorem dX11_setCrew_68 : decode cX11_setCrew 68 = .ok (.putfield 175, 3) := by decide +kernel
theorem dX11_setCrew_71 : decode cX11_setCrew 71 = .ok (.iload 4, 2) := by decide +kernel
theorem dX11_setCrew_73 : decode cX11_setCrew 73 = .ok (.ireturn, 1) := by decide +kernel
theorem dX11_addTask_0 : decode cX11_addTask 0 = .ok (.aload_n 0, 1) := by decide +kernel
theorem dX11_addTask_1 : decode cX11_addTask 1 = .ok (.iconst 0, 1) := by decide +kernel
theorem dX11_addTask_2 : decode cX11_addTask 2 = .ok (.putfield 88, 3) := by decide +kernel
theorem dX11_addTask_5 : decode cX11_addTask 5 = .ok (.iload_n 2, 1) := by decide +kernel
theorem dX11_addTask_6 : decode cX11_addTask 6 = .ok (.invokestatic 191, 3) := by decide +kernel
theorem dX11_addTask_9 : decode cX11_addTask 9 = .ok (.ifCond .ne 9, 3) := by decide +kernel
theorem dX11_addTask_12 : decode cX11_addTask 12 = .ok (.aload_n 0, 1) := by decide +kernel
theorem dX11_addTask_13 : decode cX11_addTask 13 = .ok (.iconst 1, 1) := by decide +kernel
theorem dX11_addTask_14 : decode cX11_addTask 14 = .ok (.invokevirtual 194, 3) := by decide +kernel
theorem dX11_addTask_17 : decode cX11_addTask 17 = .ok (.ireturn, 1) := by decide +kernel
theorem dX11_addTask_18 : decode cX11_addTask 18 = .ok (.iload_n 1, 1) := by decide +kernel
theorem dX11_addTask_19 : decode cX11_addTask 19 = .ok (.iconst 0, 1) := by decide +kernel
theorem dX11_addTask_20 : decode cX11_addTask 20 = .ok (.bipush 20, 2) := by decide +kernel
theorem dX11_addTask_22 : decode cX11_addTask 22 = .ok (.invokestatic 92, 3) := by decide +kernel
theorem dX11_addTask_25 : decode cX11_addTask 25 = .ok (.ifCond .ne 9, 3) := by decide +kernel
theorem dX11_addTask_28 : decode cX11_addTask 28 = .ok (.aload_n 0, 1) := by decide +kernel
theorem dX11_addTask_29 : decode cX11_addTask 29 = .ok (.iconst 2, 1) := by decide +kernel
theorem dX11_addTask_30 : decode cX11_addTask 30 = .ok (.invokevirtual 194, 3) := by decide +kernel
theorem dX11_addTask_33 : decode cX11_addTask 33 = .ok (.ireturn, 1) := by decide +kernel
theorem dX11_addTask_34 : decode cX11_addTask 34 = .ok (.aload_n 0, 1) := by decide +kernel
theorem dX11_addTask_35 : decode cX11_addTask 35 = .ok (.getfield 96, 3) := by decide +kernel
theorem dX11_addTask_38 : decode cX11_addTask 38 = .ok (.bipush 24, 2) := by decide +kernel
theorem dX11_addTask_40 : decode cX11_addTask 40 = .ok (.if_icmp .ne 9, 3) := by decide +kernel
theorem dX11_addTask_43 : decode cX11_addTask 43 = .ok (.aload_n 0, 1) := by decide +kernel
theorem dX11_addTask_44 : decode cX11_addTask 44 = .ok (.iconst 3, 1) := by decide +kernel
theorem dX11_addTask_45 : decode cX11_addTask 45 = .ok (.invokevirtual 194, 3) := by decide +kernel
theorem dX11_addTask_48 : decode cX11_addTask 48 = .ok (.ireturn, 1) := by decide +kernel
theorem dX11_addTask_49 : decode cX11_addTask 49 = .ok (.aload_n 0, 1) := by decide +kernel
theorem dX11_addTask_50 : decode cX11_addTask 50 = .ok (.getfield 27, 3) := by decide +kernel
theorem dX11_addTask_53 : decode cX11_addTask 53 = .ok (.aload_n 0, 1) := by decide +kernel
theorem dX11_addTask_54 : decode cX11_addTask 54 = .ok (.getfield 96, 3) := by decide +kernel
theorem dX11_addTask_57 : decode cX11_addTask 57 = .ok (.iload_n 1, 1) := by decide +kernel
theorem dX11_addTask_58 : decode cX11_addTask 58 = .ok (.iastore, 1) := by decide +kernel
theorem dX11_addTask_59 : decode cX11_addTask 59 = .ok (.aload_n 0, 1) := by decide +kernel
theorem dX11_addTask_60 : decode cX11_addTask 60 = .ok (.getfield 30, 3) := by decide +kernel
theorem dX11_addTask_63 : decode cX11_addTask 63 = .ok (.aload_n 0, 1) := by decide +kernel
theorem dX11_addTask_64 : decode cX11_addTask 64 = .ok (.getfield 96, 3) := by decide +kernel
theorem dX11_addTask_67 : decode cX11_addTask 67 = .ok (.iload_n 2, 1) := by decide +kernel
theorem dX11_addTask_68 : decode cX11_addTask 68 = .ok (.iastore, 1) := by decide +kernel
theorem dX11_addTask_69 : decode cX11_addTask 69 = .ok (.aload_n 0, 1) := by decide +kernel
theorem dX11_addTask_70 : decode cX11_addTask 70 = .ok (.dup, 1) := by decide +kernel
theorem dX11_addTask_71 : decode cX11_addTask 71 = .ok (.getfield 96, 3) := by decide +kernel
theorem dX11_addTask_74 : decode cX11_addTask 74 = .ok (.iconst 1, 1) := by decide +kernel
theorem dX11_addTask_75 : decode cX11_addTask 75 = .ok (.iadd, 1) := by decide +kernel
theorem dX11_addTask_76 : decode cX11_addTask 76 = .ok (.putfield 96, 3) := by decide +kernel
theorem dX11_addTask_79 : decode cX11_addTask 79 = .ok (.aload_n 0, 1) := by decide +kernel
theorem dX11_addTask_80 : decode cX11_addTask 80 = .ok (.iconst 0, 1) := by decide +kernel
theorem dX11_addTask_81 : decode cX11_addTask 81 = .ok (.putfield 175, 3) := by decide +kernel
theorem dX11_addTask_84 : decode cX11_addTask 84 = .ok (.aload_n 0, 1) := by decide +kernel
theorem dX11_addTask_85 : decode cX11_addTask 85 = .ok (.getfield 96, 3) := by decide +kernel
theorem dX11_addTask_88 : decode cX11_addTask 88 = .ok (.iconst 1, 1) := by decide +kernel
theorem dX11_addTask_89 : decode cX11_addTask 89 = .ok (.isub, 1) := by decide +kernel
theorem dX11_addTask_90 : decode cX11_addTask 90 = .ok (.ireturn, 1) := by decide +kernel
theorem dX11_setLength_0 : decode cX11_setLength 0 = .ok (.aload_n 0, 1) := by decide +kernel
theorem dX11_setLength_1 : decode cX11_setLength 1 = .ok (.iconst 0, 1) := by decide +kernel
theorem dX11_setLength_2 : decode cX11_setLength 2 = .ok (.putfield 88, 3) := by decide +kernel
theorem dX11_setLength_5 : decode cX11_setLength 5 = .ok (.aload_n 0, 1) := by decide +kernel
theorem dX11_setLength_6 : decode cX11_setLength 6 = .ok (.iload_n 1, 1) := by decide +kernel
theorem dX11_setLength_7 : decode cX11_setLength 7 = .ok (.invokevirtual 201, 3) := by decide +kernel
theorem dX11_setLength_10 : decode cX11_setLength 10 = .ok (.ifCond .ne 9, 3) := by decide +kernel
theorem dX11_setLength_13 : decode cX11_setLength 13 = .ok (.aload_n 0, 1) := by decide +kernel
theorem dX11_setLength_14 : decode cX11_setLength 14 = .ok (.iconst 1, 1) := by decide +kernel
theorem dX11_setLength_15 : decode cX11_setLength 15 = .ok (.invokevirtual 194, 3) := by decide +kernel
theorem dX11_setLength_18 : decode cX11_setLength 18 = .ok (.ireturn, 1) := by decide +kernel
theorem dX11_setLength_19 : decode cX11_setLength 19 = .ok (.iload_n 2, 1) := by decide +kernel
theorem dX11_setLength_20 : decode cX11_setLength 20 = .ok (.iconst 0, 1) := by decide +kernel
theorem dX11_setLength_21 : decode cX11_setLength 21 = .ok (.bipush 20, 2) := by decide +kernel
theorem dX11_setLength_23 : decode cX11_setLength 23 = .ok (.invokestatic 92, 3) := by decide +kernel
theorem dX11_setLength_26 : decode cX11_setLength 26 = .ok (.ifCond .ne 9, 3) := by decide +kernel
theorem dX11_setLength_29 : decode cX11_setLength 29 = .ok (.aload_n 0, 1) := by decide +kernel
theorem dX11_setLength_30 : decode cX11_setLength 30 = .ok (.iconst 2, 1) := by decide +kernel
theorem dX11_setLength_31 : decode cX11_setLength 31 = .ok (.invokevirtual 194, 3) := by decide +kernel
theorem dX11_setLength_34 : decode cX11_setLength 34 = .ok (.ireturn, 1) := by decide +kernel
theorem dX11_setLength_35 : decode cX11_setLength 35 = .ok (.aload_n 0, 1) := by decide +kernel
theorem dX11_setLength_36 : decode cX11_setLength 36 = .ok (.getfield 27, 3) := by decide +kernel
theorem dX11_setLength_39 : decode cX11_setLength 39 = .ok (.iload_n 1, 1) := by decide +kernel
theorem dX11_setLength_40 : decode cX11_setLength 40 = .ok (.iaload, 1) := by decide +kernel
theorem dX11_setLength_41 : decode cX11_setLength 41 = .ok (.istore_n 3, 1) := by decide +kernel
theorem dX11_setLength_42 : decode cX11_setLength 42 = .ok (.aload_n 0, 1) := by decide +kernel
theorem dX11_setLength_43 : decode cX11_setLength 43 = .ok (.getfield 27, 3) := by decide +kernel
theorem dX11_setLength_46 : decode cX11_setLength 46 = .ok (.iload_n 1, 1) := by decide +kernel
theorem dX11_setLength_47 : decode cX11_setLength 47 = .ok (.iload_n 2, 1) := by decide +kernel
theorem dX11_setLength_48 : decode cX11_setLength 48 = .ok (.iastore, 1) := by decide +kernel
theorem dX11_setLength_49 : decode cX11_setLength 49 = .ok (.aload_n 0, 1) := by decide +kernel
theorem dX11_setLength_50 : decode cX11_setLength 50 = .ok (.iconst 0, 1) := by decide +kernel
theorem dX11_setLength_51 : decode cX11_setLength 51 = .ok (.putfield 175, 3) := by decide +kernel
theorem dX11_setLength_54 : decode cX11_setLength 54 = .ok (.iload_n 3, 1) := by decide +kernel
theorem dX11_setLength_55 : decode cX11_setLength 55 = .ok (.ireturn, 1) := by decide +kernel
theorem dX11_setTerms_0 : decode cX11_setTerms 0 = .ok (.aload_n 0, 1) := by decide +kernel
theorem dX11_setTerms_1 : decode cX11_setTerms 1 = .ok (.iconst 0, 1) := by decide +kernel
theorem dX11_setTerms_2 : decode cX11_setTerms 2 = .ok (.putfield 88, 3) := by decide +kernel
theorem dX11_setTerms_5 : decode cX11_setTerms 5 = .ok (.aload_n 0, 1) := by decide +kernel
theorem dX11_setTerms_6 : decode cX11_setTerms 6 = .ok (.iload_n 1, 1) := by decide +kernel
theorem dX11_setTerms_7 : decode cX11_setTerms 7 = .ok (.invokevirtual 201, 3) := by decide +kernel
theorem dX11_setTerms_10 : decode cX11_setTerms 10 = .ok (.ifCond .ne 9, 3) := by decide +kernel
theorem dX11_setTerms_13 : decode cX11_setTerms 13 = .ok (.aload_n 0, 1) := by decide +kernel
theorem dX11_setTerms_14 : decode cX11_setTerms 14 = .ok (.iconst 1, 1) := by decide +kernel
theorem dX11_setTerms_15 : decode cX11_setTerms 15 = .ok (.invokevirtual 194, 3) := by decide +kernel
theorem dX11_setTerms_18 : decode cX11_setTerms 18 = .ok (.ireturn, 1) := by decide +kernel
theorem dX11_setTerms_19 : decode cX11_setTerms 19 = .ok (.iload_n 2, 1) := by decide +kernel
theorem dX11_setTerms_20 : decode cX11_setTerms 20 = .ok (.iconst 0, 1) := by decide +kernel
theorem dX11_setTerms_21 : decode cX11_setTerms 21 = .ok (.bipush 9, 2) := by decide +kernel
theorem dX11_setTerms_23 : decode cX11_setTerms 23 = .ok (.invokestatic 92, 3) := by decide +kernel
theorem dX11_setTerms_26 : decode cX11_setTerms 26 = .ok (.ifCond .eq 14, 3) := by decide +kernel
theorem dX11_setTerms_29 : decode cX11_setTerms 29 = .ok (.iload_n 3, 1) := by decide +kernel
theorem dX11_setTerms_30 : decode cX11_setTerms 30 = .ok (.iconst 0, 1) := by decide +kernel
theorem dX11_setTerms_31 : decode cX11_setTerms 31 = .ok (.sipush 999, 3) := by decide +kernel
theorem dX11_setTerms_34 : decode cX11_setTerms 34 = .ok (.invokestatic 92, 3) := by decide +kernel
theorem dX11_setTerms_37 : decode cX11_setTerms 37 = .ok (.ifCond .ne 9, 3) := by decide +kernel
theorem dX11_setTerms_40 : decode cX11_setTerms 40 = .ok (.aload_n 0, 1) := by decide +kernel
theorem dX11_setTerms_41 : decode cX11_setTerms 41 = .ok (.iconst 2, 1) := by decide +kernel
theorem dX11_setTerms_42 : decode cX11_setTerms 42 = .ok (.invokevirtual 194, 3) := by decide +kernel
theorem dX11_setTerms_45 : decode cX11_setTerms 45 = .ok (.ireturn, 1) := by decide +kernel
theorem dX11_setTerms_46 : decode cX11_setTerms 46 = .ok (.aload_n 0, 1) := by decide +kernel
theorem dX11_setTerms_47 : decode cX11_setTerms 47 = .ok (.getfield 36, 3) := by decide +kernel
theorem dX11_setTerms_50 : decode cX11_setTerms 50 = .ok (.iload_n 1, 1) := by decide +kernel
theorem dX11_setTerms_51 : decode cX11_setTerms 51 = .ok (.iaload, 1) := by decide +kernel
theorem dX11_setTerms_52 : decode cX11_setTerms 52 = .ok (.istore 4, 2) := by decide +kernel
theorem dX11_setTerms_54 : decode cX11_setTerms 54 = .ok (.aload_n 0, 1) := by decide +kernel
theorem dX11_setTerms_55 : decode cX11_setTerms 55 = .ok (.getfield 33, 3) := by decide +kernel
theorem dX11_setTerms_58 : decode cX11_setTerms 58 = .ok (.iload_n 1, 1) := by decide +kernel
theorem dX11_setTerms_59 : decode cX11_setTerms 59 = .ok (.iload_n 2, 1) := by decide +kernel
theorem dX11_setTerms_60 : decode cX11_setTerms 60 = .ok (.iastore, 1) := by decide +kernel
theorem dX11_setTerms_61 : decode cX11_setTerms 61 = .ok (.aload_n 0, 1) := by decide +kernel
theorem dX11_setTerms_62 : decode cX11_setTerms 62 = .ok (.getfield 36, 3) := by decide +kernel
theorem dX11_setTerms_65 : decode cX11_setTerms 65 = .ok (.iload_n 1, 1) := by decide +kernel
theorem dX11_setTerms_66 : decode cX11_setTerms 66 = .ok (.iload_n 3, 1) := by decide +kernel
theorem dX11_setTerms_67 : decode cX11_setTerms 67 = .ok (.iastore, 1) := by decide +kernel
theorem dX11_setTerms_68 : decode cX11_setTerms 68 = .ok (.aload_n 0, 1) := by decide +kernel
theorem dX11_setTerms_69 : decode cX11_setTerms 69 = .ok (.iconst 0, 1) := by decide +kernel
theorem dX11_setTerms_70 : decode cX11_setTerms 70 = .ok (.putfield 175, 3) := by decide +kernel
theorem dX11_setTerms_73 : decode cX11_setTerms 73 = .ok (.iload 4, 2) := by decide +kernel
theorem dX11_setTerms_75 : decode cX11_setTerms 75 = .ok (.ireturn, 1) := by decide +kernel
theorem dX11_setNeed_0 : decode cX11_setNeed 0 = .ok (.aload_n 0, 1) := by decide +kernel
theorem dX11_setNeed_1 : decode cX11_setNeed 1 = .ok (.iconst 0, 1) := by decide +kernel
theorem dX11_setNeed_2 : decode cX11_setNeed 2 = .ok (.putfield 88, 3) := by decide +kernel
theorem dX11_setNeed_5 : decode cX11_setNeed 5 = .ok (.aload_n 0, 1) := by decide +kernel
theorem dX11_setNeed_6 : decode cX11_setNeed 6 = .ok (.iload_n 1, 1) := by decide +kernel
theorem dX11_setNeed_7 : decode cX11_setNeed 7 = .ok (.invokevirtual 201, 3) := by decide +kernel
theorem dX11_setNeed_10 : decode cX11_setNeed 10 = .ok (.ifCond .eq 10, 3) := by decide +kernel
theorem dX11_setNeed_13 : decode cX11_setNeed 13 = .ok (.iload_n 2, 1) := by decide +kernel
theorem dX11_setNeed_14 : decode cX11_setNeed 14 = .ok (.invokestatic 198, 3) := by decide +kernel
theorem dX11_setNeed_17 : decode cX11_setNeed 17 = .ok (.ifCond .ne 9, 3) := by decide +kernel
theorem dX11_setNeed_20 : decode cX11_setNeed 20 = .ok (.aload_n 0, 1) := by decide +kernel
theorem dX11_setNeed_21 : decode cX11_setNeed 21 = .ok (.iconst 1, 1) := by decide +kernel
theorem dX11_setNeed_22 : decode cX11_setNeed 22 = .ok (.invokevirtual 194, 3) := by decide +kernel
theorem dX11_setNeed_25 : decode cX11_setNeed 25 = .ok (.ireturn, 1) := by decide +kernel
theorem dX11_setNeed_26 : decode cX11_setNeed 26 = .ok (.iload_n 3, 1) := by decide +kernel
theorem dX11_setNeed_27 : decode cX11_setNeed 27 = .ok (.iconst 0, 1) := by decide +kernel
theorem dX11_setNeed_28 : decode cX11_setNeed 28 = .ok (.bipush 9, 2) := by decide +kernel
theorem dX11_setNeed_30 : decode cX11_setNeed 30 = .ok (.invokestatic 92, 3) := by decide +kernel
theorem dX11_setNeed_33 : decode cX11_setNeed 33 = .ok (.ifCond .ne 9, 3) := by decide +kernel
theorem dX11_setNeed_36 : decode cX11_setNeed 36 = .ok (.aload_n 0, 1) := by decide +kernel
theorem dX11_setNeed_37 : decode cX11_setNeed 37 = .ok (.iconst 2, 1) := by decide +kernel
theorem dX11_setNeed_38 : decode cX11_setNeed 38 = .ok (.invokevirtual 194, 3) := by decide +kernel
theorem dX11_setNeed_41 : decode cX11_setNeed 41 = .ok (.ireturn, 1) := by decide +kernel
theorem dX11_setNeed_42 : decode cX11_setNeed 42 = .ok (.aload_n 0, 1) := by decide +kernel
theorem dX11_setNeed_43 : decode cX11_setNeed 43 = .ok (.getfield 39, 3) := by decide +kernel
theorem dX11_setNeed_46 : decode cX11_setNeed 46 = .ok (.iload_n 1, 1) := by decide +kernel
theorem dX11_setNeed_47 : decode cX11_setNeed 47 = .ok (.aaload, 1) := by decide +kernel
theorem dX11_setNeed_48 : decode cX11_setNeed 48 = .ok (.iload_n 2, 1) := by decide +kernel
theorem dX11_setNeed_49 : decode cX11_setNeed 49 = .ok (.iaload, 1) := by decide +kernel
theorem dX11_setNeed_50 : decode cX11_setNeed 50 = .ok (.istore 4, 2) := by decide +kernel
theorem dX11_setNeed_52 : decode cX11_setNeed 52 = .ok (.aload_n 0, 1) := by decide +kernel
theorem dX11_setNeed_53 : decode cX11_setNeed 53 = .ok (.getfield 39, 3) := by decide +kernel
theorem dX11_setNeed_56 : decode cX11_setNeed 56 = .ok (.iload_n 1, 1) := by decide +kernel
theorem dX11_setNeed_57 : decode cX11_setNeed 57 = .ok (.aaload, 1) := by decide +kernel
theorem dX11_setNeed_58 : decode cX11_setNeed 58 = .ok (.iload_n 2, 1) := by decide +kernel
theorem dX11_setNeed_59 : decode cX11_setNeed 59 = .ok (.iload_n 3, 1) := by decide +kernel
theorem dX11_setNeed_60 : decode cX11_setNeed 60 = .ok (.iastore, 1) := by decide +kernel
theorem dX11_setNeed_61 : decode cX11_setNeed 61 = .ok (.aload_n 0, 1) := by decide +kernel
theorem dX11_setNeed_62 : decode cX11_setNeed 62 = .ok (.iconst 0, 1) := by decide +kernel
theorem dX11_setNeed_63 : decode cX11_setNeed 63 = .ok (.putfield 175, 3) := by decide +kernel
theorem dX11_setNeed_66 : decode cX11_setNeed 66 = .ok (.iload 4, 2) := by decide +kernel
theorem dX11_setNeed_68 : decode cX11_setNeed 68 = .ok (.ireturn, 1) := by decide +kernel
theorem dX11_comes_0 : decode cX11_comes 0 = .ok (.iconst 1, 1) := by decide +kernel
theorem dX11_comes_1 : decode cX11_comes 1 = .ok (.iload_n 1, 1) := by decide +kernel
theorem dX11_comes_2 : decode cX11_comes 2 = .ok (.ishl, 1) := by decide +kernel
theorem dX11_comes_3 : decode cX11_comes 3 = .ok (.istore_n 3, 1) := by decide +kernel
theorem dX11_comes_4 : decode cX11_comes 4 = .ok (.iconst 0, 1) := by decide +kernel
theorem dX11_comes_5 : decode cX11_comes 5 = .ok (.istore 4, 2) := by decide +kernel
theorem dX11_comes_7 : decode cX11_comes 7 = .ok (.iload_n 3, 1) := by decide +kernel
theorem dX11_comes_8 : decode cX11_comes 8 = .ok (.iload 4, 2) := by decide +kernel
theorem dX11_comes_10 : decode cX11_comes 10 = .ok (.if_icmp .eq 57, 3) := by decide +kernel
theorem dX11_comes_13 : decode cX11_comes 13 = .ok (.iload_n 3, 1) := by decide +kernel
theorem dX11_comes_14 : decode cX11_comes 14 = .ok (.istore 4, 2) := by decide +kernel
theorem dX11_comes_16 : decode cX11_comes 16 = .ok (.iconst 0, 1) := by decide +kernel
theorem dX11_comes_17 : decode cX11_comes 17 = .ok (.istore 5, 2) := by decide +kernel
theorem dX11_comes_19 : decode cX11_comes 19 = .ok (.iload 5, 2) := by decide +kernel
theorem dX11_comes_21 : decode cX11_comes 21 = .ok (.aload_n 0, 1) := by decide +kernel
theorem dX11_comes_22 : decode cX11_comes 22 = .ok (.getfield 99, 3) := by decide +kernel
theorem dX11_comes_25 : decode cX11_comes 25 = .ok (.if_icmp .ge 39, 3) := by decide +kernel
theorem dX11_comes_28 : decode cX11_comes 28 = .ok (.iload_n 3, 1) := by decide +kernel
theorem dX11_comes_29 : decode cX11_comes 29 = .ok (.aload_n 0, 1) := by decide +kernel
theorem dX11_comes_30 : decode cX11_comes 30 = .ok (.getfield 49, 3) := by decide +kernel
theorem dX11_comes_33 : decode cX11_comes 33 = .ok (.iload 5, 2) := by decide +kernel
theorem dX11_comes_35 : decode cX11_comes 35 = .ok (.aaload, 1) := by decide +kernel
theorem dX11_comes_36 : decode cX11_comes 36 = .ok (.iconst 0, 1) := by decide +kernel
theorem dX11_comes_37 : decode cX11_comes 37 = .ok (.iaload, 1) := by decide +kernel
theorem dX11_comes_38 : decode cX11_comes 38 = .ok (.ishr, 1) := by decide +kernel
theorem dX11_comes_39 : decode cX11_comes 39 = .ok (.iconst 1, 1) := by decide +kernel
theorem dX11_comes_40 : decode cX11_comes 40 = .ok (.iand, 1) := by decide +kernel
theorem dX11_comes_41 : decode cX11_comes 41 = .ok (.ifCond .eq 17, 3) := by decide +kernel
theorem dX11_comes_44 : decode cX11_comes 44 = .ok (.iload_n 3, 1) := by decide +kernel
theorem dX11_comes_45 : decode cX11_comes 45 = .ok (.iconst 1, 1) := by decide +kernel
theorem dX11_comes_46 : decode cX11_comes 46 = .ok (.aload_n 0, 1) := by decide +kernel
theorem dX11_comes_47 : decode cX11_comes 47 = .ok (.getfield 49, 3) := by decide +kernel
theorem dX11_comes_50 : decode cX11_comes 50 = .ok (.iload 5, 2) := by decide +kernel
theorem dX11_comes_52 : decode cX11_comes 52 = .ok (.aaload, 1) := by decide +kernel
theorem dX11_comes_53 : decode cX11_comes 53 = .ok (.iconst 1, 1) := by decide +kernel
theorem dX11_comes_54 : decode cX11_comes 54 = .ok (.iaload, 1) := by decide +kernel
theorem dX11_comes_55 : decode cX11_comes 55 = .ok (.ishl, 1) := by decide +kernel
theorem dX11_comes_56 : decode cX11_comes 56 = .ok (.ior, 1) := by decide +kernel
theorem dX11_comes_57 : decode cX11_comes 57 = .ok (.istore_n 3, 1) := by decide +kernel
theorem dX11_comes_58 : decode cX11_comes 58 = .ok (.iinc 5 1, 3) := by decide +kernel
theorem dX11_comes_61 : decode cX11_comes 61 = .ok (.goto (-42), 3) := by decide +kernel
theorem dX11_comes_64 : decode cX11_comes 64 = .ok (.goto (-57), 3) := by decide +kernel
theorem dX11_comes_67 : decode cX11_comes 67 = .ok (.iload_n 3, 1) := by decide +kernel
theorem dX11_comes_68 : decode cX11_comes 68 = .ok (.iload_n 2, 1) := by decide +kernel
theorem dX11_comes_69 : decode cX11_comes 69 = .ok (.ishr, 1) := by decide +kernel
theorem dX11_comes_70 : decode cX11_comes 70 = .ok (.iconst 1, 1) := by decide +kernel
theorem dX11_comes_71 : decode cX11_comes 71 = .ok (.iand, 1) := by decide +kernel
theorem dX11_comes_72 : decode cX11_comes 72 = .ok (.ifCond .eq 7, 3) := by decide +kernel
theorem dX11_comes_75 : decode cX11_comes 75 = .ok (.iconst 1, 1) := by decide +kernel
theorem dX11_comes_76 : decode cX11_comes 76 = .ok (.goto 4, 3) := by decide +kernel
theorem dX11_comes_79 : decode cX11_comes 79 = .ok (.iconst 0, 1) := by decide +kernel
theorem dX11_comes_80 : decode cX11_comes 80 = .ok (.ireturn, 1) := by decide +kernel
theorem dX11_link_0 : decode cX11_link 0 = .ok (.aload_n 0, 1) := by decide +kernel
theorem dX11_link_1 : decode cX11_link 1 = .ok (.iconst 0, 1) := by decide +kernel
theorem dX11_link_2 : decode cX11_link 2 = .ok (.putfield 88, 3) := by decide +kernel
theorem dX11_link_5 : decode cX11_link 5 = .ok (.aload_n 0, 1) := by decide +kernel
theorem dX11_link_6 : decode cX11_link 6 = .ok (.iload_n 1, 1) := by decide +kernel
theorem dX11_link_7 : decode cX11_link 7 = .ok (.invokevirtual 201, 3) := by decide +kernel
theorem dX11_link_10 : decode cX11_link 10 = .ok (.ifCond .eq 11, 3) := by decide +kernel
theorem dX11_link_13 : decode cX11_link 13 = .ok (.aload_n 0, 1) := by decide +kernel
theorem dX11_link_14 : decode cX11_link 14 = .ok (.iload_n 2, 1) := by decide +kernel
theorem dX11_link_15 : decode cX11_link 15 = .ok (.invokevirtual 201, 3) := by decide +kernel
theorem dX11_link_18 : decode cX11_link 18 = .ok (.ifCond .ne 9, 3) := by decide +kernel
theorem dX11_link_21 : decode cX11_link 21 = .ok (.aload_n 0, 1) := by decide +kernel
theorem dX11_link_22 : decode cX11_link 22 = .ok (.iconst 1, 1) := by decide +kernel
theorem dX11_link_23 : decode cX11_link 23 = .ok (.invokevirtual 194, 3) := by decide +kernel
theorem dX11_link_26 : decode cX11_link 26 = .ok (.ireturn, 1) := by decide +kernel
theorem dX11_link_27 : decode cX11_link 27 = .ok (.iload_n 3, 1) := by decide +kernel
theorem dX11_link_28 : decode cX11_link 28 = .ok (.iconst 0, 1) := by decide +kernel
theorem dX11_link_29 : decode cX11_link 29 = .ok (.iconst 2, 1) := by decide +kernel
theorem dX11_link_30 : decode cX11_link 30 = .ok (.invokestatic 92, 3) := by decide +kernel
theorem dX11_link_33 : decode cX11_link 33 = .ok (.ifCond .eq 14, 3) := by decide +kernel
theorem dX11_link_36 : decode cX11_link 36 = .ok (.iload 4, 2) := by decide +kernel
theorem dX11_link_38 : decode cX11_link 38 = .ok (.iconst 0, 1) := by decide +kernel
theorem dX11_link_39 : decode cX11_link 39 = .ok (.bipush 20, 2) := by decide +kernel
theorem dX11_link_41 : decode cX11_link 41 = .ok (.invokestatic 92, 3) := by decide +kernel
theorem dX11_link_44 : decode cX11_link 44 = .ok (.ifCond .ne 9, 3) := by decide +kernel
theorem dX11_link_47 : decode cX11_link 47 = .ok (.aload_n 0, 1) := by decide +kernel
theorem dX11_link_48 : decode cX11_link 48 = .ok (.iconst 2, 1) := by decide +kernel
theorem dX11_link_49 : decode cX11_link 49 = .ok (.invokevirtual 194, 3) := by decide +kernel
theorem dX11_link_52 : decode cX11_link 52 = .ok (.ireturn, 1) := by decide +kernel
theorem dX11_link_53 : decode cX11_link 53 = .ok (.aload_n 0, 1) := by decide +kernel
theorem dX11_link_54 : decode cX11_link 54 = .ok (.getfield 99, 3) := by decide +kernel
theorem dX11_link_57 : decode cX11_link 57 = .ok (.bipush 40, 2) := by decide +kernel
theorem dX11_link_59 : decode cX11_link 59 = .ok (.if_icmp .eq 12, 3) := by decide +kernel
theorem dX11_link_62 : decode cX11_link 62 = .ok (.aload_n 0, 1) := by decide +kernel
theorem dX11_link_63 : decode cX11_link 63 = .ok (.iload_n 2, 1) := by decide +kernel
theorem dX11_link_64 : decode cX11_link 64 = .ok (.iload_n 1, 1) := by decide +kernel
theorem dX11_link_65 : decode cX11_link 65 = .ok (.invokevirtual 204, 3) := by decide +kernel
theorem dX11_link_68 : decode cX11_link 68 = .ok (.ifCond .eq 9, 3) := by decide +kernel
theorem dX11_link_71 : decode cX11_link 71 = .ok (.aload_n 0, 1) := by decide +kernel
theorem dX11_link_72 : decode cX11_link 72 = .ok (.iconst 3, 1) := by decide +kernel
theorem dX11_link_73 : decode cX11_link 73 = .ok (.invokevirtual 194, 3) := by decide +kernel
theorem dX11_link_76 : decode cX11_link 76 = .ok (.ireturn, 1) := by decide +kernel
theorem dX11_link_77 : decode cX11_link 77 = .ok (.iconst 4, 1) := by decide +kernel
theorem dX11_link_78 : decode cX11_link 78 = .ok (.newarray .int, 2) := by decide +kernel
theorem dX11_link_80 : decode cX11_link 80 = .ok (.dup, 1) := by decide +kernel
theorem dX11_link_81 : decode cX11_link 81 = .ok (.iconst 0, 1) := by decide +kernel
theorem dX11_link_82 : decode cX11_link 82 = .ok (.iload_n 1, 1) := by decide +kernel
theorem dX11_link_83 : decode cX11_link 83 = .ok (.iastore, 1) := by decide +kernel
theorem dX11_link_84 : decode cX11_link 84 = .ok (.dup, 1) := by decide +kernel
theorem dX11_link_85 : decode cX11_link 85 = .ok (.iconst 1, 1) := by decide +kernel
theorem dX11_link_86 : decode cX11_link 86 = .ok (.iload_n 2, 1) := by decide +kernel
theorem dX11_link_87 : decode cX11_link 87 = .ok (.iastore, 1) := by decide +kernel
theorem dX11_link_88 : decode cX11_link 88 = .ok (.dup, 1) := by decide +kernel
theorem dX11_link_89 : decode cX11_link 89 = .ok (.iconst 2, 1) := by decide +kernel
theorem dX11_link_90 : decode cX11_link 90 = .ok (.iload_n 3, 1) := by decide +kernel
theorem dX11_link_91 : decode cX11_link 91 = .ok (.iastore, 1) := by decide +kernel
theorem dX11_link_92 : decode cX11_link 92 = .ok (.dup, 1) := by decide +kernel
theorem dX11_link_93 : decode cX11_link 93 = .ok (.iconst 3, 1) := by decide +kernel
theorem dX11_link_94 : decode cX11_link 94 = .ok (.iload 4, 2) := by decide +kernel
theorem dX11_link_96 : decode cX11_link 96 = .ok (.iastore, 1) := by decide +kernel
theorem dX11_link_97 : decode cX11_link 97 = .ok (.astore 5, 2) := by decide +kernel
theorem dX11_link_99 : decode cX11_link 99 = .ok (.aload_n 0, 1) := by decide +kernel
theorem dX11_link_100 : decode cX11_link 100 = .ok (.getfield 49, 3) := by decide +kernel
theorem dX11_link_103 : decode cX11_link 103 = .ok (.aload_n 0, 1) := by decide +kernel
theorem dX11_link_104 : decode cX11_link 104 = .ok (.getfield 99, 3) := by decide +kernel
theorem dX11_link_107 : decode cX11_link 107 = .ok (.aload 5, 2) := by decide +kernel
theorem dX11_link_109 : decode cX11_link 109 = .ok (.aastore, 1) := by decide +kernel
theorem dX11_link_110 : decode cX11_link 110 = .ok (.aload_n 0, 1) := by decide +kernel
theorem dX11_link_111 : decode cX11_link 111 = .ok (.dup, 1) := by decide +kernel
theorem dX11_link_112 : decode cX11_link 112 = .ok (.getfield 99, 3) := by decide +kernel
theorem dX11_link_115 : decode cX11_link 115 = .ok (.iconst 1, 1) := by decide +kernel
theorem dX11_link_116 : decode cX11_link 116 = .ok (.iadd, 1) := by decide +kernel
theorem dX11_link_117 : decode cX11_link 117 = .ok (.putfield 99, 3) := by decide +kernel
theorem dX11_link_120 : decode cX11_link 120 = .ok (.aload_n 0, 1) := by decide +kernel
theorem dX11_link_121 : decode cX11_link 121 = .ok (.iconst 0, 1) := by decide +kernel
theorem dX11_link_122 : decode cX11_link 122 = .ok (.putfield 175, 3) := by decide +kernel
theorem dX11_link_125 : decode cX11_link 125 = .ok (.aload_n 0, 1) := by decide +kernel
theorem dX11_link_126 : decode cX11_link 126 = .ok (.getfield 99, 3) := by decide +kernel
theorem dX11_link_129 : decode cX11_link 129 = .ok (.iconst 1, 1) := by decide +kernel
theorem dX11_link_130 : decode cX11_link 130 = .ok (.isub, 1) := by decide +kernel
theorem dX11_link_131 : decode cX11_link 131 = .ok (.ireturn, 1) := by decide +kernel
theorem dX11_take_0 : decode cX11_take 0 = .ok (.aload_n 0, 1) := by decide +kernel
theorem dX11_take_1 : decode cX11_take 1 = .ok (.dup, 1) := by decide +kernel
theorem dX11_take_2 : decode cX11_take 2 = .ok (.getfield 99, 3) := by decide +kernel
theorem dX11_take_5 : decode cX11_take 5 = .ok (.iconst 1, 1) := by decide +kernel
theorem dX11_take_6 : decode cX11_take 6 = .ok (.isub, 1) := by decide +kernel
theorem dX11_take_7 : decode cX11_take 7 = .ok (.putfield 99, 3) := by decide +kernel
theorem dX11_take_10 : decode cX11_take 10 = .ok (.aload_n 0, 1) := by decide +kernel
theorem dX11_take_11 : decode cX11_take 11 = .ok (.getfield 49, 3) := by decide +kernel
theorem dX11_take_14 : decode cX11_take 14 = .ok (.iload_n 1, 1) := by decide +kernel
theorem dX11_take_15 : decode cX11_take 15 = .ok (.iconst 1, 1) := by decide +kernel
theorem dX11_take_16 : decode cX11_take 16 = .ok (.iadd, 1) := by decide +kernel
theorem dX11_take_17 : decode cX11_take 17 = .ok (.aload_n 0, 1) := by decide +kernel
theorem dX11_take_18 : decode cX11_take 18 = .ok (.getfield 49, 3) := by decide +kernel
theorem dX11_take_21 : decode cX11_take 21 = .ok (.iload_n 1, 1) := by decide +kernel
theorem dX11_take_22 : decode cX11_take 22 = .ok (.aload_n 0, 1) := by decide +kernel
theorem dX11_take_23 : decode cX11_take 23 = .ok (.getfield 99, 3) := by decide +kernel
theorem dX11_take_26 : decode cX11_take 26 = .ok (.iload_n 1, 1) := by decide +kernel
theorem dX11_take_27 : decode cX11_take 27 = .ok (.isub, 1) := by decide +kernel
theorem dX11_take_28 : decode cX11_take 28 = .ok (.invokestatic 207, 3) := by decide +kernel
theorem dX11_take_31 : decode cX11_take 31 = .ok (.aload_n 0, 1) := by decide +kernel
theorem dX11_take_32 : decode cX11_take 32 = .ok (.iconst 0, 1) := by decide +kernel
theorem dX11_take_33 : decode cX11_take 33 = .ok (.putfield 175, 3) := by decide +kernel
theorem dX11_take_36 : decode cX11_take 36 = .ok (.return_, 1) := by decide +kernel
theorem dX11_drop_0 : decode cX11_drop 0 = .ok (.aload_n 0, 1) := by decide +kernel
theorem dX11_drop_1 : decode cX11_drop 1 = .ok (.iconst 0, 1) := by decide +kernel
theorem dX11_drop_2 : decode cX11_drop 2 = .ok (.putfield 88, 3) := by decide +kernel
theorem dX11_drop_5 : decode cX11_drop 5 = .ok (.aload_n 0, 1) := by decide +kernel
theorem dX11_drop_6 : decode cX11_drop 6 = .ok (.iload_n 1, 1) := by decide +kernel
theorem dX11_drop_7 : decode cX11_drop 7 = .ok (.invokevirtual 213, 3) := by decide +kernel
theorem dX11_drop_10 : decode cX11_drop 10 = .ok (.ifCond .ne 9, 3) := by decide +kernel
theorem dX11_drop_13 : decode cX11_drop 13 = .ok (.aload_n 0, 1) := by decide +kernel
theorem dX11_drop_14 : decode cX11_drop 14 = .ok (.iconst 1, 1) := by decide +kernel
theorem dX11_drop_15 : decode cX11_drop 15 = .ok (.invokevirtual 194, 3) := by decide +kernel
theorem dX11_drop_18 : decode cX11_drop 18 = .ok (.ireturn, 1) := by decide +kernel
theorem dX11_drop_19 : decode cX11_drop 19 = .ok (.aload_n 0, 1) := by decide +kernel
theorem dX11_drop_20 : decode cX11_drop 20 = .ok (.iload_n 1, 1) := by decide +kernel
theorem dX11_drop_21 : decode cX11_drop 21 = .ok (.invokevirtual 216, 3) := by decide +kernel
theorem dX11_drop_24 : decode cX11_drop 24 = .ok (.aload_n 0, 1) := by decide +kernel
theorem dX11_drop_25 : decode cX11_drop 25 = .ok (.getfield 99, 3) := by decide +kernel
theorem dX11_drop_28 : decode cX11_drop 28 = .ok (.ireturn, 1) := by decide +kernel
theorem dX11_finish_0 : decode cX11_finish 0 = .ok (.aload_n 0, 1) := by decide +kernel
theorem dX11_finish_1 : decode cX11_finish 1 = .ok (.aload_n 0, 1) := by decide +kernel
theorem dX11_finish_2 : decode cX11_finish 2 = .ok (.iload_n 1, 1) := by decide +kernel
theorem dX11_finish_3 : decode cX11_finish 3 = .ok (.invokevirtual 201, 3) := by decide +kernel
theorem dX11_finish_6 : decode cX11_finish 6 = .ok (.ifCond .ne 7, 3) := by decide +kernel
theorem dX11_finish_9 : decode cX11_finish 9 = .ok (.iconst 1, 1) := by decide +kernel
theorem dX11_finish_10 : decode cX11_finish 10 = .ok (.goto 30, 3) := by decide +kernel
theorem dX11_finish_13 : decode cX11_finish 13 = .ok (.iload_n 2, 1) := by decide +kernel
theorem dX11_finish_14 : decode cX11_finish 14 = .ok (.iconst 0, 1) := by decide +kernel
theorem dX11_finish_15 : decode cX11_finish 15 = .ok (.sipush 999, 3) := by decide +kernel
theorem dX11_finish_18 : decode cX11_finish 18 = .ok (.invokestatic 92, 3) := by decide +kernel
theorem dX11_finish_21 : decode cX11_finish 21 = .ok (.ifCond .eq 14, 3) := by decide +kernel
theorem dX11_finish_24 : decode cX11_finish 24 = .ok (.iload_n 3, 1) := by decide +kernel
theorem dX11_finish_25 : decode cX11_finish 25 = .ok (.iload_n 2, 1) := by decide +kernel
theorem dX11_finish_26 : decode cX11_finish 26 = .ok (.sipush 999, 3) := by decide +kernel
theorem dX11_finish_29 : decode cX11_finish 29 = .ok (.invokestatic 92, 3) := by decide +kernel
theorem dX11_finish_32 : decode cX11_finish 32 = .ok (.ifCond .ne 7, 3) := by decide +kernel
theorem dX11_finish_35 : decode cX11_finish 35 = .ok (.iconst 2, 1) := by decide +kernel
theorem dX11_finish_36 : decode cX11_finish 36 = .ok (.goto 4, 3) := by decide +kernel
theorem dX11_finish_39 : decode cX11_finish 39 = .ok (.iconst 0, 1) := by decide +kernel
theorem dX11_finish_40 : decode cX11_finish 40 = .ok (.putfield 88, 3) := by decide +kernel
theorem dX11_finish_43 : decode cX11_finish 43 = .ok (.aload_n 0, 1) := by decide +kernel
theorem dX11_finish_44 : decode cX11_finish 44 = .ok (.getfield 88, 3) := by decide +kernel
theorem dX11_finish_47 : decode cX11_finish 47 = .ok (.ifCond .le 5, 3) := by decide +kernel
theorem dX11_finish_50 : decode cX11_finish 50 = .ok (.iconst 0, 1) := by decide +kernel
theorem dX11_finish_51 : decode cX11_finish 51 = .ok (.ireturn, 1) := by decide +kernel
theorem dX11_finish_52 : decode cX11_finish 52 = .ok (.aload_n 0, 1) := by decide +kernel
theorem dX11_finish_53 : decode cX11_finish 53 = .ok (.getfield 42, 3) := by decide +kernel
theorem dX11_finish_56 : decode cX11_finish 56 = .ok (.iload_n 1, 1) := by decide +kernel
theorem dX11_finish_57 : decode cX11_finish 57 = .ok (.baload, 1) := by decide +kernel
theorem dX11_finish_58 : decode cX11_finish 58 = .ok (.istore 4, 2) := by decide +kernel
theorem dX11_finish_60 : decode cX11_finish 60 = .ok (.aload_n 0, 1) := by decide +kernel
theorem dX11_finish_61 : decode cX11_finish 61 = .ok (.getfield 42, 3) := by decide +kernel
theorem dX11_finish_64 : decode cX11_finish 64 = .ok (.iload_n 1, 1) := by decide +kernel
theorem dX11_finish_65 : decode cX11_finish 65 = .ok (.iconst 1, 1) := by decide +kernel
theorem dX11_finish_66 : decode cX11_finish 66 = .ok (.bastore, 1) := by decide +kernel
theorem dX11_finish_67 : decode cX11_finish 67 = .ok (.aload_n 0, 1) := by decide +kernel
theorem dX11_finish_68 : decode cX11_finish 68 = .ok (.getfield 46, 3) := by decide +kernel
theorem dX11_finish_71 : decode cX11_finish 71 = .ok (.iconst 0, 1) := by decide +kernel
theorem dX11_finish_72 : decode cX11_finish 72 = .ok (.aaload, 1) := by decide +kernel
theorem dX11_finish_73 : decode cX11_finish 73 = .ok (.iload_n 1, 1) := by decide +kernel
theorem dX11_finish_74 : decode cX11_finish 74 = .ok (.iload_n 2, 1) := by decide +kernel
theorem dX11_finish_75 : decode cX11_finish 75 = .ok (.iastore, 1) := by decide +kernel
theorem dX11_finish_76 : decode cX11_finish 76 = .ok (.aload_n 0, 1) := by decide +kernel
theorem dX11_finish_77 : decode cX11_finish 77 = .ok (.getfield 46, 3) := by decide +kernel
theorem dX11_finish_80 : decode cX11_finish 80 = .ok (.iconst 1, 1) := by decide +kernel
theorem dX11_finish_81 : decode cX11_finish 81 = .ok (.aaload, 1) := by decide +kernel
theorem dX11_finish_82 : decode cX11_finish 82 = .ok (.iload_n 1, 1) := by decide +kernel
theorem dX11_finish_83 : decode cX11_finish 83 = .ok (.iload_n 3, 1) := by decide +kernel
theorem dX11_finish_84 : decode cX11_finish 84 = .ok (.iastore, 1) := by decide +kernel
theorem dX11_finish_85 : decode cX11_finish 85 = .ok (.aload_n 0, 1) := by decide +kernel
theorem dX11_finish_86 : decode cX11_finish 86 = .ok (.iconst 0, 1) := by decide +kernel
theorem dX11_finish_87 : decode cX11_finish 87 = .ok (.putfield 175, 3) := by decide +kernel
theorem dX11_finish_90 : decode cX11_finish 90 = .ok (.iload 4, 2) := by decide +kernel
theorem dX11_finish_92 : decode cX11_finish 92 = .ok (.ireturn, 1) := by decide +kernel
theorem dX11_reopen_0 : decode cX11_reopen 0 = .ok (.aload_n 0, 1) := by decide +kernel
theorem dX11_reopen_1 : decode cX11_reopen 1 = .ok (.aload_n 0, 1) := by decide +kernel
theorem dX11_reopen_2 : decode cX11_reopen 2 = .ok (.iload_n 1, 1) := by decide +kernel
theorem dX11_reopen_3 : decode cX11_reopen 3 = .ok (.invokevirtual 201, 3) := by decide +kernel
theorem dX11_reopen_6 : decode cX11_reopen 6 = .ok (.ifCond .eq 7, 3) := by decide +kernel
theorem dX11_reopen_9 : decode cX11_reopen 9 = .ok (.iconst 0, 1) := by decide +kernel
theorem dX11_reopen_10 : decode cX11_reopen 10 = .ok (.goto 4, 3) := by decide +kernel
theorem dX11_reopen_13 : decode cX11_reopen 13 = .ok (.iconst 1, 1) := by decide +kernel
theorem dX11_reopen_14 : decode cX11_reopen 14 = .ok (.putfield 88, 3) := by decide +kernel
theorem dX11_reopen_17 : decode cX11_reopen 17 = .ok (.aload_n 0, 1) := by decide +kernel
theorem dX11_reopen_18 : decode cX11_reopen 18 = .ok (.getfield 88, 3) := by decide +kernel
theorem dX11_reopen_21 : decode cX11_reopen 21 = .ok (.ifCond .le 5, 3) := by decide +kernel
theorem dX11_reopen_24 : decode cX11_reopen 24 = .ok (.iconst 0, 1) := by decide +kernel
theorem dX11_reopen_25 : decode cX11_reopen 25 = .ok (.ireturn, 1) := by decide +kernel
theorem dX11_reopen_26 : decode cX11_reopen 26 = .ok (.aload_n 0, 1) := by decide +kernel
theorem dX11_reopen_27 : decode cX11_reopen 27 = .ok (.getfield 42, 3) := by decide +kernel
theorem dX11_reopen_30 : decode cX11_reopen 30 = .ok (.iload_n 1, 1) := by decide +kernel
theorem dX11_reopen_31 : decode cX11_reopen 31 = .ok (.baload, 1) := by decide +kernel
theorem dX11_reopen_32 : decode cX11_reopen 32 = .ok (.istore_n 2, 1) := by decide +kernel
theorem dX11_reopen_33 : decode cX11_reopen 33 = .ok (.aload_n 0, 1) := by decide +kernel
theorem dX11_reopen_34 : decode cX11_reopen 34 = .ok (.getfield 42, 3) := by decide +kernel
theorem dX11_reopen_37 : decode cX11_reopen 37 = .ok (.iload_n 1, 1) := by decide +kernel
theorem dX11_reopen_38 : decode cX11_reopen 38 = .ok (.iconst 0, 1) := by decide +kernel
theorem dX11_reopen_39 : decode cX11_reopen 39 = .ok (.bastore, 1) := by decide +kernel
theorem dX11_reopen_40 : decode cX11_reopen 40 = .ok (.aload_n 0, 1) := by decide +kernel
theorem dX11_reopen_41 : decode cX11_reopen 41 = .ok (.iconst 0, 1) := by decide +kernel
theorem dX11_reopen_42 : decode cX11_reopen 42 = .ok (.putfield 175, 3) := by decide +kernel
theorem dX11_reopen_45 : decode cX11_reopen 45 = .ok (.iload_n 2, 1) := by decide +kernel
theorem dX11_reopen_46 : decode cX11_reopen 46 = .ok (.ireturn, 1) := by decide +kernel
theorem dX11_setRule_0 : decode cX11_setRule 0 = .ok (.aload_n 0, 1) := by decide +kernel
theorem dX11_setRule_1 : decode cX11_setRule 1 = .ok (.iconst 0, 1) := by decide +kernel
theorem dX11_setRule_2 : decode cX11_setRule 2 = .ok (.putfield 88, 3) := by decide +kernel
theorem dX11_setRule_5 : decode cX11_setRule 5 = .ok (.iload_n 1, 1) := by decide +kernel
theorem dX11_setRule_6 : decode cX11_setRule 6 = .ok (.iconst 0, 1) := by decide +kernel
theorem dX11_setRule_7 : decode cX11_setRule 7 = .ok (.iconst 3, 1) := by decide +kernel
theorem dX11_setRule_8 : decode cX11_setRule 8 = .ok (.invokestatic 92, 3) := by decide +kernel
theorem dX11_setRule_11 : decode cX11_setRule 11 = .ok (.ifCond .ne 9, 3) := by decide +kernel
theorem dX11_setRule_14 : decode cX11_setRule 14 = .ok (.aload_n 0, 1) := by decide +kernel
theorem dX11_setRule_15 : decode cX11_setRule 15 = .ok (.iconst 1, 1) := by decide +kernel
theorem dX11_setRule_16 : decode cX11_setRule 16 = .ok (.invokevirtual 194, 3) := by decide +kernel
theorem dX11_setRule_19 : decode cX11_setRule 19 = .ok (.ireturn, 1) := by decide +kernel
theorem dX11_setRule_20 : decode cX11_setRule 20 = .ok (.aload_n 0, 1) := by decide +kernel
theorem dX11_setRule_21 : decode cX11_setRule 21 = .ok (.getfield 143, 3) := by decide +kernel
theorem dX11_setRule_24 : decode cX11_setRule 24 = .ok (.istore_n 2, 1) := by decide +kernel
theorem dX11_setRule_25 : decode cX11_setRule 25 = .ok (.aload_n 0, 1) := by decide +kernel
theorem dX11_setRule_26 : decode cX11_setRule 26 = .ok (.iload_n 1, 1) := by decide +kernel
theorem dX11_setRule_27 : decode cX11_setRule 27 = .ok (.putfield 143, 3) := by decide +kernel
theorem dX11_setRule_30 : decode cX11_setRule 30 = .ok (.aload_n 0, 1) := by decide +kernel
theorem dX11_setRule_31 : decode cX11_setRule 31 = .ok (.iconst 0, 1) := by decide +kernel
theorem dX11_setRule_32 : decode cX11_setRule 32 = .ok (.putfield 175, 3) := by decide +kernel
theorem dX11_setRule_35 : decode cX11_setRule 35 = .ok (.iload_n 2, 1) := by decide +kernel
theorem dX11_setRule_36 : decode cX11_setRule 36 = .ok (.ireturn, 1) := by decide +kernel
theorem dX11_tasks_0 : decode cX11_tasks 0 = .ok (.aload_n 0, 1) := by decide +kernel
theorem dX11_tasks_1 : decode cX11_tasks 1 = .ok (.iconst 0, 1) := by decide +kernel
theorem dX11_tasks_2 : decode cX11_tasks 2 = .ok (.putfield 88, 3) := by decide +kernel
theorem dX11_tasks_5 : decode cX11_tasks 5 = .ok (.aload_n 0, 1) := by decide +kernel
theorem dX11_tasks_6 : decode cX11_tasks 6 = .ok (.getfield 96, 3) := by decide +kernel
theorem dX11_tasks_9 : decode cX11_tasks 9 = .ok (.ireturn, 1) := by decide +kernel
theorem dX11_links_0 : decode cX11_links 0 = .ok (.aload_n 0, 1) := by decide +kernel
theorem dX11_links_1 : decode cX11_links 1 = .ok (.iconst 0, 1) := by decide +kernel
theorem dX11_links_2 : decode cX11_links 2 = .ok (.putfield 88, 3) := by decide +kernel
theorem dX11_links_5 : decode cX11_links 5 = .ok (.aload_n 0, 1) := by decide +kernel
theorem dX11_links_6 : decode cX11_links 6 = .ok (.getfield 99, 3) := by decide +kernel
theorem dX11_links_9 : decode cX11_links 9 = .ok (.ireturn, 1) := by decide +kernel
theorem dX11_works_0 : decode cX11_works 0 = .ok (.aload_n 0, 1) := by decide +kernel
theorem dX11_works_1 : decode cX11_works 1 = .ok (.iload_n 1, 1) := by decide +kernel
theorem dX11_works_2 : decode cX11_works 2 = .ok (.invokestatic 191, 3) := by decide +kernel
theorem dX11_works_5 : decode cX11_works 5 = .ok (.ifCond .ne 7, 3) := by decide +kernel
theorem dX11_works_8 : decode cX11_works 8 = .ok (.iconst 1, 1) := by decide +kernel
theorem dX11_works_9 : decode cX11_works 9 = .ok (.goto 19, 3) := by decide +kernel
theorem dX11_works_12 : decode cX11_works 12 = .ok (.iload_n 2, 1) := by decide +kernel
theorem dX11_works_13 : decode cX11_works 13 = .ok (.iconst 0, 1) := by decide +kernel
theorem dX11_works_14 : decode cX11_works 14 = .ok (.sipush 9999, 3) := by decide +kernel
theorem dX11_works_17 : decode cX11_works 17 = .ok (.invokestatic 92, 3) := by decide +kernel
theorem dX11_works_20 : decode cX11_works 20 = .ok (.ifCond .ne 7, 3) := by decide +kernel
theorem dX11_works_23 : decode cX11_works 23 = .ok (.iconst 2, 1) := by decide +kernel
theorem dX11_works_24 : decode cX11_works 24 = .ok (.goto 4, 3) := by decide +kernel
theorem dX11_works_27 : decode cX11_works 27 = .ok (.iconst 0, 1) := by decide +kernel
theorem dX11_works_28 : decode cX11_works 28 = .ok (.putfield 88, 3) := by decide +kernel
theorem dX11_works_31 : decode cX11_works 31 = .ok (.aload_n 0, 1) := by decide +kernel
theorem dX11_works_32 : decode cX11_works 32 = .ok (.getfield 88, 3) := by decide +kernel
theorem dX11_works_35 : decode cX11_works 35 = .ok (.ifCond .ne 16, 3) := by decide +kernel
theorem dX11_works_38 : decode cX11_works 38 = .ok (.aload_n 0, 1) := by decide +kernel
theorem dX11_works_39 : decode cX11_works 39 = .ok (.iload_n 1, 1) := by decide +kernel
theorem dX11_works_40 : decode cX11_works 40 = .ok (.iload_n 2, 1) := by decide +kernel
theorem dX11_works_41 : decode cX11_works 41 = .ok (.invokevirtual 106, 3) := by decide +kernel
theorem dX11_works_44 : decode cX11_works 44 = .ok (.ifCond .eq 7, 3) := by decide +kernel
theorem dX11_works_47 : decode cX11_works 47 = .ok (.iconst 1, 1) := by decide +kernel
theorem dX11_works_48 : decode cX11_works 48 = .ok (.goto 4, 3) := by decide +kernel
theorem dX11_works_51 : decode cX11_works 51 = .ok (.iconst 0, 1) := by decide +kernel
theorem dX11_works_52 : decode cX11_works 52 = .ok (.ireturn, 1) := by decide +kernel
theorem dX11_hasTask_0 : decode cX11_hasTask 0 = .ok (.aload_n 0, 1) := by decide +kernel
theorem dX11_hasTask_1 : decode cX11_hasTask 1 = .ok (.invokevirtual 220, 3) := by decide +kernel
theorem dX11_hasTask_4 : decode cX11_hasTask 4 = .ok (.aload_n 0, 1) := by decide +kernel
theorem dX11_hasTask_5 : decode cX11_hasTask 5 = .ok (.aload_n 0, 1) := by decide +kernel
theorem dX11_hasTask_6 : decode cX11_hasTask 6 = .ok (.iload_n 1, 1) := by decide +kernel
theorem dX11_hasTask_7 : decode cX11_hasTask 7 = .ok (.invokevirtual 201, 3) := by decide +kernel
theorem dX11_hasTask_10 : decode cX11_hasTask 10 = .ok (.ifCond .eq 7, 3) := by decide +kernel
theorem dX11_hasTask_13 : decode cX11_hasTask 13 = .ok (.iconst 0, 1) := by decide +kernel
theorem dX11_hasTask_14 : decode cX11_hasTask 14 = .ok (.goto 4, 3) := by decide +kernel
theorem dX11_hasTask_17 : decode cX11_hasTask 17 = .ok (.iconst 1, 1) := by decide +kernel
theorem dX11_hasTask_18 : decode cX11_hasTask 18 = .ok (.putfield 88, 3) := by decide +kernel
theorem dX11_hasTask_21 : decode cX11_hasTask 21 = .ok (.aload_n 0, 1) := by decide +kernel
theorem dX11_hasTask_22 : decode cX11_hasTask 22 = .ok (.getfield 88, 3) := by decide +kernel
theorem dX11_hasTask_25 : decode cX11_hasTask 25 = .ok (.ifCond .ne 7, 3) := by decide +kernel
theorem dX11_hasTask_28 : decode cX11_hasTask 28 = .ok (.iconst 1, 1) := by decide +kernel
theorem dX11_hasTask_29 : decode cX11_hasTask 29 = .ok (.goto 4, 3) := by decide +kernel
theorem dX11_hasTask_32 : decode cX11_hasTask 32 = .ok (.iconst 0, 1) := by decide +kernel
theorem dX11_hasTask_33 : decode cX11_hasTask 33 = .ok (.ireturn, 1) := by decide +kernel
theorem dX11_earlyBegin_0 : decode cX11_earlyBegin 0 = .ok (.aload_n 0, 1) := by decide +kernel
theorem dX11_earlyBegin_1 : decode cX11_earlyBegin 1 = .ok (.iload_n 1, 1) := by decide +kernel
theorem dX11_earlyBegin_2 : decode cX11_earlyBegin 2 = .ok (.invokevirtual 223, 3) := by decide +kernel
theorem dX11_earlyBegin_5 : decode cX11_earlyBegin 5 = .ok (.ifCond .eq 14, 3) := by decide +kernel
theorem dX11_earlyBegin_8 : decode cX11_earlyBegin 8 = .ok (.aload_n 0, 1) := by decide +kernel
theorem dX11_earlyBegin_9 : decode cX11_earlyBegin 9 = .ok (.getfield 55, 3) := by decide +kernel
theorem dX11_earlyBegin_12 : decode cX11_earlyBegin 12 = .ok (.iconst 0, 1) := by decide +kernel
theorem dX11_earlyBegin_13 : decode cX11_earlyBegin 13 = .ok (.aaload, 1) := by decide +kernel
theorem dX11_earlyBegin_14 : decode cX11_earlyBegin 14 = .ok (.iload_n 1, 1) := by decide +kernel
theorem dX11_earlyBegin_15 : decode cX11_earlyBegin 15 = .ok (.iaload, 1) := by decide +kernel
theorem dX11_earlyBegin_16 : decode cX11_earlyBegin 16 = .ok (.goto 4, 3) := by decide +kernel
theorem dX11_earlyBegin_19 : decode cX11_earlyBegin 19 = .ok (.iconst 0, 1) := by decide +kernel
theorem dX11_earlyBegin_20 : decode cX11_earlyBegin 20 = .ok (.ireturn, 1) := by decide +kernel
theorem dX11_earlyEnd_0 : decode cX11_earlyEnd 0 = .ok (.aload_n 0, 1) := by decide +kernel
theorem dX11_earlyEnd_1 : decode cX11_earlyEnd 1 = .ok (.iload_n 1, 1) := by decide +kernel
theorem dX11_earlyEnd_2 : decode cX11_earlyEnd 2 = .ok (.invokevirtual 223, 3) := by decide +kernel
theorem dX11_earlyEnd_5 : decode cX11_earlyEnd 5 = .ok (.ifCond .eq 14, 3) := by decide +kernel
theorem dX11_earlyEnd_8 : decode cX11_earlyEnd 8 = .ok (.aload_n 0, 1) := by decide +kernel
theorem dX11_earlyEnd_9 : decode cX11_earlyEnd 9 = .ok (.getfield 55, 3) := by decide +kernel
theorem dX11_earlyEnd_12 : decode cX11_earlyEnd 12 = .ok (.iconst 1, 1) := by decide +kernel
theorem dX11_earlyEnd_13 : decode cX11_earlyEnd 13 = .ok (.aaload, 1) := by decide +kernel
theorem dX11_earlyEnd_14 : decode cX11_earlyEnd 14 = .ok (.iload_n 1, 1) := by decide +kernel
theorem dX11_earlyEnd_15 : decode cX11_earlyEnd 15 = .ok (.iaload, 1) := by decide +kernel
theorem dX11_earlyEnd_16 : decode cX11_earlyEnd 16 = .ok (.goto 4, 3) := by decide +kernel
theorem dX11_earlyEnd_19 : decode cX11_earlyEnd 19 = .ok (.iconst 0, 1) := by decide +kernel
theorem dX11_earlyEnd_20 : decode cX11_earlyEnd 20 = .ok (.ireturn, 1) := by decide +kernel
theorem dX11_lateBegin_0 : decode cX11_lateBegin 0 = .ok (.aload_n 0, 1) := by decide +kernel
theorem dX11_lateBegin_1 : decode cX11_lateBegin 1 = .ok (.iload_n 1, 1) := by decide +kernel
theorem dX11_lateBegin_2 : decode cX11_lateBegin 2 = .ok (.invokevirtual 223, 3) := by decide +kernel
theorem dX11_lateBegin_5 : decode cX11_lateBegin 5 = .ok (.ifCond .eq 14, 3) := by decide +kernel
theorem dX11_lateBegin_8 : decode cX11_lateBegin 8 = .ok (.aload_n 0, 1) := by decide +kernel
theorem dX11_lateBegin_9 : decode cX11_lateBegin 9 = .ok (.getfield 58, 3) := by decide +kernel
theorem dX11_lateBegin_12 : decode cX11_lateBegin 12 = .ok (.iconst 0, 1) := by decide +kernel
theorem dX11_lateBegin_13 : decode cX11_lateBegin 13 = .ok (.aaload, 1) := by decide +kernel
theorem dX11_lateBegin_14 : decode cX11_lateBegin 14 = .ok (.iload_n 1, 1) := by decide +kernel
theorem dX11_lateBegin_15 : decode cX11_lateBegin 15 = .ok (.iaload, 1) := by decide +kernel
theorem dX11_lateBegin_16 : decode cX11_lateBegin 16 = .ok (.goto 4, 3) := by decide +kernel
theorem dX11_lateBegin_19 : decode cX11_lateBegin 19 = .ok (.iconst 0, 1) := by decide +kernel
theorem dX11_lateBegin_20 : decode cX11_lateBegin 20 = .ok (.ireturn, 1) := by decide +kernel
theorem dX11_lateEnd_0 : decode cX11_lateEnd 0 = .ok (.aload_n 0, 1) := by decide +kernel
theorem dX11_lateEnd_1 : decode cX11_lateEnd 1 = .ok (.iload_n 1, 1) := by decide +kernel
theorem dX11_lateEnd_2 : decode cX11_lateEnd 2 = .ok (.invokevirtual 223, 3) := by decide +kernel
theorem dX11_lateEnd_5 : decode cX11_lateEnd 5 = .ok (.ifCond .eq 14, 3) := by decide +kernel
theorem dX11_lateEnd_8 : decode cX11_lateEnd 8 = .ok (.aload_n 0, 1) := by decide +kernel
theorem dX11_lateEnd_9 : decode cX11_lateEnd 9 = .ok (.getfield 58, 3) := by decide +kernel
theorem dX11_lateEnd_12 : decode cX11_lateEnd 12 = .ok (.iconst 1, 1) := by decide +kernel
theorem dX11_lateEnd_13 : decode cX11_lateEnd 13 = .ok (.aaload, 1) := by decide +kernel
theorem dX11_lateEnd_14 : decode cX11_lateEnd 14 = .ok (.iload_n 1, 1) := by decide +kernel
theorem dX11_lateEnd_15 : decode cX11_lateEnd 15 = .ok (.iaload, 1) := by decide +kernel
theorem dX11_lateEnd_16 : decode cX11_lateEnd 16 = .ok (.goto 4, 3) := by decide +kernel
theorem dX11_lateEnd_19 : decode cX11_lateEnd 19 = .ok (.iconst 0, 1) := by decide +kernel
theorem dX11_lateEnd_20 : decode cX11_lateEnd 20 = .ok (.ireturn, 1) := by decide +kernel
theorem dX11_room_0 : decode cX11_room 0 = .ok (.aload_n 0, 1) := by decide +kernel
theorem dX11_room_1 : decode cX11_room 1 = .ok (.iload_n 1, 1) := by decide +kernel
theorem dX11_room_2 : decode cX11_room 2 = .ok (.invokevirtual 223, 3) := by decide +kernel
theorem dX11_room_5 : decode cX11_room 5 = .ok (.ifCond .eq 12, 3) := by decide +kernel
theorem dX11_room_8 : decode cX11_room 8 = .ok (.aload_n 0, 1) := by decide +kernel
theorem dX11_room_9 : decode cX11_room 9 = .ok (.getfield 61, 3) := by decide +kernel
theorem dX11_room_12 : decode cX11_room 12 = .ok (.iload_n 1, 1) := by decide +kernel
theorem dX11_room_13 : decode cX11_room 13 = .ok (.iaload, 1) := by decide +kernel
theorem dX11_room_14 : decode cX11_room 14 = .ok (.goto 4, 3) := by decide +kernel
theorem dX11_room_17 : decode cX11_room 17 = .ok (.iconst 0, 1) := by decide +kernel
theorem dX11_room_18 : decode cX11_room 18 = .ok (.ireturn, 1) := by decide +kernel
theorem dX11_last_0 : decode cX11_last 0 = .ok (.aload_n 0, 1) := by decide +kernel
theorem dX11_last_1 : decode cX11_last 1 = .ok (.iconst 0, 1) := by decide +kernel
theorem dX11_last_2 : decode cX11_last 2 = .ok (.putfield 88, 3) := by decide +kernel
theorem dX11_last_5 : decode cX11_last 5 = .ok (.aload_n 0, 1) := by decide +kernel
theorem dX11_last_6 : decode cX11_last 6 = .ok (.invokevirtual 220, 3) := by decide +kernel
theorem dX11_last_9 : decode cX11_last 9 = .ok (.aload_n 0, 1) := by decide +kernel
theorem dX11_last_10 : decode cX11_last 10 = .ok (.getfield 133, 3) := by decide +kernel
theorem dX11_last_13 : decode cX11_last 13 = .ok (.ireturn, 1) := by decide +kernel
theorem dX11_tightNow_0 : decode cX11_tightNow 0 = .ok (.iconst 0, 1) := by decide +kernel
theorem dX11_tightNow_1 : decode cX11_tightNow 1 = .ok (.istore_n 1, 1) := by decide +kernel
theorem dX11_tightNow_2 : decode cX11_tightNow 2 = .ok (.iconst 0, 1) := by decide +kernel
theorem dX11_tightNow_3 : decode cX11_tightNow 3 = .ok (.istore_n 2, 1) := by decide +kernel
theorem dX11_tightNow_4 : decode cX11_tightNow 4 = .ok (.iload_n 2, 1) := by decide +kernel
theorem dX11_tightNow_5 : decode cX11_tightNow 5 = .ok (.aload_n 0, 1) := by decide +kernel
theorem dX11_tightNow_6 : decode cX11_tightNow 6 = .ok (.getfield 96, 3) := by decide +kernel
theorem dX11_tightNow_9 : decode cX11_tightNow 9 = .ok (.if_icmp .ge 35, 3) := by decide +kernel
theorem dX11_tightNow_12 : decode cX11_tightNow 12 = .ok (.iload_n 1, 1) := by decide +kernel
theorem dX11_tightNow_13 : decode cX11_tightNow 13 = .ok (.aload_n 0, 1) := by decide +kernel
theorem dX11_tightNow_14 : decode cX11_tightNow 14 = .ok (.getfield 42, 3) := by decide +kernel
theorem dX11_tightNow_17 : decode cX11_tightNow 17 = .ok (.iload_n 2, 1) := by decide +kernel
theorem dX11_tightNow_18 : decode cX11_tightNow 18 = .ok (.baload, 1) := by decide +kernel
theorem dX11_tightNow_19 : decode cX11_tightNow 19 = .ok (.ifCond .ne 16, 3) := by decide +kernel
theorem dX11_tightNow_22 : decode cX11_tightNow 22 = .ok (.aload_n 0, 1) := by decide +kernel
theorem dX11_tightNow_23 : decode cX11_tightNow 23 = .ok (.getfield 61, 3) := by decide +kernel
theorem dX11_tightNow_26 : decode cX11_tightNow 26 = .ok (.iload_n 2, 1) := by decide +kernel
theorem dX11_tightNow_27 : decode cX11_tightNow 27 = .ok (.iaload, 1) := by decide +kernel
theorem dX11_tightNow_28 : decode cX11_tightNow 28 = .ok (.ifCond .ne 7, 3) := by decide +kernel
theorem dX11_tightNow_31 : decode cX11_tightNow 31 = .ok (.iconst 1, 1) := by decide +kernel
theorem dX11_tightNow_32 : decode cX11_tightNow 32 = .ok (.goto 4, 3) := by decide +kernel
theorem dX11_tightNow_35 : decode cX11_tightNow 35 = .ok (.iconst 0, 1) := by decide +kernel
theorem dX11_tightNow_36 : decode cX11_tightNow 36 = .ok (.iadd, 1) := by decide +kernel
theorem dX11_tightNow_37 : decode cX11_tightNow 37 = .ok (.istore_n 1, 1) := by decide +kernel
theorem dX11_tightNow_38 : decode cX11_tightNow 38 = .ok (.iinc 2 1, 3) := by decide +kernel
theorem dX11_tightNow_41 : decode cX11_tightNow 41 = .ok (.goto (-37), 3) := by decide +kernel
theorem dX11_tightNow_44 : decode cX11_tightNow 44 = .ok (.iload_n 1, 1) := by decide +kernel
theorem dX11_tightNow_45 : decode cX11_tightNow 45 = .ok (.ireturn, 1) := by decide +kernel
theorem dX11_tight_0 : decode cX11_tight 0 = .ok (.aload_n 0, 1) := by decide +kernel
theorem dX11_tight_1 : decode cX11_tight 1 = .ok (.iconst 0, 1) := by decide +kernel
theorem dX11_tight_2 : decode cX11_tight 2 = .ok (.putfield 88, 3) := by decide +kernel
theorem dX11_tight_5 : decode cX11_tight 5 = .ok (.aload_n 0, 1) := by decide +kernel
theorem dX11_tight_6 : decode cX11_tight 6 = .ok (.invokevirtual 220, 3) := by decide +kernel
theorem dX11_tight_9 : decode cX11_tight 9 = .ok (.aload_n 0, 1) := by decide +kernel
theorem dX11_tight_10 : decode cX11_tight 10 = .ok (.invokevirtual 226, 3) := by decide +kernel
theorem dX11_tight_13 : decode cX11_tight 13 = .ok (.ireturn, 1) := by decide +kernel
theorem dX11_wantedOn_0 : decode cX11_wantedOn 0 = .ok (.iconst 0, 1) := by decide +kernel
theorem dX11_wantedOn_1 : decode cX11_wantedOn 1 = .ok (.istore_n 3, 1) := by decide +kernel
theorem dX11_wantedOn_2 : decode cX11_wantedOn 2 = .ok (.iconst 0, 1) := by decide +kernel
theorem dX11_wantedOn_3 : decode cX11_wantedOn 3 = .ok (.istore 4, 2) := by decide +kernel
theorem dX11_wantedOn_5 : decode cX11_wantedOn 5 = .ok (.iload 4, 2) := by decide +kernel
theorem dX11_wantedOn_7 : decode cX11_wantedOn 7 = .ok (.aload_n 0, 1) := by decide +kernel
theorem dX11_wantedOn_8 : decode cX11_wantedOn 8 = .ok (.getfield 96, 3) := by decide +kernel
theorem dX11_wantedOn_11 : decode cX11_wantedOn 11 = .ok (.if_icmp .ge 78, 3) := by decide +kernel
theorem dX11_wantedOn_14 : decode cX11_wantedOn 14 = .ok (.iload_n 3, 1) := by decide +kernel
theorem dX11_wantedOn_15 : decode cX11_wantedOn 15 = .ok (.iload_n 2, 1) := by decide +kernel
theorem dX11_wantedOn_16 : decode cX11_wantedOn 16 = .ok (.aload_n 0, 1) := by decide +kernel
theorem dX11_wantedOn_17 : decode cX11_wantedOn 17 = .ok (.getfield 55, 3) := by decide +kernel
theorem dX11_wantedOn_20 : decode cX11_wantedOn 20 = .ok (.iconst 0, 1) := by decide +kernel
theorem dX11_wantedOn_21 : decode cX11_wantedOn 21 = .ok (.aaload, 1) := by decide +kernel
theorem dX11_wantedOn_22 : decode cX11_wantedOn 22 = .ok (.iload 4, 2) := by decide +kernel
theorem dX11_wantedOn_24 : decode cX11_wantedOn 24 = .ok (.iaload, 1) := by decide +kernel
theorem dX11_wantedOn_25 : decode cX11_wantedOn 25 = .ok (.if_icmp .lt 55, 3) := by decide +kernel
theorem dX11_wantedOn_28 : decode cX11_wantedOn 28 = .ok (.iload_n 2, 1) := by decide +kernel
theorem dX11_wantedOn_29 : decode cX11_wantedOn 29 = .ok (.aload_n 0, 1) := by decide +kernel
theorem dX11_wantedOn_30 : decode cX11_wantedOn 30 = .ok (.getfield 55, 3) := by decide +kernel
theorem dX11_wantedOn_33 : decode cX11_wantedOn 33 = .ok (.iconst 1, 1) := by decide +kernel
theorem dX11_wantedOn_34 : decode cX11_wantedOn 34 = .ok (.aaload, 1) := by decide +kernel
theorem dX11_wantedOn_35 : decode cX11_wantedOn 35 = .ok (.iload 4, 2) := by decide +kernel
theorem dX11_wantedOn_37 : decode cX11_wantedOn 37 = .ok (.iaload, 1) := by decide +kernel
theorem dX11_wantedOn_38 : decode cX11_wantedOn 38 = .ok (.if_icmp .ge 42, 3) := by decide +kernel
theorem dX11_wantedOn_41 : decode cX11_wantedOn 41 = .ok (.aload_n 0, 1) := by decide +kernel
theorem dX11_wantedOn_42 : decode cX11_wantedOn 42 = .ok (.getfield 39, 3) := by decide +kernel
theorem dX11_wantedOn_45 : decode cX11_wantedOn 45 = .ok (.iload 4, 2) := by decide +kernel
theorem dX11_wantedOn_47 : decode cX11_wantedOn 47 = .ok (.aaload, 1) := by decide +kernel
theorem dX11_wantedOn_48 : decode cX11_wantedOn 48 = .ok (.iload_n 1, 1) := by decide +kernel
theorem dX11_wantedOn_49 : decode cX11_wantedOn 49 = .ok (.iaload, 1) := by decide +kernel
theorem dX11_wantedOn_50 : decode cX11_wantedOn 50 = .ok (.ifCond .le 30, 3) := by decide +kernel
theorem dX11_wantedOn_53 : decode cX11_wantedOn 53 = .ok (.aload_n 0, 1) := by decide +kernel
theorem dX11_wantedOn_54 : decode cX11_wantedOn 54 = .ok (.aload_n 0, 1) := by decide +kernel
theorem dX11_wantedOn_55 : decode cX11_wantedOn 55 = .ok (.getfield 30, 3) := by decide +kernel
theorem dX11_wantedOn_58 : decode cX11_wantedOn 58 = .ok (.iload 4, 2) := by decide +kernel
theorem dX11_wantedOn_60 : decode cX11_wantedOn 60 = .ok (.iaload, 1) := by decide +kernel
theorem dX11_wantedOn_61 : decode cX11_wantedOn 61 = .ok (.iload_n 2, 1) := by decide +kernel
theorem dX11_wantedOn_62 : decode cX11_wantedOn 62 = .ok (.invokevirtual 106, 3) := by decide +kernel
theorem dX11_wantedOn_65 : decode cX11_wantedOn 65 = .ok (.ifCond .eq 15, 3) := by decide +kernel
theorem dX11_wantedOn_68 : decode cX11_wantedOn 68 = .ok (.aload_n 0, 1) := by decide +kernel
theorem dX11_wantedOn_69 : decode cX11_wantedOn 69 = .ok (.getfield 39, 3) := by decide +kernel
theorem dX11_wantedOn_72 : decode cX11_wantedOn 72 = .ok (.iload 4, 2) := by decide +kernel
theorem dX11_wantedOn_74 : decode cX11_wantedOn 74 = .ok (.aaload, 1) := by decide +kernel
theorem dX11_wantedOn_75 : decode cX11_wantedOn 75 = .ok (.iload_n 1, 1) := by decide +kernel
theorem dX11_wantedOn_76 : decode cX11_wantedOn 76 = .ok (.iaload, 1) := by decide +kernel
theorem dX11_wantedOn_77 : decode cX11_wantedOn 77 = .ok (.goto 4, 3) := by decide +kernel
theorem dX11_wantedOn_80 : decode cX11_wantedOn 80 = .ok (.iconst 0, 1) := by decide +kernel
theorem dX11_wantedOn_81 : decode cX11_wantedOn 81 = .ok (.iadd, 1) := by decide +kernel
theorem dX11_wantedOn_82 : decode cX11_wantedOn 82 = .ok (.istore_n 3, 1) := by decide +kernel
theorem dX11_wantedOn_83 : decode cX11_wantedOn 83 = .ok (.iinc 4 1, 3) := by decide +kernel
theorem dX11_wantedOn_86 : decode cX11_wantedOn 86 = .ok (.goto (-81), 3) := by decide +kernel
theorem dX11_wantedOn_89 : decode cX11_wantedOn 89 = .ok (.iload_n 3, 1) := by decide +kernel
theorem dX11_wantedOn_90 : decode cX11_wantedOn 90 = .ok (.ireturn, 1) := by decide +kernel
theorem dX11_wanted_0 : decode cX11_wanted 0 = .ok (.aload_n 0, 1) := by decide +kernel
theorem dX11_wanted_1 : decode cX11_wanted 1 = .ok (.iconst 0, 1) := by decide +kernel
theorem dX11_wanted_2 : decode cX11_wanted 2 = .ok (.putfield 88, 3) := by decide +kernel
theorem dX11_wanted_5 : decode cX11_wanted 5 = .ok (.aload_n 0, 1) := by decide +kernel
theorem dX11_wanted_6 : decode cX11_wanted 6 = .ok (.invokevirtual 220, 3) := by decide +kernel
theorem dX11_wanted_9 : decode cX11_wanted 9 = .ok (.iload_n 1, 1) := by decide +kernel
theorem dX11_wanted_10 : decode cX11_wanted 10 = .ok (.invokestatic 198, 3) := by decide +kernel
theorem dX11_wanted_13 : decode cX11_wanted 13 = .ok (.ifCond .ne 9, 3) := by decide +kernel
theorem dX11_wanted_16 : decode cX11_wanted 16 = .ok (.aload_n 0, 1) := by decide +kernel
theorem dX11_wanted_17 : decode cX11_wanted 17 = .ok (.iconst 1, 1) := by decide +kernel
theorem dX11_wanted_18 : decode cX11_wanted 18 = .ok (.invokevirtual 194, 3) := by decide +kernel
theorem dX11_wanted_21 : decode cX11_wanted 21 = .ok (.ireturn, 1) := by decide +kernel
theorem dX11_wanted_22 : decode cX11_wanted 22 = .ok (.iload_n 2, 1) := by decide +kernel
theorem dX11_wanted_23 : decode cX11_wanted 23 = .ok (.iconst 0, 1) := by decide +kernel
theorem dX11_wanted_24 : decode cX11_wanted 24 = .ok (.sipush 9999, 3) := by decide +kernel
theorem dX11_wanted_27 : decode cX11_wanted 27 = .ok (.invokestatic 92, 3) := by decide +kernel
theorem dX11_wanted_30 : decode cX11_wanted 30 = .ok (.ifCond .eq 12, 3) := by decide +kernel
theorem dX11_wanted_33 : decode cX11_wanted 33 = .ok (.aload_n 0, 1) := by decide +kernel
theorem dX11_wanted_34 : decode cX11_wanted 34 = .ok (.iload_n 1, 1) := by decide +kernel
theorem dX11_wanted_35 : decode cX11_wanted 35 = .ok (.iload_n 2, 1) := by decide +kernel
theorem dX11_wanted_36 : decode cX11_wanted 36 = .ok (.invokevirtual 230, 3) := by decide +kernel
theorem dX11_wanted_39 : decode cX11_wanted 39 = .ok (.goto 8, 3) := by decide +kernel
theorem dX11_wanted_42 : decode cX11_wanted 42 = .ok (.aload_n 0, 1) := by decide +kernel
theorem dX11_wanted_43 : decode cX11_wanted 43 = .ok (.iconst 2, 1) := by decide +kernel
theorem dX11_wanted_44 : decode cX11_wanted 44 = .ok (.invokevirtual 194, 3) := by decide +kernel
theorem dX11_wanted_47 : decode cX11_wanted 47 = .ok (.ireturn, 1) := by decide +kernel
theorem dX11_overloadedNow_0 : decode cX11_overloadedNow 0 = .ok (.iconst 0, 1) := by decide +kernel
theorem dX11_overloadedNow_1 : decode cX11_overloadedNow 1 = .ok (.istore_n 2, 1) := by decide +kernel
theorem dX11_overloadedNow_2 : decode cX11_overloadedNow 2 = .ok (.iconst 0, 1) := by decide +kernel
theorem dX11_overloadedNow_3 : decode cX11_overloadedNow 3 = .ok (.istore_n 3, 1) := by decide +kernel
theorem dX11_overloadedNow_4 : decode cX11_overloadedNow 4 = .ok (.iload_n 3, 1) := by decide +kernel
theorem dX11_overloadedNow_5 : decode cX11_overloadedNow 5 = .ok (.aload_n 0, 1) := by decide +kernel
theorem dX11_overloadedNow_6 : decode cX11_overloadedNow 6 = .ok (.getfield 133, 3) := by decide +kernel
theorem dX11_overloadedNow_9 : decode cX11_overloadedNow 9 = .ok (.if_icmp .ge 32, 3) := by decide +kernel
theorem dX11_overloadedNow_12 : decode cX11_overloadedNow 12 = .ok (.iload_n 2, 1) := by decide +kernel
theorem dX11_overloadedNow_13 : decode cX11_overloadedNow 13 = .ok (.aload_n 0, 1) := by decide +kernel
theorem dX11_overloadedNow_14 : decode cX11_overloadedNow 14 = .ok (.iload_n 1, 1) := by decide +kernel
theorem dX11_overloadedNow_15 : decode cX11_overloadedNow 15 = .ok (.iload_n 3, 1) := by decide +kernel
theorem dX11_overloadedNow_16 : decode cX11_overloadedNow 16 = .ok (.invokevirtual 230, 3) := by decide +kernel
theorem dX11_overloadedNow_19 : decode cX11_overloadedNow 19 = .ok (.aload_n 0, 1) := by decide +kernel
theorem dX11_overloadedNow_20 : decode cX11_overloadedNow 20 = .ok (.getfield 21, 3) := by decide +kernel
theorem dX11_overloadedNow_23 : decode cX11_overloadedNow 23 = .ok (.iload_n 1, 1) := by decide +kernel
theorem dX11_overloadedNow_24 : decode cX11_overloadedNow 24 = .ok (.iaload, 1) := by decide +kernel
theorem dX11_overloadedNow_25 : decode cX11_overloadedNow 25 = .ok (.if_icmp .le 7, 3) := by decide +kernel
theorem dX11_overloadedNow_28 : decode cX11_overloadedNow 28 = .ok (.iconst 1, 1) := by decide +kernel
theorem dX11_overloadedNow_29 : decode cX11_overloadedNow 29 = .ok (.goto 4, 3) := by decide +kernel
theorem dX11_overloadedNow_32 : decode cX11_overloadedNow 32 = .ok (.iconst 0, 1) := by decide +kernel
theorem dX11_overloadedNow_33 : decode cX11_overloadedNow 33 = .ok (.iadd, 1) := by decide +kernel
theorem dX11_overloadedNow_34 : decode cX11_overloadedNow 34 = .ok (.istore_n 2, 1) := by decide +kernel
theorem dX11_overloadedNow_35 : decode cX11_overloadedNow 35 = .ok (.iinc 3 1, 3) := by decide +kernel
theorem dX11_overloadedNow_38 : decode cX11_overloadedNow 38 = .ok (.goto (-34), 3) := by decide +kernel
theorem dX11_overloadedNow_41 : decode cX11_overloadedNow 41 = .ok (.iload_n 2, 1) := by decide +kernel
theorem dX11_overloadedNow_42 : decode cX11_overloadedNow 42 = .ok (.ireturn, 1) := by decide +kernel
theorem dX11_overloaded_0 : decode cX11_overloaded 0 = .ok (.aload_n 0, 1) := by decide +kernel
theorem dX11_overloaded_1 : decode cX11_overloaded 1 = .ok (.iconst 0, 1) := by decide +kernel
theorem dX11_overloaded_2 : decode cX11_overloaded 2 = .ok (.putfield 88, 3) := by decide +kernel
theorem dX11_overloaded_5 : decode cX11_overloaded 5 = .ok (.aload_n 0, 1) := by decide +kernel
theorem dX11_overloaded_6 : decode cX11_overloaded 6 = .ok (.invokevirtual 220, 3) := by decide +kernel
theorem dX11_overloaded_9 : decode cX11_overloaded 9 = .ok (.iload_n 1, 1) := by decide +kernel
theorem dX11_overloaded_10 : decode cX11_overloaded 10 = .ok (.invokestatic 198, 3) := by decide +kernel
theorem dX11_overloaded_13 : decode cX11_overloaded 13 = .ok (.ifCond .eq 11, 3) := by decide +kernel
theorem dX11_overloaded_16 : decode cX11_overloaded 16 = .ok (.aload_n 0, 1) := by decide +kernel
theorem dX11_overloaded_17 : decode cX11_overloaded 17 = .ok (.iload_n 1, 1) := by decide +kernel
theorem dX11_overloaded_18 : decode cX11_overloaded 18 = .ok (.invokevirtual 233, 3) := by decide +kernel
theorem dX11_overloaded_21 : decode cX11_overloaded 21 = .ok (.goto 8, 3) := by decide +kernel
theorem dX11_overloaded_24 : decode cX11_overloaded 24 = .ok (.aload_n 0, 1) := by decide +kernel
theorem dX11_overloaded_25 : decode cX11_overloaded 25 = .ok (.iconst 1, 1) := by decide +kernel
theorem dX11_overloaded_26 : decode cX11_overloaded 26 = .ok (.invokevirtual 194, 3) := by decide +kernel
theorem dX11_overloaded_29 : decode cX11_overloaded 29 = .ok (.ireturn, 1) := by decide +kernel
theorem dX11_begin_0 : decode cX11_begin 0 = .ok (.aload_n 0, 1) := by decide +kernel
theorem dX11_begin_1 : decode cX11_begin 1 = .ok (.iload_n 1, 1) := by decide +kernel
theorem dX11_begin_2 : decode cX11_begin 2 = .ok (.invokevirtual 223, 3) := by decide +kernel
theorem dX11_begin_5 : decode cX11_begin 5 = .ok (.ifCond .eq 14, 3) := by decide +kernel
theorem dX11_begin_8 : decode cX11_begin 8 = .ok (.aload_n 0, 1) := by decide +kernel
theorem dX11_begin_9 : decode cX11_begin 9 = .ok (.getfield 64, 3) := by decide +kernel
theorem dX11_begin_12 : decode cX11_begin 12 = .ok (.iconst 0, 1) := by decide +kernel
theorem dX11_begin_13 : decode cX11_begin 13 = .ok (.aaload, 1) := by decide +kernel
theorem dX11_begin_14 : decode cX11_begin 14 = .ok (.iload_n 1, 1) := by decide +kernel
theorem dX11_begin_15 : decode cX11_begin 15 = .ok (.iaload, 1) := by decide +kernel
theorem dX11_begin_16 : decode cX11_begin 16 = .ok (.goto 4, 3) := by decide +kernel
theorem dX11_begin_19 : decode cX11_begin 19 = .ok (.iconst 0, 1) := by decide +kernel
theorem dX11_begin_20 : decode cX11_begin 20 = .ok (.ireturn, 1) := by decide +kernel
theorem dX11_end_0 : decode cX11_end 0 = .ok (.aload_n 0, 1) := by decide +kernel
theorem dX11_end_1 : decode cX11_end 1 = .ok (.iload_n 1, 1) := by decide +kernel
theorem dX11_end_2 : decode cX11_end 2 = .ok (.invokevirtual 223, 3) := by decide +kernel
theorem dX11_end_5 : decode cX11_end 5 = .ok (.ifCond .eq 14, 3) := by decide +kernel
theorem dX11_end_8 : decode cX11_end 8 = .ok (.aload_n 0, 1) := by decide +kernel
theorem dX11_end_9 : decode cX11_end 9 = .ok (.getfield 64, 3) := by decide +kernel
theorem dX11_end_12 : decode cX11_end 12 = .ok (.iconst 1, 1) := by decide +kernel
theorem dX11_end_13 : decode cX11_end 13 = .ok (.aaload, 1) := by decide +kernel
theorem dX11_end_14 : decode cX11_end 14 = .ok (.iload_n 1, 1) := by decide +kernel
theorem dX11_end_15 : decode cX11_end 15 = .ok (.iaload, 1) := by decide +kernel
theorem dX11_end_16 : decode cX11_end 16 = .ok (.goto 4, 3) := by decide +kernel
theorem dX11_end_19 : decode cX11_end 19 = .ok (.iconst 0, 1) := by decide +kernel
theorem dX11_end_20 : decode cX11_end 20 = .ok (.ireturn, 1) := by decide +kernel
theorem dX11_levelledLast_0 : decode cX11_levelledLast 0 = .ok (.aload_n 0, 1) := by decide +kernel
theorem dX11_levelledLast_1 : decode cX11_levelledLast 1 = .ok (.iconst 0, 1) := by decide +kernel
theorem dX11_levelledLast_2 : decode cX11_levelledLast 2 = .ok (.putfield 88, 3) := by decide +kernel
theorem dX11_levelledLast_5 : decode cX11_levelledLast 5 = .ok (.aload_n 0, 1) := by decide +kernel
theorem dX11_levelledLast_6 : decode cX11_levelledLast 6 = .ok (.invokevirtual 220, 3) := by decide +kernel
theorem dX11_levelledLast_9 : decode cX11_levelledLast 9 = .ok (.aload_n 0, 1) := by decide +kernel
theorem dX11_levelledLast_10 : decode cX11_levelledLast 10 = .ok (.getfield 153, 3) := by decide +kernel
theorem dX11_levelledLast_13 : decode cX11_levelledLast 13 = .ok (.ireturn, 1) := by decide +kernel
theorem dX11_stuck_0 : decode cX11_stuck 0 = .ok (.aload_n 0, 1) := by decide +kernel
theorem dX11_stuck_1 : decode cX11_stuck 1 = .ok (.iconst 0, 1) := by decide +kernel
theorem dX11_stuck_2 : decode cX11_stuck 2 = .ok (.putfield 88, 3) := by decide +kernel
theorem dX11_stuck_5 : decode cX11_stuck 5 = .ok (.aload_n 0, 1) := by decide +kernel
theorem dX11_stuck_6 : decode cX11_stuck 6 = .ok (.invokevirtual 220, 3) := by decide +kernel
theorem dX11_stuck_9 : decode cX11_stuck 9 = .ok (.aload_n 0, 1) := by decide +kernel
theorem dX11_stuck_10 : decode cX11_stuck 10 = .ok (.getfield 96, 3) := by decide +kernel
theorem dX11_stuck_13 : decode cX11_stuck 13 = .ok (.aload_n 0, 1) := by decide +kernel
theorem dX11_stuck_14 : decode cX11_stuck 14 = .ok (.getfield 150, 3) := by decide +kernel
theorem dX11_stuck_17 : decode cX11_stuck 17 = .ok (.isub, 1) := by decide +kernel
theorem dX11_stuck_18 : decode cX11_stuck 18 = .ok (.ireturn, 1) := by decide +kernel
theorem dX11_orderAt_0 : decode cX11_orderAt 0 = .ok (.aload_n 0, 1) := by decide +kernel
theorem dX11_orderAt_1 : decode cX11_orderAt 1 = .ok (.iconst 0, 1) := by decide +kernel
theorem dX11_orderAt_2 : decode cX11_orderAt 2 = .ok (.putfield 88, 3) := by decide +kernel
theorem dX11_orderAt_5 : decode cX11_orderAt 5 = .ok (.aload_n 0, 1) := by decide +kernel
theorem dX11_orderAt_6 : decode cX11_orderAt 6 = .ok (.invokevirtual 220, 3) := by decide +kernel
theorem dX11_orderAt_9 : decode cX11_orderAt 9 = .ok (.iload_n 1, 1) := by decide +kernel
theorem dX11_orderAt_10 : decode cX11_orderAt 10 = .ok (.iconst 0, 1) := by decide +kernel
theorem dX11_orderAt_11 : decode cX11_orderAt 11 = .ok (.aload_n 0, 1) := by decide +kernel
theorem dX11_orderAt_12 : decode cX11_orderAt 12 = .ok (.getfield 150, 3) := by decide +kernel
theorem dX11_orderAt_15 : decode cX11_orderAt 15 = .ok (.iconst 1, 1) := by decide +kernel
theorem dX11_orderAt_16 : decode cX11_orderAt 16 = .ok (.isub, 1) := by decide +kernel
theorem dX11_orderAt_17 : decode cX11_orderAt 17 = .ok (.invokestatic 92, 3) := by decide +kernel
theorem dX11_orderAt_20 : decode cX11_orderAt 20 = .ok (.ifCond .eq 12, 3) := by decide +kernel
theorem dX11_orderAt_23 : decode cX11_orderAt 23 = .ok (.aload_n 0, 1) := by decide +kernel
theorem dX11_orderAt_24 : decode cX11_orderAt 24 = .ok (.getfield 67, 3) := by decide +kernel
theorem dX11_orderAt_27 : decode cX11_orderAt 27 = .ok (.iload_n 1, 1) := by decide +kernel
theorem dX11_orderAt_28 : decode cX11_orderAt 28 = .ok (.iaload, 1) := by decide +kernel
theorem dX11_orderAt_29 : decode cX11_orderAt 29 = .ok (.goto 8, 3) := by decide +kernel
theorem dX11_orderAt_32 : decode cX11_orderAt 32 = .ok (.aload_n 0, 1) := by decide +kernel
theorem dX11_orderAt_33 : decode cX11_orderAt 33 = .ok (.iconst 1, 1) := by decide +kernel
theorem dX11_orderAt_34 : decode cX11_orderAt 34 = .ok (.invokevirtual 194, 3) := by decide +kernel
theorem dX11_orderAt_37 : decode cX11_orderAt 37 = .ok (.ireturn, 1) := by decide +kernel
theorem dX11_used_0 : decode cX11_used 0 = .ok (.aload_n 0, 1) := by decide +kernel
theorem dX11_used_1 : decode cX11_used 1 = .ok (.iconst 0, 1) := by decide +kernel
theorem dX11_used_2 : decode cX11_used 2 = .ok (.putfield 88, 3) := by decide +kernel
theorem dX11_used_5 : decode cX11_used 5 = .ok (.aload_n 0, 1) := by decide +kernel
theorem dX11_used_6 : decode cX11_used 6 = .ok (.invokevirtual 220, 3) := by decide +kernel
theorem dX11_used_9 : decode cX11_used 9 = .ok (.iload_n 1, 1) := by decide +kernel
theorem dX11_used_10 : decode cX11_used 10 = .ok (.invokestatic 198, 3) := by decide +kernel
theorem dX11_used_13 : decode cX11_used 13 = .ok (.ifCond .ne 9, 3) := by decide +kernel
theorem dX11_used_16 : decode cX11_used 16 = .ok (.aload_n 0, 1) := by decide +kernel
theorem dX11_used_17 : decode cX11_used 17 = .ok (.iconst 1, 1) := by decide +kernel
theorem dX11_used_18 : decode cX11_used 18 = .ok (.invokevirtual 194, 3) := by decide +kernel
theorem dX11_used_21 : decode cX11_used 21 = .ok (.ireturn, 1) := by decide +kernel
theorem dX11_used_22 : decode cX11_used 22 = .ok (.iload_n 2, 1) := by decide +kernel
theorem dX11_used_23 : decode cX11_used 23 = .ok (.iconst 0, 1) := by decide +kernel
theorem dX11_used_24 : decode cX11_used 24 = .ok (.sipush 9999, 3) := by decide +kernel
theorem dX11_used_27 : decode cX11_used 27 = .ok (.invokestatic 92, 3) := by decide +kernel
theorem dX11_used_30 : decode cX11_used 30 = .ok (.ifCond .eq 14, 3) := by decide +kernel
theorem dX11_used_33 : decode cX11_used 33 = .ok (.aload_n 0, 1) := by decide +kernel
theorem dX11_used_34 : decode cX11_used 34 = .ok (.getfield 70, 3) := by decide +kernel
theorem dX11_used_37 : decode cX11_used 37 = .ok (.iload_n 1, 1) := by decide +kernel
theorem dX11_used_38 : decode cX11_used 38 = .ok (.aaload, 1) := by decide +kernel
theorem dX11_used_39 : decode cX11_used 39 = .ok (.iload_n 2, 1) := by decide +kernel
theorem dX11_used_40 : decode cX11_used 40 = .ok (.iaload, 1) := by decide +kernel
theorem dX11_used_41 : decode cX11_used 41 = .ok (.goto 8, 3) := by decide +kernel
theorem dX11_used_44 : decode cX11_used 44 = .ok (.aload_n 0, 1) := by decide +kernel
theorem dX11_used_45 : decode cX11_used 45 = .ok (.iconst 2, 1) := by decide +kernel
theorem dX11_used_46 : decode cX11_used 46 = .ok (.invokevirtual 194, 3) := by decide +kernel
theorem dX11_used_49 : decode cX11_used 49 = .ok (.ireturn, 1) := by decide +kernel
theorem dX11_peakNow_0 : decode cX11_peakNow 0 = .ok (.iconst 0, 1) := by decide +kernel
theorem dX11_peakNow_1 : decode cX11_peakNow 1 = .ok (.istore_n 2, 1) := by decide +kernel
theorem dX11_peakNow_2 : decode cX11_peakNow 2 = .ok (.iconst 0, 1) := by decide +kernel
theorem dX11_peakNow_3 : decode cX11_peakNow 3 = .ok (.istore_n 3, 1) := by decide +kernel
theorem dX11_peakNow_4 : decode cX11_peakNow 4 = .ok (.iload_n 3, 1) := by decide +kernel
theorem dX11_peakNow_5 : decode cX11_peakNow 5 = .ok (.aload_n 0, 1) := by decide +kernel
theorem dX11_peakNow_6 : decode cX11_peakNow 6 = .ok (.getfield 153, 3) := by decide +kernel
theorem dX11_peakNow_9 : decode cX11_peakNow 9 = .ok (.if_icmp .ge 22, 3) := by decide +kernel
theorem dX11_peakNow_12 : decode cX11_peakNow 12 = .ok (.iload_n 2, 1) := by decide +kernel
theorem dX11_peakNow_13 : decode cX11_peakNow 13 = .ok (.aload_n 0, 1) := by decide +kernel
theorem dX11_peakNow_14 : decode cX11_peakNow 14 = .ok (.getfield 70, 3) := by decide +kernel
theorem dX11_peakNow_17 : decode cX11_peakNow 17 = .ok (.iload_n 1, 1) := by decide +kernel
theorem dX11_peakNow_18 : decode cX11_peakNow 18 = .ok (.aaload, 1) := by decide +kernel
theorem dX11_peakNow_19 : decode cX11_peakNow 19 = .ok (.iload_n 3, 1) := by decide +kernel
theorem dX11_peakNow_20 : decode cX11_peakNow 20 = .ok (.iaload, 1) := by decide +kernel
theorem dX11_peakNow_21 : decode cX11_peakNow 21 = .ok (.invokestatic 116, 3) := by decide +kernel
theorem dX11_peakNow_24 : decode cX11_peakNow 24 = .ok (.istore_n 2, 1) := by decide +kernel
theorem dX11_peakNow_25 : decode cX11_peakNow 25 = .ok (.iinc 3 1, 3) := by decide +kernel
theorem dX11_peakNow_28 : decode cX11_peakNow 28 = .ok (.goto (-24), 3) := by decide +kernel
theorem dX11_peakNow_31 : decode cX11_peakNow 31 = .ok (.iload_n 2, 1) := by decide +kernel
theorem dX11_peakNow_32 : decode cX11_peakNow 32 = .ok (.ireturn, 1) := by decide +kernel
theorem dX11_peak_0 : decode cX11_peak 0 = .ok (.aload_n 0, 1) := by decide +kernel
theorem dX11_peak_1 : decode cX11_peak 1 = .ok (.iconst 0, 1) := by decide +kernel
theorem dX11_peak_2 : decode cX11_peak 2 = .ok (.putfield 88, 3) := by decide +kernel
theorem dX11_peak_5 : decode cX11_peak 5 = .ok (.aload_n 0, 1) := by decide +kernel
theorem dX11_peak_6 : decode cX11_peak 6 = .ok (.invokevirtual 220, 3) := by decide +kernel
theorem dX11_peak_9 : decode cX11_peak 9 = .ok (.iload_n 1, 1) := by decide +kernel
theorem dX11_peak_10 : decode cX11_peak 10 = .ok (.invokestatic 198, 3) := by decide +kernel
theorem dX11_peak_13 : decode cX11_peak 13 = .ok (.ifCond .eq 11, 3) := by decide +kernel
theorem dX11_peak_16 : decode cX11_peak 16 = .ok (.aload_n 0, 1) := by decide +kernel
theorem dX11_peak_17 : decode cX11_peak 17 = .ok (.iload_n 1, 1) := by decide +kernel
theorem dX11_peak_18 : decode cX11_peak 18 = .ok (.invokevirtual 236, 3) := by decide +kernel
theorem dX11_peak_21 : decode cX11_peak 21 = .ok (.goto 8, 3) := by decide +kernel
theorem dX11_peak_24 : decode cX11_peak 24 = .ok (.aload_n 0, 1) := by decide +kernel
theorem dX11_peak_25 : decode cX11_peak 25 = .ok (.iconst 1, 1) := by decide +kernel
theorem dX11_peak_26 : decode cX11_peak 26 = .ok (.invokevirtual 194, 3) := by decide +kernel
theorem dX11_peak_29 : decode cX11_peak 29 = .ok (.ireturn, 1) := by decide +kernel
theorem dX11_holdsNow_0 : decode cX11_holdsNow 0 = .ok (.aload_n 0, 1) := by decide +kernel
theorem dX11_holdsNow_1 : decode cX11_holdsNow 1 = .ok (.getfield 42, 3) := by decide +kernel
theorem dX11_holdsNow_4 : decode cX11_holdsNow 4 = .ok (.iload_n 1, 1) := by decide +kernel
theorem dX11_holdsNow_5 : decode cX11_holdsNow 5 = .ok (.baload, 1) := by decide +kernel
theorem dX11_holdsNow_6 : decode cX11_holdsNow 6 = .ok (.ifCond .ne 15, 3) := by decide +kernel
theorem dX11_holdsNow_9 : decode cX11_holdsNow 9 = .ok (.aload_n 0, 1) := by decide +kernel
theorem dX11_holdsNow_10 : decode cX11_holdsNow 10 = .ok (.getfield 64, 3) := by decide +kernel
theorem dX11_holdsNow_13 : decode cX11_holdsNow 13 = .ok (.iconst 0, 1) := by decide +kernel
theorem dX11_holdsNow_14 : decode cX11_holdsNow 14 = .ok (.aaload, 1) := by decide +kernel
theorem dX11_holdsNow_15 : decode cX11_holdsNow 15 = .ok (.iload_n 1, 1) := by decide +kernel
theorem dX11_holdsNow_16 : decode cX11_holdsNow 16 = .ok (.iaload, 1) := by decide +kernel
theorem dX11_holdsNow_17 : decode cX11_holdsNow 17 = .ok (.iconst (-1), 1) := by decide +kernel
theorem dX11_holdsNow_18 : decode cX11_holdsNow 18 = .ok (.if_icmp .ne 5, 3) := by decide +kernel
theorem dX11_holdsNow_21 : decode cX11_holdsNow 21 = .ok (.iconst (-1), 1) := by decide +kernel
theorem dX11_holdsNow_22 : decode cX11_holdsNow 22 = .ok (.ireturn, 1) := by decide +kernel
theorem dX11_holdsNow_23 : decode cX11_holdsNow 23 = .ok (.aload_n 0, 1) := by decide +kernel
theorem dX11_holdsNow_24 : decode cX11_holdsNow 24 = .ok (.getfield 64, 3) := by decide +kernel
theorem dX11_holdsNow_27 : decode cX11_holdsNow 27 = .ok (.iconst 0, 1) := by decide +kernel
theorem dX11_holdsNow_28 : decode cX11_holdsNow 28 = .ok (.aaload, 1) := by decide +kernel
theorem dX11_holdsNow_29 : decode cX11_holdsNow 29 = .ok (.iload_n 1, 1) := by decide +kernel
theorem dX11_holdsNow_30 : decode cX11_holdsNow 30 = .ok (.iaload, 1) := by decide +kernel
theorem dX11_holdsNow_31 : decode cX11_holdsNow 31 = .ok (.aload_n 0, 1) := by decide +kernel
theorem dX11_holdsNow_32 : decode cX11_holdsNow 32 = .ok (.iload_n 1, 1) := by decide +kernel
theorem dX11_holdsNow_33 : decode cX11_holdsNow 33 = .ok (.aload_n 0, 1) := by decide +kernel
theorem dX11_holdsNow_34 : decode cX11_holdsNow 34 = .ok (.getfield 64, 3) := by decide +kernel
theorem dX11_holdsNow_37 : decode cX11_holdsNow 37 = .ok (.invokevirtual 136, 3) := by decide +kernel
theorem dX11_holdsNow_40 : decode cX11_holdsNow 40 = .ok (.if_icmp .le 5, 3) := by decide +kernel
theorem dX11_holdsNow_43 : decode cX11_holdsNow 43 = .ok (.iconst 2, 1) := by decide +kernel
theorem dX11_holdsNow_44 : decode cX11_holdsNow 44 = .ok (.ireturn, 1) := by decide +kernel
theorem dX11_holdsNow_45 : decode cX11_holdsNow 45 = .ok (.aload_n 0, 1) := by decide +kernel
theorem dX11_holdsNow_46 : decode cX11_holdsNow 46 = .ok (.getfield 64, 3) := by decide +kernel
theorem dX11_holdsNow_49 : decode cX11_holdsNow 49 = .ok (.iconst 0, 1) := by decide +kernel
theorem dX11_holdsNow_50 : decode cX11_holdsNow 50 = .ok (.aaload, 1) := by decide +kernel
theorem dX11_holdsNow_51 : decode cX11_holdsNow 51 = .ok (.iload_n 1, 1) := by decide +kernel
theorem dX11_holdsNow_52 : decode cX11_holdsNow 52 = .ok (.iaload, 1) := by decide +kernel
theorem dX11_holdsNow_53 : decode cX11_holdsNow 53 = .ok (.aload_n 0, 1) := by decide +kernel
theorem dX11_holdsNow_54 : decode cX11_holdsNow 54 = .ok (.iload_n 1, 1) := by decide +kernel
theorem dX11_holdsNow_55 : decode cX11_holdsNow 55 = .ok (.aload_n 0, 1) := by decide +kernel
theorem dX11_holdsNow_56 : decode cX11_holdsNow 56 = .ok (.getfield 36, 3) := by decide +kernel
theorem dX11_holdsNow_59 : decode cX11_holdsNow 59 = .ok (.iload_n 1, 1) := by decide +kernel
theorem dX11_holdsNow_60 : decode cX11_holdsNow 60 = .ok (.iaload, 1) := by decide +kernel
theorem dX11_holdsNow_61 : decode cX11_holdsNow 61 = .ok (.invokevirtual 110, 3) := by decide +kernel
theorem dX11_holdsNow_64 : decode cX11_holdsNow 64 = .ok (.if_icmp .le 7, 3) := by decide +kernel
theorem dX11_holdsNow_67 : decode cX11_holdsNow 67 = .ok (.iconst 1, 1) := by decide +kernel
theorem dX11_holdsNow_68 : decode cX11_holdsNow 68 = .ok (.goto 4, 3) := by decide +kernel
theorem dX11_holdsNow_71 : decode cX11_holdsNow 71 = .ok (.iconst 0, 1) := by decide +kernel
theorem dX11_holdsNow_72 : decode cX11_holdsNow 72 = .ok (.ireturn, 1) := by decide +kernel
theorem dX11_holder_0 : decode cX11_holder 0 = .ok (.aload_n 0, 1) := by decide +kernel
theorem dX11_holder_1 : decode cX11_holder 1 = .ok (.iload_n 1, 1) := by decide +kernel
theorem dX11_holder_2 : decode cX11_holder 2 = .ok (.invokevirtual 239, 3) := by decide +kernel
theorem dX11_holder_5 : decode cX11_holder 5 = .ok (.iconst 1, 1) := by decide +kernel
theorem dX11_holder_6 : decode cX11_holder 6 = .ok (.if_icmp .eq 5, 3) := by decide +kernel
theorem dX11_holder_9 : decode cX11_holder 9 = .ok (.iconst (-1), 1) := by decide +kernel
theorem dX11_holder_10 : decode cX11_holder 10 = .ok (.ireturn, 1) := by decide +kernel
theorem dX11_holder_11 : decode cX11_holder 11 = .ok (.iconst 0, 1) := by decide +kernel
theorem dX11_holder_12 : decode cX11_holder 12 = .ok (.istore_n 2, 1) := by decide +kernel
theorem dX11_holder_13 : decode cX11_holder 13 = .ok (.aload_n 0, 1) := by decide +kernel
theorem dX11_holder_14 : decode cX11_holder 14 = .ok (.getfield 49, 3) := by decide +kernel
theorem dX11_holder_17 : decode cX11_holder 17 = .ok (.iload_n 2, 1) := by decide +kernel
theorem dX11_holder_18 : decode cX11_holder 18 = .ok (.aaload, 1) := by decide +kernel
theorem dX11_holder_19 : decode cX11_holder 19 = .ok (.iconst 1, 1) := by decide +kernel
theorem dX11_holder_20 : decode cX11_holder 20 = .ok (.iaload, 1) := by decide +kernel
theorem dX11_holder_21 : decode cX11_holder 21 = .ok (.iload_n 1, 1) := by decide +kernel
theorem dX11_holder_22 : decode cX11_holder 22 = .ok (.if_icmp .ne 34, 3) := by decide +kernel
theorem dX11_holder_25 : decode cX11_holder 25 = .ok (.aload_n 0, 1) := by decide +kernel
theorem dX11_holder_26 : decode cX11_holder 26 = .ok (.iload_n 2, 1) := by decide +kernel
theorem dX11_holder_27 : decode cX11_holder 27 = .ok (.aload_n 0, 1) := by decide +kernel
theorem dX11_holder_28 : decode cX11_holder 28 = .ok (.getfield 64, 3) := by decide +kernel
theorem dX11_holder_31 : decode cX11_holder 31 = .ok (.aload_n 0, 1) := by decide +kernel
theorem dX11_holder_32 : decode cX11_holder 32 = .ok (.iload_n 1, 1) := by decide +kernel
theorem dX11_holder_33 : decode cX11_holder 33 = .ok (.aload_n 0, 1) := by decide +kernel
theorem dX11_holder_34 : decode cX11_holder 34 = .ok (.getfield 36, 3) := by decide +kernel
theorem dX11_holder_37 : decode cX11_holder 37 = .ok (.iload_n 1, 1) := by decide +kernel
theorem dX11_holder_38 : decode cX11_holder 38 = .ok (.iaload, 1) := by decide +kernel
theorem dX11_holder_39 : decode cX11_holder 39 = .ok (.invokevirtual 110, 3) := by decide +kernel
theorem dX11_holder_42 : decode cX11_holder 42 = .ok (.invokevirtual 125, 3) := by decide +kernel
theorem dX11_holder_45 : decode cX11_holder 45 = .ok (.aload_n 0, 1) := by decide +kernel
theorem dX11_holder_46 : decode cX11_holder 46 = .ok (.getfield 64, 3) := by decide +kernel
theorem dX11_holder_49 : decode cX11_holder 49 = .ok (.iconst 0, 1) := by decide +kernel
theorem dX11_holder_50 : decode cX11_holder 50 = .ok (.aaload, 1) := by decide +kernel
theorem dX11_holder_51 : decode cX11_holder 51 = .ok (.iload_n 1, 1) := by decide +kernel
theorem dX11_holder_52 : decode cX11_holder 52 = .ok (.iaload, 1) := by decide +kernel
theorem dX11_holder_53 : decode cX11_holder 53 = .ok (.if_icmp .eq 9, 3) := by decide +kernel
theorem dX11_holder_56 : decode cX11_holder 56 = .ok (.iinc 2 1, 3) := by decide +kernel
theorem dX11_holder_59 : decode cX11_holder 59 = .ok (.goto (-46), 3) := by decide +kernel
theorem dX11_holder_62 : decode cX11_holder 62 = .ok (.iload_n 2, 1) := by decide +kernel
theorem dX11_holder_63 : decode cX11_holder 63 = .ok (.ireturn, 1) := by decide +kernel
theorem dX11_holds_0 : decode cX11_holds 0 = .ok (.aload_n 0, 1) := by decide +kernel
theorem dX11_holds_1 : decode cX11_holds 1 = .ok (.iload_n 1, 1) := by decide +kernel
theorem dX11_holds_2 : decode cX11_holds 2 = .ok (.invokevirtual 223, 3) := by decide +kernel
theorem dX11_holds_5 : decode cX11_holds 5 = .ok (.ifCond .eq 11, 3) := by decide +kernel
theorem dX11_holds_8 : decode cX11_holds 8 = .ok (.aload_n 0, 1) := by decide +kernel
theorem dX11_holds_9 : decode cX11_holds 9 = .ok (.iload_n 1, 1) := by decide +kernel
theorem dX11_holds_10 : decode cX11_holds 10 = .ok (.invokevirtual 239, 3) := by decide +kernel
theorem dX11_holds_13 : decode cX11_holds 13 = .ok (.goto 4, 3) := by decide +kernel
theorem dX11_holds_16 : decode cX11_holds 16 = .ok (.iconst 0, 1) := by decide +kernel
theorem dX11_holds_17 : decode cX11_holds 17 = .ok (.ireturn, 1) := by decide +kernel
theorem dX11_heldBy_0 : decode cX11_heldBy 0 = .ok (.aload_n 0, 1) := by decide +kernel
theorem dX11_heldBy_1 : decode cX11_heldBy 1 = .ok (.iload_n 1, 1) := by decide +kernel
theorem dX11_heldBy_2 : decode cX11_heldBy 2 = .ok (.invokevirtual 223, 3) := by decide +kernel
theorem dX11_heldBy_5 : decode cX11_heldBy 5 = .ok (.ifCond .eq 11, 3) := by decide +kernel
theorem dX11_heldBy_8 : decode cX11_heldBy 8 = .ok (.aload_n 0, 1) := by decide +kernel
theorem dX11_heldBy_9 : decode cX11_heldBy 9 = .ok (.iload_n 1, 1) := by decide +kernel
theorem dX11_heldBy_10 : decode cX11_heldBy 10 = .ok (.invokevirtual 242, 3) := by decide +kernel
theorem dX11_heldBy_13 : decode cX11_heldBy 13 = .ok (.goto 4, 3) := by decide +kernel
theorem dX11_heldBy_16 : decode cX11_heldBy 16 = .ok (.iconst 0, 1) := by decide +kernel
theorem dX11_heldBy_17 : decode cX11_heldBy 17 = .ok (.ireturn, 1) := by decide +kernel
theorem dX11_idleNow_0 : decode cX11_idleNow 0 = .ok (.iconst 0, 1) := by decide +kernel
theorem dX11_idleNow_1 : decode cX11_idleNow 1 = .ok (.istore_n 2, 1) := by decide +kernel
theorem dX11_idleNow_2 : decode cX11_idleNow 2 = .ok (.iconst 0, 1) := by decide +kernel
theorem dX11_idleNow_3 : decode cX11_idleNow 3 = .ok (.istore_n 3, 1) := by decide +kernel
theorem dX11_idleNow_4 : decode cX11_idleNow 4 = .ok (.iload_n 3, 1) := by decide +kernel
theorem dX11_idleNow_5 : decode cX11_idleNow 5 = .ok (.aload_n 0, 1) := by decide +kernel
theorem dX11_idleNow_6 : decode cX11_idleNow 6 = .ok (.getfield 153, 3) := by decide +kernel
theorem dX11_idleNow_9 : decode cX11_idleNow 9 = .ok (.if_icmp .ge 31, 3) := by decide +kernel
theorem dX11_idleNow_12 : decode cX11_idleNow 12 = .ok (.iload_n 2, 1) := by decide +kernel
theorem dX11_idleNow_13 : decode cX11_idleNow 13 = .ok (.iconst 0, 1) := by decide +kernel
theorem dX11_idleNow_14 : decode cX11_idleNow 14 = .ok (.aload_n 0, 1) := by decide +kernel
theorem dX11_idleNow_15 : decode cX11_idleNow 15 = .ok (.getfield 21, 3) := by decide +kernel
theorem dX11_idleNow_18 : decode cX11_idleNow 18 = .ok (.iload_n 1, 1) := by decide +kernel
theorem dX11_idleNow_19 : decode cX11_idleNow 19 = .ok (.iaload, 1) := by decide +kernel
theorem dX11_idleNow_20 : decode cX11_idleNow 20 = .ok (.aload_n 0, 1) := by decide +kernel
theorem dX11_idleNow_21 : decode cX11_idleNow 21 = .ok (.getfield 70, 3) := by decide +kernel
theorem dX11_idleNow_24 : decode cX11_idleNow 24 = .ok (.iload_n 1, 1) := by decide +kernel
theorem dX11_idleNow_25 : decode cX11_idleNow 25 = .ok (.aaload, 1) := by decide +kernel
theorem dX11_idleNow_26 : decode cX11_idleNow 26 = .ok (.iload_n 3, 1) := by decide +kernel
theorem dX11_idleNow_27 : decode cX11_idleNow 27 = .ok (.iaload, 1) := by decide +kernel
theorem dX11_idleNow_28 : decode cX11_idleNow 28 = .ok (.isub, 1) := by decide +kernel
theorem dX11_idleNow_29 : decode cX11_idleNow 29 = .ok (.invokestatic 116, 3) := by decide +kernel
theorem dX11_idleNow_32 : decode cX11_idleNow 32 = .ok (.iadd, 1) := by decide +kernel
theorem dX11_idleNow_33 : decode cX11_idleNow 33 = .ok (.istore_n 2, 1) := by decide +kernel
theorem dX11_idleNow_34 : decode cX11_idleNow 34 = .ok (.iinc 3 1, 3) := by decide +kernel
theorem dX11_idleNow_37 : decode cX11_idleNow 37 = .ok (.goto (-33), 3) := by decide +kernel
theorem dX11_idleNow_40 : decode cX11_idleNow 40 = .ok (.iload_n 2, 1) := by decide +kernel
theorem dX11_idleNow_41 : decode cX11_idleNow 41 = .ok (.ireturn, 1) := by decide +kernel
theorem dX11_idle_0 : decode cX11_idle 0 = .ok (.aload_n 0, 1) := by decide +kernel
theorem dX11_idle_1 : decode cX11_idle 1 = .ok (.iconst 0, 1) := by decide +kernel
theorem dX11_idle_2 : decode cX11_idle 2 = .ok (.putfield 88, 3) := by decide +kernel
theorem dX11_idle_5 : decode cX11_idle 5 = .ok (.aload_n 0, 1) := by decide +kernel
theorem dX11_idle_6 : decode cX11_idle 6 = .ok (.invokevirtual 220, 3) := by decide +kernel
theorem dX11_idle_9 : decode cX11_idle 9 = .ok (.iload_n 1, 1) := by decide +kernel
theorem dX11_idle_10 : decode cX11_idle 10 = .ok (.invokestatic 198, 3) := by decide +kernel
theorem dX11_idle_13 : decode cX11_idle 13 = .ok (.ifCond .eq 11, 3) := by decide +kernel
theorem dX11_idle_16 : decode cX11_idle 16 = .ok (.aload_n 0, 1) := by decide +kernel
theorem dX11_idle_17 : decode cX11_idle 17 = .ok (.iload_n 1, 1) := by decide +kernel
theorem dX11_idle_18 : decode cX11_idle 18 = .ok (.invokevirtual 245, 3) := by decide +kernel
theorem dX11_idle_21 : decode cX11_idle 21 = .ok (.goto 8, 3) := by decide +kernel
theorem dX11_idle_24 : decode cX11_idle 24 = .ok (.aload_n 0, 1) := by decide +kernel
theorem dX11_idle_25 : decode cX11_idle 25 = .ok (.iconst 1, 1) := by decide +kernel
theorem dX11_idle_26 : decode cX11_idle 26 = .ok (.invokevirtual 194, 3) := by decide +kernel
theorem dX11_idle_29 : decode cX11_idle 29 = .ok (.ireturn, 1) := by decide +kernel
theorem dX11_worthOf_0 : decode cX11_worthOf 0 = .ok (.iconst 0, 1) := by decide +kernel
theorem dX11_worthOf_1 : decode cX11_worthOf 1 = .ok (.istore_n 2, 1) := by decide +kernel
theorem dX11_worthOf_2 : decode cX11_worthOf 2 = .ok (.iconst 0, 1) := by decide +kernel
theorem dX11_worthOf_3 : decode cX11_worthOf 3 = .ok (.istore_n 3, 1) := by decide +kernel
theorem dX11_worthOf_4 : decode cX11_worthOf 4 = .ok (.iload_n 3, 1) := by decide +kernel
theorem dX11_worthOf_5 : decode cX11_worthOf 5 = .ok (.iconst 4, 1) := by decide +kernel
theorem dX11_worthOf_6 : decode cX11_worthOf 6 = .ok (.if_icmp .ge 27, 3) := by decide +kernel
theorem dX11_worthOf_9 : decode cX11_worthOf 9 = .ok (.iload_n 2, 1) := by decide +kernel
theorem dX11_worthOf_10 : decode cX11_worthOf 10 = .ok (.aload_n 0, 1) := by decide +kernel
theorem dX11_worthOf_11 : decode cX11_worthOf 11 = .ok (.getfield 39, 3) := by decide +kernel
theorem dX11_worthOf_14 : decode cX11_worthOf 14 = .ok (.iload_n 1, 1) := by decide +kernel
theorem dX11_worthOf_15 : decode cX11_worthOf 15 = .ok (.aaload, 1) := by decide +kernel
theorem dX11_worthOf_16 : decode cX11_worthOf 16 = .ok (.iload_n 3, 1) := by decide +kernel
theorem dX11_worthOf_17 : decode cX11_worthOf 17 = .ok (.iaload, 1) := by decide +kernel
theorem dX11_worthOf_18 : decode cX11_worthOf 18 = .ok (.aload_n 0, 1) := by decide +kernel
theorem dX11_worthOf_19 : decode cX11_worthOf 19 = .ok (.getfield 24, 3) := by decide +kernel
theorem dX11_worthOf_22 : decode cX11_worthOf 22 = .ok (.iload_n 3, 1) := by decide +kernel
theorem dX11_worthOf_23 : decode cX11_worthOf 23 = .ok (.iaload, 1) := by decide +kernel
theorem dX11_worthOf_24 : decode cX11_worthOf 24 = .ok (.imul, 1) := by decide +kernel
theorem dX11_worthOf_25 : decode cX11_worthOf 25 = .ok (.iadd, 1) := by decide +kernel
theorem dX11_worthOf_26 : decode cX11_worthOf 26 = .ok (.istore_n 2, 1) := by decide +kernel
theorem dX11_worthOf_27 : decode cX11_worthOf 27 = .ok (.iinc 3 1, 3) := by decide +kernel
theorem dX11_worthOf_30 : decode cX11_worthOf 30 = .ok (.goto (-26), 3) := by decide +kernel
theorem dX11_worthOf_33 : decode cX11_worthOf 33 = .ok (.iload_n 2, 1) := by decide +kernel
theorem dX11_worthOf_34 : decode cX11_worthOf 34 = .ok (.aload_n 0, 1) := by decide +kernel
theorem dX11_worthOf_35 : decode cX11_worthOf 35 = .ok (.getfield 27, 3) := by decide +kernel
theorem dX11_worthOf_38 : decode cX11_worthOf 38 = .ok (.iload_n 1, 1) := by decide +kernel
theorem dX11_worthOf_39 : decode cX11_worthOf 39 = .ok (.iaload, 1) := by decide +kernel
theorem dX11_worthOf_40 : decode cX11_worthOf 40 = .ok (.imul, 1) := by decide +kernel
theorem dX11_worthOf_41 : decode cX11_worthOf 41 = .ok (.ireturn, 1) := by decide +kernel
theorem dX11_keep_0 : decode cX11_keep 0 = .ok (.aload_n 0, 1) := by decide +kernel
theorem dX11_keep_1 : decode cX11_keep 1 = .ok (.iconst 0, 1) := by decide +kernel
theorem dX11_keep_2 : decode cX11_keep 2 = .ok (.putfield 88, 3) := by decide +kernel
theorem dX11_keep_5 : decode cX11_keep 5 = .ok (.aload_n 0, 1) := by decide +kernel
theorem dX11_keep_6 : decode cX11_keep 6 = .ok (.invokevirtual 220, 3) := by decide +kernel
theorem dX11_keep_9 : decode cX11_keep 9 = .ok (.aload_n 0, 1) := by decide +kernel
theorem dX11_keep_10 : decode cX11_keep 10 = .ok (.aload_n 0, 1) := by decide +kernel
theorem dX11_keep_11 : decode cX11_keep 11 = .ok (.getfield 96, 3) := by decide +kernel
theorem dX11_keep_14 : decode cX11_keep 14 = .ok (.putfield 248, 3) := by decide +kernel
theorem dX11_keep_17 : decode cX11_keep 17 = .ok (.iconst 0, 1) := by decide +kernel
theorem dX11_keep_18 : decode cX11_keep 18 = .ok (.istore_n 1, 1) := by decide +kernel
theorem dX11_keep_19 : decode cX11_keep 19 = .ok (.iload_n 1, 1) := by decide +kernel
theorem dX11_keep_20 : decode cX11_keep 20 = .ok (.aload_n 0, 1) := by decide +kernel
theorem dX11_keep_21 : decode cX11_keep 21 = .ok (.getfield 96, 3) := by decide +kernel
theorem dX11_keep_24 : decode cX11_keep 24 = .ok (.if_icmp .ge 52, 3) := by decide +kernel
theorem dX11_keep_27 : decode cX11_keep 27 = .ok (.aload_n 0, 1) := by decide +kernel
theorem dX11_keep_28 : decode cX11_keep 28 = .ok (.getfield 73, 3) := by decide +kernel
theorem dX11_keep_31 : decode cX11_keep 31 = .ok (.iconst 0, 1) := by decide +kernel
theorem dX11_keep_32 : decode cX11_keep 32 = .ok (.aaload, 1) := by decide +kernel
theorem dX11_keep_33 : decode cX11_keep 33 = .ok (.iload_n 1, 1) := by decide +kernel
theorem dX11_keep_34 : decode cX11_keep 34 = .ok (.aload_n 0, 1) := by decide +kernel
theorem dX11_keep_35 : decode cX11_keep 35 = .ok (.getfield 64, 3) := by decide +kernel
theorem dX11_keep_38 : decode cX11_keep 38 = .ok (.iconst 0, 1) := by decide +kernel
theorem dX11_keep_39 : decode cX11_keep 39 = .ok (.aaload, 1) := by decide +kernel
theorem dX11_keep_40 : decode cX11_keep 40 = .ok (.iload_n 1, 1) := by decide +kernel
theorem dX11_keep_41 : decode cX11_keep 41 = .ok (.iaload, 1) := by decide +kernel
theorem dX11_keep_42 : decode cX11_keep 42 = .ok (.iastore, 1) := by decide +kernel
theorem dX11_keep_43 : decode cX11_keep 43 = .ok (.aload_n 0, 1) := by decide +kernel
theorem dX11_keep_44 : decode cX11_keep 44 = .ok (.getfield 73, 3) := by decide +kernel
theorem dX11_keep_47 : decode cX11_keep 47 = .ok (.iconst 1, 1) := by decide +kernel
theorem dX11_keep_48 : decode cX11_keep 48 = .ok (.aaload, 1) := by decide +kernel
theorem dX11_keep_49 : decode cX11_keep 49 = .ok (.iload_n 1, 1) := by decide +kernel
theorem dX11_keep_50 : decode cX11_keep 50 = .ok (.aload_n 0, 1) := by decide +kernel
theorem dX11_keep_51 : decode cX11_keep 51 = .ok (.getfield 64, 3) := by decide +kernel
theorem dX11_keep_54 : decode cX11_keep 54 = .ok (.iconst 1, 1) := by decide +kernel
theorem dX11_keep_55 : decode cX11_keep 55 = .ok (.aaload, 1) := by decide +kernel
theorem dX11_keep_56 : decode cX11_keep 56 = .ok (.iload_n 1, 1) := by decide +kernel
theorem dX11_keep_57 : decode cX11_keep 57 = .ok (.iaload, 1) := by decide +kernel
theorem dX11_keep_58 : decode cX11_keep 58 = .ok (.iastore, 1) := by decide +kernel
theorem dX11_keep_59 : decode cX11_keep 59 = .ok (.aload_n 0, 1) := by decide +kernel
theorem dX11_keep_60 : decode cX11_keep 60 = .ok (.getfield 76, 3) := by decide +kernel
theorem dX11_keep_63 : decode cX11_keep 63 = .ok (.iload_n 1, 1) := by decide +kernel
theorem dX11_keep_64 : decode cX11_keep 64 = .ok (.aload_n 0, 1) := by decide +kernel
theorem dX11_keep_65 : decode cX11_keep 65 = .ok (.iload_n 1, 1) := by decide +kernel
theorem dX11_keep_66 : decode cX11_keep 66 = .ok (.invokevirtual 251, 3) := by decide +kernel
theorem dX11_keep_69 : decode cX11_keep 69 = .ok (.iastore, 1) := by decide +kernel
theorem dX11_keep_70 : decode cX11_keep 70 = .ok (.iinc 1 1, 3) := by decide +kernel
theorem dX11_keep_73 : decode cX11_keep 73 = .ok (.goto (-54), 3) := by decide +kernel
theorem dX11_keep_76 : decode cX11_keep 76 = .ok (.iconst 0, 1) := by decide +kernel
theorem dX11_keep_77 : decode cX11_keep 77 = .ok (.istore_n 1, 1) := by decide +kernel
theorem dX11_keep_78 : decode cX11_keep 78 = .ok (.iload_n 1, 1) := by decide +kernel
theorem dX11_keep_79 : decode cX11_keep 79 = .ok (.iconst 4, 1) := by decide +kernel
theorem dX11_keep_80 : decode cX11_keep 80 = .ok (.if_icmp .ge 52, 3) := by decide +kernel
theorem dX11_keep_83 : decode cX11_keep 83 = .ok (.aload_n 0, 1) := by decide +kernel
theorem dX11_keep_84 : decode cX11_keep 84 = .ok (.getfield 79, 3) := by decide +kernel
theorem dX11_keep_87 : decode cX11_keep 87 = .ok (.iload_n 1, 1) := by decide +kernel
theorem dX11_keep_88 : decode cX11_keep 88 = .ok (.aload_n 0, 1) := by decide +kernel
theorem dX11_keep_89 : decode cX11_keep 89 = .ok (.getfield 7, 3) := by decide +kernel
theorem dX11_keep_92 : decode cX11_keep 92 = .ok (.iload_n 1, 1) := by decide +kernel
theorem dX11_keep_93 : decode cX11_keep 93 = .ok (.iaload, 1) := by decide +kernel
theorem dX11_keep_94 : decode cX11_keep 94 = .ok (.iastore, 1) := by decide +kernel
theorem dX11_keep_95 : decode cX11_keep 95 = .ok (.aload_n 0, 1) := by decide +kernel
theorem dX11_keep_96 : decode cX11_keep 96 = .ok (.getfield 82, 3) := by decide +kernel
theorem dX11_keep_99 : decode cX11_keep 99 = .ok (.iload_n 1, 1) := by decide +kernel
theorem dX11_keep_100 : decode cX11_keep 100 = .ok (.aload_n 0, 1) := by decide +kernel
theorem dX11_keep_101 : decode cX11_keep 101 = .ok (.getfield 13, 3) := by decide +kernel
theorem dX11_keep_104 : decode cX11_keep 104 = .ok (.iload_n 1, 1) := by decide +kernel
theorem dX11_keep_105 : decode cX11_keep 105 = .ok (.iaload, 1) := by decide +kernel
theorem dX11_keep_106 : decode cX11_keep 106 = .ok (.iastore, 1) := by decide +kernel
theorem dX11_keep_107 : decode cX11_keep 107 = .ok (.aload_n 0, 1) := by decide +kernel
theorem dX11_keep_108 : decode cX11_keep 108 = .ok (.getfield 18, 3) := by decide +kernel
theorem dX11_keep_111 : decode cX11_keep 111 = .ok (.iload_n 1, 1) := by decide +kernel
theorem dX11_keep_112 : decode cX11_keep 112 = .ok (.aaload, 1) := by decide +kernel
theorem dX11_keep_113 : decode cX11_keep 113 = .ok (.iconst 0, 1) := by decide +kernel
theorem dX11_keep_114 : decode cX11_keep 114 = .ok (.aload_n 0, 1) := by decide +kernel
theorem dX11_keep_115 : decode cX11_keep 115 = .ok (.getfield 85, 3) := by decide +kernel
theorem dX11_keep_118 : decode cX11_keep 118 = .ok (.iload_n 1, 1) := by decide +kernel
theorem dX11_keep_119 : decode cX11_keep 119 = .ok (.aaload, 1) := by decide +kernel
theorem dX11_keep_120 : decode cX11_keep 120 = .ok (.iconst 0, 1) := by decide +kernel
theorem dX11_keep_121 : decode cX11_keep 121 = .ok (.bipush 12, 2) := by decide +kernel
theorem dX11_keep_123 : decode cX11_keep 123 = .ok (.invokestatic 207, 3) := by decide +kernel
theorem dX11_keep_126 : decode cX11_keep 126 = .ok (.iinc 1 1, 3) := by decide +kernel
theorem dX11_keep_129 : decode cX11_keep 129 = .ok (.goto (-51), 3) := by decide +kernel
theorem dX11_keep_132 : decode cX11_keep 132 = .ok (.aload_n 0, 1) := by decide +kernel
theorem dX11_keep_133 : decode cX11_keep 133 = .ok (.getfield 150, 3) := by decide +kernel
theorem dX11_keep_136 : decode cX11_keep 136 = .ok (.ireturn, 1) := by decide +kernel
theorem dX11_isKept_0 : decode cX11_isKept 0 = .ok (.iload_n 1, 1) := by decide +kernel
theorem dX11_isKept_1 : decode cX11_isKept 1 = .ok (.aload_n 0, 1) := by decide +kernel
theorem dX11_isKept_2 : decode cX11_isKept 2 = .ok (.getfield 248, 3) := by decide +kernel
theorem dX11_isKept_5 : decode cX11_isKept 5 = .ok (.if_icmp .ge 19, 3) := by decide +kernel
theorem dX11_isKept_8 : decode cX11_isKept 8 = .ok (.aload_n 0, 1) := by decide +kernel
theorem dX11_isKept_9 : decode cX11_isKept 9 = .ok (.getfield 73, 3) := by decide +kernel
theorem dX11_isKept_12 : decode cX11_isKept 12 = .ok (.iconst 0, 1) := by decide +kernel
theorem dX11_isKept_13 : decode cX11_isKept 13 = .ok (.aaload, 1) := by decide +kernel
theorem dX11_isKept_14 : decode cX11_isKept 14 = .ok (.iload_n 1, 1) := by decide +kernel
theorem dX11_isKept_15 : decode cX11_isKept 15 = .ok (.iaload, 1) := by decide +kernel
theorem dX11_isKept_16 : decode cX11_isKept 16 = .ok (.iconst (-1), 1) := by decide +kernel
theorem dX11_isKept_17 : decode cX11_isKept 17 = .ok (.if_icmp .eq 7, 3) := by decide +kernel
theorem dX11_isKept_20 : decode cX11_isKept 20 = .ok (.iconst 1, 1) := by decide +kernel
theorem dX11_isKept_21 : decode cX11_isKept 21 = .ok (.goto 4, 3) := by decide +kernel
theorem dX11_isKept_24 : decode cX11_isKept 24 = .ok (.iconst 0, 1) := by decide +kernel
theorem dX11_isKept_25 : decode cX11_isKept 25 = .ok (.ireturn, 1) := by decide +kernel
theorem dX11_behindNow_0 : decode cX11_behindNow 0 = .ok (.aload_n 0, 1) := by decide +kernel
theorem dX11_behindNow_1 : decode cX11_behindNow 1 = .ok (.iload_n 1, 1) := by decide +kernel
theorem dX11_behindNow_2 : decode cX11_behindNow 2 = .ok (.invokevirtual 254, 3) := by decide +kernel
theorem dX11_behindNow_5 : decode cX11_behindNow 5 = .ok (.ifCond .eq 35, 3) := by decide +kernel
theorem dX11_behindNow_8 : decode cX11_behindNow 8 = .ok (.aload_n 0, 1) := by decide +kernel
theorem dX11_behindNow_9 : decode cX11_behindNow 9 = .ok (.getfield 64, 3) := by decide +kernel
theorem dX11_behindNow_12 : decode cX11_behindNow 12 = .ok (.iconst 1, 1) := by decide +kernel
theorem dX11_behindNow_13 : decode cX11_behindNow 13 = .ok (.aaload, 1) := by decide +kernel
theorem dX11_behindNow_14 : decode cX11_behindNow 14 = .ok (.iload_n 1, 1) := by decide +kernel
theorem dX11_behindNow_15 : decode cX11_behindNow 15 = .ok (.iaload, 1) := by decide +kernel
theorem dX11_behindNow_16 : decode cX11_behindNow 16 = .ok (.iconst (-1), 1) := by decide +kernel
theorem dX11_behindNow_17 : decode cX11_behindNow 17 = .ok (.if_icmp .eq 23, 3) := by decide +kernel
theorem dX11_behindNow_20 : decode cX11_behindNow 20 = .ok (.aload_n 0, 1) := by decide +kernel
theorem dX11_behindNow_21 : decode cX11_behindNow 21 = .ok (.getfield 64, 3) := by decide +kernel
theorem dX11_behindNow_24 : decode cX11_behindNow 24 = .ok (.iconst 1, 1) := by decide +kernel
theorem dX11_behindNow_25 : decode cX11_behindNow 25 = .ok (.aaload, 1) := by decide +kernel
theorem dX11_behindNow_26 : decode cX11_behindNow 26 = .ok (.iload_n 1, 1) := by decide +kernel
theorem dX11_behindNow_27 : decode cX11_behindNow 27 = .ok (.iaload, 1) := by decide +kernel
theorem dX11_behindNow_28 : decode cX11_behindNow 28 = .ok (.aload_n 0, 1) := by decide +kernel
theorem dX11_behindNow_29 : decode cX11_behindNow 29 = .ok (.getfield 73, 3) := by decide +kernel
theorem dX11_behindNow_32 : decode cX11_behindNow 32 = .ok (.iconst 1, 1) := by decide +kernel
theorem dX11_behindNow_33 : decode cX11_behindNow 33 = .ok (.aaload, 1) := by decide +kernel
theorem dX11_behindNow_34 : decode cX11_behindNow 34 = .ok (.iload_n 1, 1) := by decide +kernel
theorem dX11_behindNow_35 : decode cX11_behindNow 35 = .ok (.iaload, 1) := by decide +kernel
theorem dX11_behindNow_36 : decode cX11_behindNow 36 = .ok (.isub, 1) := by decide +kernel
theorem dX11_behindNow_37 : decode cX11_behindNow 37 = .ok (.goto 4, 3) := by decide +kernel
theorem dX11_behindNow_40 : decode cX11_behindNow 40 = .ok (.iconst 0, 1) := by decide +kernel
theorem dX11_behindNow_41 : decode cX11_behindNow 41 = .ok (.ireturn, 1) := by decide +kernel
theorem dX11_behind_0 : decode cX11_behind 0 = .ok (.aload_n 0, 1) := by decide +kernel
theorem dX11_behind_1 : decode cX11_behind 1 = .ok (.iload_n 1, 1) := by decide +kernel
theorem dX11_behind_2 : decode cX11_behind 2 = .ok (.invokevirtual 223, 3) := by decide +kernel
theorem dX11_behind_5 : decode cX11_behind 5 = .ok (.ifCond .eq 11, 3) := by decide +kernel
theorem dX11_behind_8 : decode cX11_behind 8 = .ok (.aload_n 0, 1) := by decide +kernel
theorem dX11_behind_9 : decode cX11_behind 9 = .ok (.iload_n 1, 1) := by decide +kernel
theorem dX11_behind_10 : decode cX11_behind 10 = .ok (.invokevirtual 257, 3) := by decide +kernel
theorem dX11_behind_13 : decode cX11_behind 13 = .ok (.goto 4, 3) := by decide +kernel
theorem dX11_behind_16 : decode cX11_behind 16 = .ok (.iconst 0, 1) := by decide +kernel
theorem dX11_behind_17 : decode cX11_behind 17 = .ok (.ireturn, 1) := by decide +kernel
theorem dX11_worked_0 : decode cX11_worked 0 = .ok (.aload_n 0, 1) := by decide +kernel
theorem dX11_worked_1 : decode cX11_worked 1 = .ok (.getfield 79, 3) := by decide +kernel
theorem dX11_worked_4 : decode cX11_worked 4 = .ok (.iload_n 1, 1) := by decide +kernel
theorem dX11_worked_5 : decode cX11_worked 5 = .ok (.iaload, 1) := by decide +kernel
theorem dX11_worked_6 : decode cX11_worked 6 = .ok (.iload_n 2, 1) := by decide +kernel
theorem dX11_worked_7 : decode cX11_worked 7 = .ok (.bipush 7, 2) := by decide +kernel
theorem dX11_worked_9 : decode cX11_worked 9 = .ok (.irem, 1) := by decide +kernel
theorem dX11_worked_10 : decode cX11_worked 10 = .ok (.ishr, 1) := by decide +kernel
theorem dX11_worked_11 : decode cX11_worked 11 = .ok (.iconst 1, 1) := by decide +kernel
theorem dX11_worked_12 : decode cX11_worked 12 = .ok (.iand, 1) := by decide +kernel
theorem dX11_worked_13 : decode cX11_worked 13 = .ok (.ifCond .ne 5, 3) := by decide +kernel
theorem dX11_worked_16 : decode cX11_worked 16 = .ok (.iconst 0, 1) := by decide +kernel
theorem dX11_worked_17 : decode cX11_worked 17 = .ok (.ireturn, 1) := by decide +kernel
theorem dX11_worked_18 : decode cX11_worked 18 = .ok (.iconst 0, 1) := by decide +kernel
theorem dX11_worked_19 : decode cX11_worked 19 = .ok (.istore_n 3, 1) := by decide +kernel
theorem dX11_worked_20 : decode cX11_worked 20 = .ok (.iload_n 3, 1) := by decide +kernel
theorem dX11_worked_21 : decode cX11_worked 21 = .ok (.aload_n 0, 1) := by decide +kernel
theorem dX11_worked_22 : decode cX11_worked 22 = .ok (.getfield 82, 3) := by decide +kernel
theorem dX11_worked_25 : decode cX11_worked 25 = .ok (.iload_n 1, 1) := by decide +kernel
theorem dX11_worked_26 : decode cX11_worked 26 = .ok (.iaload, 1) := by decide +kernel
theorem dX11_worked_27 : decode cX11_worked 27 = .ok (.if_icmp .ge 23, 3) := by decide +kernel
theorem dX11_worked_30 : decode cX11_worked 30 = .ok (.aload_n 0, 1) := by decide +kernel
theorem dX11_worked_31 : decode cX11_worked 31 = .ok (.getfield 85, 3) := by decide +kernel
theorem dX11_worked_34 : decode cX11_worked 34 = .ok (.iload_n 1, 1) := by decide +kernel
theorem dX11_worked_35 : decode cX11_worked 35 = .ok (.aaload, 1) := by decide +kernel
theorem dX11_worked_36 : decode cX11_worked 36 = .ok (.iload_n 3, 1) := by decide +kernel
theorem dX11_worked_37 : decode cX11_worked 37 = .ok (.iaload, 1) := by decide +kernel
theorem dX11_worked_38 : decode cX11_worked 38 = .ok (.iload_n 2, 1) := by decide +kernel
theorem dX11_worked_39 : decode cX11_worked 39 = .ok (.if_icmp .ne 5, 3) := by decide +kernel
theorem dX11_worked_42 : decode cX11_worked 42 = .ok (.iconst 0, 1) := by decide +kernel
theorem dX11_worked_43 : decode cX11_worked 43 = .ok (.ireturn, 1) := by decide +kernel
theorem dX11_worked_44 : decode cX11_worked 44 = .ok (.iinc 3 1, 3) := by decide +kernel
theorem dX11_worked_47 : decode cX11_worked 47 = .ok (.goto (-27), 3) := by decide +kernel
theorem dX11_worked_50 : decode cX11_worked 50 = .ok (.iconst 1, 1) := by decide +kernel
theorem dX11_worked_51 : decode cX11_worked 51 = .ok (.ireturn, 1) := by decide +kernel
theorem dX11_plannedNow_0 : decode cX11_plannedNow 0 = .ok (.iconst 0, 1) := by decide +kernel
theorem dX11_plannedNow_1 : decode cX11_plannedNow 1 = .ok (.istore_n 2, 1) := by decide +kernel
theorem dX11_plannedNow_2 : decode cX11_plannedNow 2 = .ok (.iconst 0, 1) := by decide +kernel
theorem dX11_plannedNow_3 : decode cX11_plannedNow 3 = .ok (.istore_n 3, 1) := by decide +kernel
theorem dX11_plannedNow_4 : decode cX11_plannedNow 4 = .ok (.iload_n 3, 1) := by decide +kernel
theorem dX11_plannedNow_5 : decode cX11_plannedNow 5 = .ok (.aload_n 0, 1) := by decide +kernel
theorem dX11_plannedNow_6 : decode cX11_plannedNow 6 = .ok (.getfield 248, 3) := by decide +kernel
theorem dX11_plannedNow_9 : decode cX11_plannedNow 9 = .ok (.if_icmp .ge 116, 3) := by decide +kernel
theorem dX11_plannedNow_12 : decode cX11_plannedNow 12 = .ok (.aload_n 0, 1) := by decide +kernel
theorem dX11_plannedNow_13 : decode cX11_plannedNow 13 = .ok (.iload_n 3, 1) := by decide +kernel
theorem dX11_plannedNow_14 : decode cX11_plannedNow 14 = .ok (.invokevirtual 254, 3) := by decide +kernel
theorem dX11_plannedNow_17 : decode cX11_plannedNow 17 = .ok (.ifCond .ne 6, 3) := by decide +kernel
theorem dX11_plannedNow_20 : decode cX11_plannedNow 20 = .ok (.goto 99, 3) := by decide +kernel
theorem dX11_plannedNow_23 : decode cX11_plannedNow 23 = .ok (.iconst 0, 1) := by decide +kernel
theorem dX11_plannedNow_24 : decode cX11_plannedNow 24 = .ok (.istore 4, 2) := by decide +kernel
theorem dX11_plannedNow_26 : decode cX11_plannedNow 26 = .ok (.iconst 0, 1) := by decide +kernel
theorem dX11_plannedNow_27 : decode cX11_plannedNow 27 = .ok (.istore 5, 2) := by decide +kernel
theorem dX11_plannedNow_29 : decode cX11_plannedNow 29 = .ok (.aload_n 0, 1) := by decide +kernel
theorem dX11_plannedNow_30 : decode cX11_plannedNow 30 = .ok (.getfield 73, 3) := by decide +kernel
theorem dX11_plannedNow_33 : decode cX11_plannedNow 33 = .ok (.iconst 0, 1) := by decide +kernel
theorem dX11_plannedNow_34 : decode cX11_plannedNow 34 = .ok (.aaload, 1) := by decide +kernel
theorem dX11_plannedNow_35 : decode cX11_plannedNow 35 = .ok (.iload_n 3, 1) := by decide +kernel
theorem dX11_plannedNow_36 : decode cX11_plannedNow 36 = .ok (.iaload, 1) := by decide +kernel
theorem dX11_plannedNow_37 : decode cX11_plannedNow 37 = .ok (.istore 6, 2) := by decide +kernel
theorem dX11_plannedNow_39 : decode cX11_plannedNow 39 = .ok (.iload 6, 2) := by decide +kernel
theorem dX11_plannedNow_41 : decode cX11_plannedNow 41 = .ok (.aload_n 0, 1) := by decide +kernel
theorem dX11_plannedNow_42 : decode cX11_plannedNow 42 = .ok (.getfield 73, 3) := by decide +kernel
theorem dX11_plannedNow_45 : decode cX11_plannedNow 45 = .ok (.iconst 1, 1) := by decide +kernel
theorem dX11_plannedNow_46 : decode cX11_plannedNow 46 = .ok (.aaload, 1) := by decide +kernel
theorem dX11_plannedNow_47 : decode cX11_plannedNow 47 = .ok (.iload_n 3, 1) := by decide +kernel
theorem dX11_plannedNow_48 : decode cX11_plannedNow 48 = .ok (.iaload, 1) := by decide +kernel
theorem dX11_plannedNow_49 : decode cX11_plannedNow 49 = .ok (.if_icmp .ge 46, 3) := by decide +kernel
theorem dX11_plannedNow_52 : decode cX11_plannedNow 52 = .ok (.aload_n 0, 1) := by decide +kernel
theorem dX11_plannedNow_53 : decode cX11_plannedNow 53 = .ok (.aload_n 0, 1) := by decide +kernel
theorem dX11_plannedNow_54 : decode cX11_plannedNow 54 = .ok (.getfield 30, 3) := by decide +kernel
theorem dX11_plannedNow_57 : decode cX11_plannedNow 57 = .ok (.iload_n 3, 1) := by decide +kernel
theorem dX11_plannedNow_58 : decode cX11_plannedNow 58 = .ok (.iaload, 1) := by decide +kernel
theorem dX11_plannedNow_59 : decode cX11_plannedNow 59 = .ok (.iload 6, 2) := by decide +kernel
theorem dX11_plannedNow_61 : decode cX11_plannedNow 61 = .ok (.invokevirtual 260, 3) := by decide +kernel
theorem dX11_plannedNow_64 : decode cX11_plannedNow 64 = .ok (.ifCond .ne 6, 3) := by decide +kernel
theorem dX11_plannedNow_67 : decode cX11_plannedNow 67 = .ok (.goto 22, 3) := by decide +kernel
theorem dX11_plannedNow_70 : decode cX11_plannedNow 70 = .ok (.iinc 4 1, 3) := by decide +kernel
theorem dX11_plannedNow_73 : decode cX11_plannedNow 73 = .ok (.iload 5, 2) := by decide +kernel
theorem dX11_plannedNow_75 : decode cX11_plannedNow 75 = .ok (.iload 6, 2) := by decide +kernel
theorem dX11_plannedNow_77 : decode cX11_plannedNow 77 = .ok (.iload_n 1, 1) := by decide +kernel
theorem dX11_plannedNow_78 : decode cX11_plannedNow 78 = .ok (.if_icmp .ge 7, 3) := by decide +kernel
theorem dX11_plannedNow_81 : decode cX11_plannedNow 81 = .ok (.iconst 1, 1) := by decide +kernel
theorem dX11_plannedNow_82 : decode cX11_plannedNow 82 = .ok (.goto 4, 3) := by decide +kernel
theorem dX11_plannedNow_85 : decode cX11_plannedNow 85 = .ok (.iconst 0, 1) := by decide +kernel
theorem dX11_plannedNow_86 : decode cX11_plannedNow 86 = .ok (.iadd, 1) := by decide +kernel
theorem dX11_plannedNow_87 : decode cX11_plannedNow 87 = .ok (.istore 5, 2) := by decide +kernel
theorem dX11_plannedNow_89 : decode cX11_plannedNow 89 = .ok (.iinc 6 1, 3) := by decide +kernel
theorem dX11_plannedNow_92 : decode cX11_plannedNow 92 = .ok (.goto (-53), 3) := by decide +kernel
theorem dX11_plannedNow_95 : decode cX11_plannedNow 95 = .ok (.iload_n 2, 1) := by decide +kernel
theorem dX11_plannedNow_96 : decode cX11_plannedNow 96 = .ok (.iload 4, 2) := by decide +kernel
theorem dX11_plannedNow_98 : decode cX11_plannedNow 98 = .ok (.ifCond .ne 7, 3) := by decide +kernel
theorem dX11_plannedNow_101 : decode cX11_plannedNow 101 = .ok (.iconst 0, 1) := by decide +kernel
theorem dX11_plannedNow_102 : decode cX11_plannedNow 102 = .ok (.goto 15, 3) := by decide +kernel
theorem dX11_plannedNow_105 : decode cX11_plannedNow 105 = .ok (.aload_n 0, 1) := by decide +kernel
theorem dX11_plannedNow_106 : decode cX11_plannedNow 106 = .ok (.getfield 76, 3) := by decide +kernel
theorem dX11_plannedNow_109 : decode cX11_plannedNow 109 = .ok (.iload_n 3, 1) := by decide +kernel
theorem dX11_plannedNow_110 : decode cX11_plannedNow 110 = .ok (.iaload, 1) := by decide +kernel
theorem dX11_plannedNow_111 : decode cX11_plannedNow 111 = .ok (.iload 5, 2) := by decide +kernel
theorem dX11_plannedNow_113 : decode cX11_plannedNow 113 = .ok (.imul, 1) := by decide +kernel
theorem dX11_plannedNow_114 : decode cX11_plannedNow 114 = .ok (.iload 4, 2) := by decide +kernel
theorem dX11_plannedNow_116 : decode cX11_plannedNow 116 = .ok (.idiv, 1) := by decide +kernel
theorem dX11_plannedNow_117 : decode cX11_plannedNow 117 = .ok (.iadd, 1) := by decide +kernel
theorem dX11_plannedNow_118 : decode cX11_plannedNow 118 = .ok (.istore_n 2, 1) := by decide +kernel
theorem dX11_plannedNow_119 : decode cX11_plannedNow 119 = .ok (.iinc 3 1, 3) := by decide +kernel
theorem dX11_plannedNow_122 : decode cX11_plannedNow 122 = .ok (.goto (-118), 3) := by decide +kernel
theorem dX11_plannedNow_125 : decode cX11_plannedNow 125 = .ok (.iload_n 2, 1) := by decide +kernel
theorem dX11_plannedNow_126 : decode cX11_plannedNow 126 = .ok (.ireturn, 1) := by decide +kernel
theorem dX11_planned_0 : decode cX11_planned 0 = .ok (.aload_n 0, 1) := by decide +kernel
theorem dX11_planned_1 : decode cX11_planned 1 = .ok (.iconst 0, 1) := by decide +kernel
theorem dX11_planned_2 : decode cX11_planned 2 = .ok (.putfield 88, 3) := by decide +kernel
theorem dX11_planned_5 : decode cX11_planned 5 = .ok (.iload_n 1, 1) := by decide +kernel
theorem dX11_planned_6 : decode cX11_planned 6 = .ok (.iconst 0, 1) := by decide +kernel
theorem dX11_planned_7 : decode cX11_planned 7 = .ok (.sipush 9999, 3) := by decide +kernel
theorem dX11_planned_10 : decode cX11_planned 10 = .ok (.invokestatic 92, 3) := by decide +kernel
theorem dX11_planned_13 : decode cX11_planned 13 = .ok (.ifCond .eq 11, 3) := by decide +kernel
theorem dX11_planned_16 : decode cX11_planned 16 = .ok (.aload_n 0, 1) := by decide +kernel
theorem dX11_planned_17 : decode cX11_planned 17 = .ok (.iload_n 1, 1) := by decide +kernel
theorem dX11_planned_18 : decode cX11_planned 18 = .ok (.invokevirtual 263, 3) := by decide +kernel
theorem dX11_planned_21 : decode cX11_planned 21 = .ok (.goto 8, 3) := by decide +kernel
theorem dX11_planned_24 : decode cX11_planned 24 = .ok (.aload_n 0, 1) := by decide +kernel
theorem dX11_planned_25 : decode cX11_planned 25 = .ok (.iconst 1, 1) := by decide +kernel
theorem dX11_planned_26 : decode cX11_planned 26 = .ok (.invokevirtual 194, 3) := by decide +kernel
theorem dX11_planned_29 : decode cX11_planned 29 = .ok (.ireturn, 1) := by decide +kernel
theorem dX11_earnedNow_0 : decode cX11_earnedNow 0 = .ok (.iconst 0, 1) := by decide +kernel
theorem dX11_earnedNow_1 : decode cX11_earnedNow 1 = .ok (.istore_n 1, 1) := by decide +kernel
theorem dX11_earnedNow_2 : decode cX11_earnedNow 2 = .ok (.iconst 0, 1) := by decide +kernel
theorem dX11_earnedNow_3 : decode cX11_earnedNow 3 = .ok (.istore_n 2, 1) := by decide +kernel
theorem dX11_earnedNow_4 : decode cX11_earnedNow 4 = .ok (.iload_n 2, 1) := by decide +kernel
theorem dX11_earnedNow_5 : decode cX11_earnedNow 5 = .ok (.aload_n 0, 1) := by decide +kernel
theorem dX11_earnedNow_6 : decode cX11_earnedNow 6 = .ok (.getfield 248, 3) := by decide +kernel
theorem dX11_earnedNow_9 : decode cX11_earnedNow 9 = .ok (.if_icmp .ge 39, 3) := by decide +kernel
theorem dX11_earnedNow_12 : decode cX11_earnedNow 12 = .ok (.iload_n 1, 1) := by decide +kernel
theorem dX11_earnedNow_13 : decode cX11_earnedNow 13 = .ok (.aload_n 0, 1) := by decide +kernel
theorem dX11_earnedNow_14 : decode cX11_earnedNow 14 = .ok (.iload_n 2, 1) := by decide +kernel
theorem dX11_earnedNow_15 : decode cX11_earnedNow 15 = .ok (.invokevirtual 254, 3) := by decide +kernel
theorem dX11_earnedNow_18 : decode cX11_earnedNow 18 = .ok (.ifCond .eq 21, 3) := by decide +kernel
theorem dX11_earnedNow_21 : decode cX11_earnedNow 21 = .ok (.aload_n 0, 1) := by decide +kernel
theorem dX11_earnedNow_22 : decode cX11_earnedNow 22 = .ok (.getfield 42, 3) := by decide +kernel
theorem dX11_earnedNow_25 : decode cX11_earnedNow 25 = .ok (.iload_n 2, 1) := by decide +kernel
theorem dX11_earnedNow_26 : decode cX11_earnedNow 26 = .ok (.baload, 1) := by decide +kernel
theorem dX11_earnedNow_27 : decode cX11_earnedNow 27 = .ok (.ifCond .eq 12, 3) := by decide +kernel
theorem dX11_earnedNow_30 : decode cX11_earnedNow 30 = .ok (.aload_n 0, 1) := by decide +kernel
theorem dX11_earnedNow_31 : decode cX11_earnedNow 31 = .ok (.getfield 76, 3) := by decide +kernel
theorem dX11_earnedNow_34 : decode cX11_earnedNow 34 = .ok (.iload_n 2, 1) := by decide +kernel
theorem dX11_earnedNow_35 : decode cX11_earnedNow 35 = .ok (.iaload, 1) := by decide +kernel
theorem dX11_earnedNow_36 : decode cX11_earnedNow 36 = .ok (.goto 4, 3) := by decide +kernel
theorem dX11_earnedNow_39 : decode cX11_earnedNow 39 = .ok (.iconst 0, 1) := by decide +kernel
theorem dX11_earnedNow_40 : decode cX11_earnedNow 40 = .ok (.iadd, 1) := by decide +kernel
theorem dX11_earnedNow_41 : decode cX11_earnedNow 41 = .ok (.istore_n 1, 1) := by decide +kernel
theorem dX11_earnedNow_42 : decode cX11_earnedNow 42 = .ok (.iinc 2 1, 3) := by decide +kernel
theorem dX11_earnedNow_45 : decode cX11_earnedNow 45 = .ok (.goto (-41), 3) := by decide +kernel
theorem dX11_earnedNow_48 : decode cX11_earnedNow 48 = .ok (.iload_n 1, 1) := by decide +kernel
theorem dX11_earnedNow_49 : decode cX11_earnedNow 49 = .ok (.ireturn, 1) := by decide +kernel
theorem dX11_earned_0 : decode cX11_earned 0 = .ok (.aload_n 0, 1) := by decide +kernel
theorem dX11_earned_1 : decode cX11_earned 1 = .ok (.iconst 0, 1) := by decide +kernel
theorem dX11_earned_2 : decode cX11_earned 2 = .ok (.putfield 88, 3) := by decide +kernel
theorem dX11_earned_5 : decode cX11_earned 5 = .ok (.aload_n 0, 1) := by decide +kernel
theorem dX11_earned_6 : decode cX11_earned 6 = .ok (.invokevirtual 266, 3) := by decide +kernel
theorem dX11_earned_9 : decode cX11_earned 9 = .ok (.ireturn, 1) := by decide +kernel
theorem dX11_worthNow_0 : decode cX11_worthNow 0 = .ok (.iconst 0, 1) := by decide +kernel
theorem dX11_worthNow_1 : decode cX11_worthNow 1 = .ok (.istore_n 1, 1) := by decide +kernel
theorem dX11_worthNow_2 : decode cX11_worthNow 2 = .ok (.iconst 0, 1) := by decide +kernel
theorem dX11_worthNow_3 : decode cX11_worthNow 3 = .ok (.istore_n 2, 1) := by decide +kernel
theorem dX11_worthNow_4 : decode cX11_worthNow 4 = .ok (.iload_n 2, 1) := by decide +kernel
theorem dX11_worthNow_5 : decode cX11_worthNow 5 = .ok (.aload_n 0, 1) := by decide +kernel
theorem dX11_worthNow_6 : decode cX11_worthNow 6 = .ok (.getfield 96, 3) := by decide +kernel
theorem dX11_worthNow_9 : decode cX11_worthNow 9 = .ok (.if_icmp .ge 17, 3) := by decide +kernel
theorem dX11_worthNow_12 : decode cX11_worthNow 12 = .ok (.iload_n 1, 1) := by decide +kernel
theorem dX11_worthNow_13 : decode cX11_worthNow 13 = .ok (.aload_n 0, 1) := by decide +kernel
theorem dX11_worthNow_14 : decode cX11_worthNow 14 = .ok (.iload_n 2, 1) := by decide +kernel
theorem dX11_worthNow_15 : decode cX11_worthNow 15 = .ok (.invokevirtual 251, 3) := by decide +kernel
theorem dX11_worthNow_18 : decode cX11_worthNow 18 = .ok (.iadd, 1) := by decide +kernel
theorem dX11_worthNow_19 : decode cX11_worthNow 19 = .ok (.istore_n 1, 1) := by decide +kernel
theorem dX11_worthNow_20 : decode cX11_worthNow 20 = .ok (.iinc 2 1, 3) := by decide +kernel
theorem dX11_worthNow_23 : decode cX11_worthNow 23 = .ok (.goto (-19), 3) := by decide +kernel
theorem dX11_worthNow_26 : decode cX11_worthNow 26 = .ok (.iload_n 1, 1) := by decide +kernel
theorem dX11_worthNow_27 : decode cX11_worthNow 27 = .ok (.ireturn, 1) := by decide +kernel
theorem dX11_worth_0 : decode cX11_worth 0 = .ok (.aload_n 0, 1) := by decide +kernel
theorem dX11_worth_1 : decode cX11_worth 1 = .ok (.iconst 0, 1) := by decide +kernel
theorem dX11_worth_2 : decode cX11_worth 2 = .ok (.putfield 88, 3) := by decide +kernel
theorem dX11_worth_5 : decode cX11_worth 5 = .ok (.aload_n 0, 1) := by decide +kernel
theorem dX11_worth_6 : decode cX11_worth 6 = .ok (.invokevirtual 269, 3) := by decide +kernel
theorem dX11_worth_9 : decode cX11_worth 9 = .ok (.ireturn, 1) := by decide +kernel
theorem dX11_pace_0 : decode cX11_pace 0 = .ok (.aload_n 0, 1) := by decide +kernel
theorem dX11_pace_1 : decode cX11_pace 1 = .ok (.iload_n 1, 1) := by decide +kernel
theorem dX11_pace_2 : decode cX11_pace 2 = .ok (.iconst 0, 1) := by decide +kernel
theorem dX11_pace_3 : decode cX11_pace 3 = .ok (.sipush 9999, 3) := by decide +kernel
theorem dX11_pace_6 : decode cX11_pace 6 = .ok (.invokestatic 92, 3) := by decide +kernel
theorem dX11_pace_9 : decode cX11_pace 9 = .ok (.ifCond .eq 7, 3) := by decide +kernel
theorem dX11_pace_12 : decode cX11_pace 12 = .ok (.iconst 0, 1) := by decide +kernel
theorem dX11_pace_13 : decode cX11_pace 13 = .ok (.goto 4, 3) := by decide +kernel
theorem dX11_pace_16 : decode cX11_pace 16 = .ok (.iconst 1, 1) := by decide +kernel
theorem dX11_pace_17 : decode cX11_pace 17 = .ok (.putfield 88, 3) := by decide +kernel
theorem dX11_pace_20 : decode cX11_pace 20 = .ok (.aload_n 0, 1) := by decide +kernel
theorem dX11_pace_21 : decode cX11_pace 21 = .ok (.getfield 88, 3) := by decide +kernel
theorem dX11_pace_24 : decode cX11_pace 24 = .ok (.ifCond .gt 11, 3) := by decide +kernel
theorem dX11_pace_27 : decode cX11_pace 27 = .ok (.aload_n 0, 1) := by decide +kernel
theorem dX11_pace_28 : decode cX11_pace 28 = .ok (.iload_n 1, 1) := by decide +kernel
theorem dX11_pace_29 : decode cX11_pace 29 = .ok (.invokevirtual 263, 3) := by decide +kernel
theorem dX11_pace_32 : decode cX11_pace 32 = .ok (.ifCond .ne 5, 3) := by decide +kernel
theorem dX11_pace_35 : decode cX11_pace 35 = .ok (.dconst 0, 1) := by decide +kernel
theorem dX11_pace_36 : decode cX11_pace 36 = .ok (.dreturn, 1) := by decide +kernel
theorem dX11_pace_37 : decode cX11_pace 37 = .ok (.aload_n 0, 1) := by decide +kernel
theorem dX11_pace_38 : decode cX11_pace 38 = .ok (.invokevirtual 266, 3) := by decide +kernel
theorem dX11_pace_41 : decode cX11_pace 41 = .ok (.i2d, 1) := by decide +kernel
theorem dX11_pace_42 : decode cX11_pace 42 = .ok (.aload_n 0, 1) := by decide +kernel
theorem dX11_pace_43 : decode cX11_pace 43 = .ok (.iload_n 1, 1) := by decide +kernel
theorem dX11_pace_44 : decode cX11_pace 44 = .ok (.invokevirtual 263, 3) := by decide +kernel
theorem dX11_pace_47 : decode cX11_pace 47 = .ok (.i2d, 1) := by decide +kernel
theorem dX11_pace_48 : decode cX11_pace 48 = .ok (.ddiv, 1) := by decide +kernel
theorem dX11_pace_49 : decode cX11_pace 49 = .ok (.dreturn, 1) := by decide +kernel
theorem dX11_relaid_0 : decode cX11_relaid 0 = .ok (.aload_n 0, 1) := by decide +kernel
theorem dX11_relaid_1 : decode cX11_relaid 1 = .ok (.iconst 0, 1) := by decide +kernel
theorem dX11_relaid_2 : decode cX11_relaid 2 = .ok (.putfield 175, 3) := by decide +kernel
theorem dX11_relaid_5 : decode cX11_relaid 5 = .ok (.aload_n 0, 1) := by decide +kernel
theorem dX11_relaid_6 : decode cX11_relaid 6 = .ok (.invokevirtual 179, 3) := by decide +kernel
theorem dX11_relaid_9 : decode cX11_relaid 9 = .ok (.aload_n 0, 1) := by decide +kernel
theorem dX11_relaid_10 : decode cX11_relaid 10 = .ok (.invokevirtual 182, 3) := by decide +kernel
theorem dX11_relaid_13 : decode cX11_relaid 13 = .ok (.iload_n 1, 1) := by decide +kernel
theorem dX11_relaid_14 : decode cX11_relaid 14 = .ok (.ifCond .ne 8, 3) := by decide +kernel
theorem dX11_relaid_17 : decode cX11_relaid 17 = .ok (.aload_n 0, 1) := by decide +kernel
theorem dX11_relaid_18 : decode cX11_relaid 18 = .ok (.getfield 133, 3) := by decide +kernel
theorem dX11_relaid_21 : decode cX11_relaid 21 = .ok (.ireturn, 1) := by decide +kernel
theorem dX11_relaid_22 : decode cX11_relaid 22 = .ok (.aload_n 0, 1) := by decide +kernel
theorem dX11_relaid_23 : decode cX11_relaid 23 = .ok (.invokevirtual 185, 3) := by decide +kernel
theorem dX11_relaid_26 : decode cX11_relaid 26 = .ok (.aload_n 0, 1) := by decide +kernel
theorem dX11_relaid_27 : decode cX11_relaid 27 = .ok (.invokevirtual 188, 3) := by decide +kernel
theorem dX11_relaid_30 : decode cX11_relaid 30 = .ok (.aload_n 0, 1) := by decide +kernel
theorem dX11_relaid_31 : decode cX11_relaid 31 = .ok (.getfield 153, 3) := by decide +kernel
theorem dX11_relaid_34 : decode cX11_relaid 34 = .ok (.ireturn, 1) := by decide +kernel
theorem dX11_lastWith_0 : decode cX11_lastWith 0 = .ok (.aload_n 0, 1) := by decide +kernel
theorem dX11_lastWith_1 : decode cX11_lastWith 1 = .ok (.iconst 0, 1) := by decide +kernel
theorem dX11_lastWith_2 : decode cX11_lastWith 2 = .ok (.putfield 88, 3) := by decide +kernel
theorem dX11_lastWith_5 : decode cX11_lastWith 5 = .ok (.aload_n 0, 1) := by decide +kernel
theorem dX11_lastWith_6 : decode cX11_lastWith 6 = .ok (.iload_n 1, 1) := by decide +kernel
theorem dX11_lastWith_7 : decode cX11_lastWith 7 = .ok (.invokevirtual 201, 3) := by decide +kernel
theorem dX11_lastWith_10 : decode cX11_lastWith 10 = .ok (.ifCond .ne 9, 3) := by decide +kernel
theorem dX11_lastWith_13 : decode cX11_lastWith 13 = .ok (.aload_n 0, 1) := by decide +kernel
theorem dX11_lastWith_14 : decode cX11_lastWith 14 = .ok (.iconst 1, 1) := by decide +kernel
theorem dX11_lastWith_15 : decode cX11_lastWith 15 = .ok (.invokevirtual 194, 3) := by decide +kernel
theorem dX11_lastWith_18 : decode cX11_lastWith 18 = .ok (.ireturn, 1) := by decide +kernel
theorem dX11_lastWith_19 : decode cX11_lastWith 19 = .ok (.iload_n 2, 1) := by decide +kernel
theorem dX11_lastWith_20 : decode cX11_lastWith 20 = .ok (.iconst 0, 1) := by decide +kernel
theorem dX11_lastWith_21 : decode cX11_lastWith 21 = .ok (.bipush 20, 2) := by decide +kernel
theorem dX11_lastWith_23 : decode cX11_lastWith 23 = .ok (.invokestatic 92, 3) := by decide +kernel
theorem dX11_lastWith_26 : decode cX11_lastWith 26 = .ok (.ifCond .ne 9, 3) := by decide +kernel
theorem dX11_lastWith_29 : decode cX11_lastWith 29 = .ok (.aload_n 0, 1) := by decide +kernel
theorem dX11_lastWith_30 : decode cX11_lastWith 30 = .ok (.iconst 2, 1) := by decide +kernel
theorem dX11_lastWith_31 : decode cX11_lastWith 31 = .ok (.invokevirtual 194, 3) := by decide +kernel
theorem dX11_lastWith_34 : decode cX11_lastWith 34 = .ok (.ireturn, 1) := by decide +kernel
theorem dX11_lastWith_35 : decode cX11_lastWith 35 = .ok (.aload_n 0, 1) := by decide +kernel
theorem dX11_lastWith_36 : decode cX11_lastWith 36 = .ok (.getfield 27, 3) := by decide +kernel
theorem dX11_lastWith_39 : decode cX11_lastWith 39 = .ok (.iload_n 1, 1) := by decide +kernel
theorem dX11_lastWith_40 : decode cX11_lastWith 40 = .ok (.iaload, 1) := by decide +kernel
theorem dX11_lastWith_41 : decode cX11_lastWith 41 = .ok (.istore_n 3, 1) := by decide +kernel
theorem dX11_lastWith_42 : decode cX11_lastWith 42 = .ok (.aload_n 0, 1) := by decide +kernel
theorem dX11_lastWith_43 : decode cX11_lastWith 43 = .ok (.getfield 27, 3) := by decide +kernel
theorem dX11_lastWith_46 : decode cX11_lastWith 46 = .ok (.iload_n 1, 1) := by decide +kernel
theorem dX11_lastWith_47 : decode cX11_lastWith 47 = .ok (.iload_n 2, 1) := by decide +kernel
theorem dX11_lastWith_48 : decode cX11_lastWith 48 = .ok (.iastore, 1) := by decide +kernel
theorem dX11_lastWith_49 : decode cX11_lastWith 49 = .ok (.aload_n 0, 1) := by decide +kernel
theorem dX11_lastWith_50 : decode cX11_lastWith 50 = .ok (.iconst 0, 1) := by decide +kernel
theorem dX11_lastWith_51 : decode cX11_lastWith 51 = .ok (.invokevirtual 272, 3) := by decide +kernel
theorem dX11_lastWith_54 : decode cX11_lastWith 54 = .ok (.istore 4, 2) := by decide +kernel
theorem dX11_lastWith_56 : decode cX11_lastWith 56 = .ok (.aload_n 0, 1) := by decide +kernel
theorem dX11_lastWith_57 : decode cX11_lastWith 57 = .ok (.getfield 27, 3) := by decide +kernel
theorem dX11_lastWith_60 : decode cX11_lastWith 60 = .ok (.iload_n 1, 1) := by decide +kernel
theorem dX11_lastWith_61 : decode cX11_lastWith 61 = .ok (.iload_n 3, 1) := by decide +kernel
theorem dX11_lastWith_62 : decode cX11_lastWith 62 = .ok (.iastore, 1) := by decide +kernel
theorem dX11_lastWith_63 : decode cX11_lastWith 63 = .ok (.iload 4, 2) := by decide +kernel
theorem dX11_lastWith_65 : decode cX11_lastWith 65 = .ok (.ireturn, 1) := by decide +kernel
theorem dX11_levelledWith_0 : decode cX11_levelledWith 0 = .ok (.aload_n 0, 1) := by decide +kernel
theorem dX11_levelledWith_1 : decode cX11_levelledWith 1 = .ok (.iconst 0, 1) := by decide +kernel
theorem dX11_levelledWith_2 : decode cX11_levelledWith 2 = .ok (.putfield 88, 3) := by decide +kernel
theorem dX11_levelledWith_5 : decode cX11_levelledWith 5 = .ok (.iload_n 1, 1) := by decide +kernel
theorem dX11_levelledWith_6 : decode cX11_levelledWith 6 = .ok (.invokestatic 198, 3) := by decide +kernel
theorem dX11_levelledWith_9 : decode cX11_levelledWith 9 = .ok (.ifCond .ne 9, 3) := by decide +kernel
theorem dX11_levelledWith_12 : decode cX11_levelledWith 12 = .ok (.aload_n 0, 1) := by decide +kernel
theorem dX11_levelledWith_13 : decode cX11_levelledWith 13 = .ok (.iconst 1, 1) := by decide +kernel
theorem dX11_levelledWith_14 : decode cX11_levelledWith 14 = .ok (.invokevirtual 194, 3) := by decide +kernel
theorem dX11_levelledWith_17 : decode cX11_levelledWith 17 = .ok (.ireturn, 1) := by decide +kernel
theorem dX11_levelledWith_18 : decode cX11_levelledWith 18 = .ok (.iload_n 2, 1) := by decide +kernel
theorem dX11_levelledWith_19 : decode cX11_levelledWith 19 = .ok (.iconst 0, 1) := by decide +kernel
theorem dX11_levelledWith_20 : decode cX11_levelledWith 20 = .ok (.bipush 9, 2) := by decide +kernel
theorem dX11_levelledWith_22 : decode cX11_levelledWith 22 = .ok (.invokestatic 92, 3) := by decide +kernel
theorem dX11_levelledWith_25 : decode cX11_levelledWith 25 = .ok (.ifCond .ne 9, 3) := by decide +kernel
theorem dX11_levelledWith_28 : decode cX11_levelledWith 28 = .ok (.aload_n 0, 1) := by decide +kernel
theorem dX11_levelledWith_29 : decode cX11_levelledWith 29 = .ok (.iconst 2, 1) := by decide +kernel
theorem dX11_levelledWith_30 : decode cX11_levelledWith 30 = .ok (.invokevirtual 194, 3) := by decide +kernel
theorem dX11_levelledWith_33 : decode cX11_levelledWith 33 = .ok (.ireturn, 1) := by decide +kernel
theorem dX11_levelledWith_34 : decode cX11_levelledWith 34 = .ok (.aload_n 0, 1) := by decide +kernel
theorem dX11_levelledWith_35 : decode cX11_levelledWith 35 = .ok (.getfield 21, 3) := by decide +kernel
theorem dX11_levelledWith_38 : decode cX11_levelledWith 38 = .ok (.iload_n 1, 1) := by decide +kernel
theorem dX11_levelledWith_39 : decode cX11_levelledWith 39 = .ok (.iaload, 1) := by decide +kernel
theorem dX11_levelledWith_40 : decode cX11_levelledWith 40 = .ok (.istore_n 3, 1) := by decide +kernel
theorem dX11_levelledWith_41 : decode cX11_levelledWith 41 = .ok (.aload_n 0, 1) := by decide +kernel
theorem dX11_levelledWith_42 : decode cX11_levelledWith 42 = .ok (.getfield 21, 3) := by decide +kernel
theorem dX11_levelledWith_45 : decode cX11_levelledWith 45 = .ok (.iload_n 1, 1) := by decide +kernel
theorem dX11_levelledWith_46 : decode cX11_levelledWith 46 = .ok (.iload_n 2, 1) := by decide +kernel
theorem dX11_levelledWith_47 : decode cX11_levelledWith 47 = .ok (.iastore, 1) := by decide +kernel
theorem dX11_levelledWith_48 : decode cX11_levelledWith 48 = .ok (.aload_n 0, 1) := by decide +kernel
theorem dX11_levelledWith_49 : decode cX11_levelledWith 49 = .ok (.iconst 1, 1) := by decide +kernel
theorem dX11_levelledWith_50 : decode cX11_levelledWith 50 = .ok (.invokevirtual 272, 3) := by decide +kernel
theorem dX11_levelledWith_53 : decode cX11_levelledWith 53 = .ok (.istore 4, 2) := by decide +kernel
theorem dX11_levelledWith_55 : decode cX11_levelledWith 55 = .ok (.aload_n 0, 1) := by decide +kernel
theorem dX11_levelledWith_56 : decode cX11_levelledWith 56 = .ok (.getfield 21, 3) := by decide +kernel
theorem dX11_levelledWith_59 : decode cX11_levelledWith 59 = .ok (.iload_n 1, 1) := by decide +kernel
theorem dX11_levelledWith_60 : decode cX11_levelledWith 60 = .ok (.iload_n 3, 1) := by decide +kernel
theorem dX11_levelledWith_61 : decode cX11_levelledWith 61 = .ok (.iastore, 1) := by decide +kernel
theorem dX11_levelledWith_62 : decode cX11_levelledWith 62 = .ok (.iload 4, 2) := by decide +kernel
theorem dX11_levelledWith_64 : decode cX11_levelledWith 64 = .ok (.ireturn, 1) := by decide +kernel
theorem dX11_levelledWithout_0 : decode cX11_levelledWithout 0 = .ok (.aload_n 0, 1) := by decide +kernel
theorem dX11_levelledWithout_1 : decode cX11_levelledWithout 1 = .ok (.iconst 0, 1) := by decide +kernel
theorem dX11_levelledWithout_2 : decode cX11_levelledWithout 2 = .ok (.putfield 88, 3) := by decide +kernel
theorem dX11_levelledWithout_5 : decode cX11_levelledWithout 5 = .ok (.aload_n 0, 1) := by decide +kernel
theorem dX11_levelledWithout_6 : decode cX11_levelledWithout 6 = .ok (.iload_n 1, 1) := by decide +kernel
theorem dX11_levelledWithout_7 : decode cX11_levelledWithout 7 = .ok (.invokevirtual 213, 3) := by decide +kernel
theorem dX11_levelledWithout_10 : decode cX11_levelledWithout 10 = .ok (.ifCond .ne 9, 3) := by decide +kernel
theorem dX11_levelledWithout_13 : decode cX11_levelledWithout 13 = .ok (.aload_n 0, 1) := by decide +kernel
theorem dX11_levelledWithout_14 : decode cX11_levelledWithout 14 = .ok (.iconst 1, 1) := by decide +kernel
theorem dX11_levelledWithout_15 : decode cX11_levelledWithout 15 = .ok (.invokevirtual 194, 3) := by decide +kernel
theorem dX11_levelledWithout_18 : decode cX11_levelledWithout 18 = .ok (.ireturn, 1) := by decide +kernel
theorem dX11_levelledWithout_19 : decode cX11_levelledWithout 19 = .ok (.aload_n 0, 1) := by decide +kernel
theorem dX11_levelledWithout_20 : decode cX11_levelledWithout 20 = .ok (.getfield 49, 3) := by decide +kernel
theorem dX11_levelledWithout_23 : decode cX11_levelledWithout 23 = .ok (.iload_n 1, 1) := by decide +kernel
theorem dX11_levelledWithout_24 : decode cX11_levelledWithout 24 = .ok (.aaload, 1) := by decide +kernel
theorem dX11_levelledWithout_25 : decode cX11_levelledWithout 25 = .ok (.astore_n 2, 1) := by decide +kernel
theorem dX11_levelledWithout_26 : decode cX11_levelledWithout 26 = .ok (.aload_n 0, 1) := by decide +kernel
theorem dX11_levelledWithout_27 : decode cX11_levelledWithout 27 = .ok (.iload_n 1, 1) := by decide +kernel
theorem dX11_levelledWithout_28 : decode cX11_levelledWithout 28 = .ok (.invokevirtual 216, 3) := by decide +kernel
theorem dX11_levelledWithout_31 : decode cX11_levelledWithout 31 = .ok (.aload_n 0, 1) := by decide +kernel
theorem dX11_levelledWithout_32 : decode cX11_levelledWithout 32 = .ok (.iconst 1, 1) := by decide +kernel
theorem dX11_levelledWithout_33 : decode cX11_levelledWithout 33 = .ok (.invokevirtual 272, 3) := by decide +kernel
theorem dX11_levelledWithout_36 : decode cX11_levelledWithout 36 = .ok (.istore_n 3, 1) := by decide +kernel
theorem dX11_levelledWithout_37 : decode cX11_levelledWithout 37 = .ok (.aload_n 0, 1) := by decide +kernel
theorem dX11_levelledWithout_38 : decode cX11_levelledWithout 38 = .ok (.getfield 49, 3) := by decide +kernel
theorem dX11_levelledWithout_41 : decode cX11_levelledWithout 41 = .ok (.iload_n 1, 1) := by decide +kernel
theorem dX11_levelledWithout_42 : decode cX11_levelledWithout 42 = .ok (.aload_n 0, 1) := by decide +kernel
theorem dX11_levelledWithout_43 : decode cX11_levelledWithout 43 = .ok (.getfield 49, 3) := by decide +kernel
theorem dX11_levelledWithout_46 : decode cX11_levelledWithout 46 = .ok (.iload_n 1, 1) := by decide +kernel
theorem dX11_levelledWithout_47 : decode cX11_levelledWithout 47 = .ok (.iconst 1, 1) := by decide +kernel
theorem dX11_levelledWithout_48 : decode cX11_levelledWithout 48 = .ok (.iadd, 1) := by decide +kernel
theorem dX11_levelledWithout_49 : decode cX11_levelledWithout 49 = .ok (.aload_n 0, 1) := by decide +kernel
theorem dX11_levelledWithout_50 : decode cX11_levelledWithout 50 = .ok (.getfield 99, 3) := by decide +kernel
theorem dX11_levelledWithout_53 : decode cX11_levelledWithout 53 = .ok (.iload_n 1, 1) := by decide +kernel
theorem dX11_levelledWithout_54 : decode cX11_levelledWithout 54 = .ok (.isub, 1) := by decide +kernel
theorem dX11_levelledWithout_55 : decode cX11_levelledWithout 55 = .ok (.invokestatic 207, 3) := by decide +kernel
theorem dX11_levelledWithout_58 : decode cX11_levelledWithout 58 = .ok (.aload_n 0, 1) := by decide +kernel
theorem dX11_levelledWithout_59 : decode cX11_levelledWithout 59 = .ok (.getfield 49, 3) := by decide +kernel
theorem dX11_levelledWithout_62 : decode cX11_levelledWithout 62 = .ok (.iload_n 1, 1) := by decide +kernel
theorem dX11_levelledWithout_63 : decode cX11_levelledWithout 63 = .ok (.aload_n 2, 1) := by decide +kernel
theorem dX11_levelledWithout_64 : decode cX11_levelledWithout 64 = .ok (.aastore, 1) := by decide +kernel
theorem dX11_levelledWithout_65 : decode cX11_levelledWithout 65 = .ok (.aload_n 0, 1) := by decide +kernel
theorem dX11_levelledWithout_66 : decode cX11_levelledWithout 66 = .ok (.dup, 1) := by decide +kernel
theorem dX11_levelledWithout_67 : decode cX11_levelledWithout 67 = .ok (.getfield 99, 3) := by decide +kernel
theorem dX11_levelledWithout_70 : decode cX11_levelledWithout 70 = .ok (.iconst 1, 1) := by decide +kernel
theorem dX11_levelledWithout_71 : decode cX11_levelledWithout 71 = .ok (.iadd, 1) := by decide +kernel
theorem dX11_levelledWithout_72 : decode cX11_levelledWithout 72 = .ok (.putfield 99, 3) := by decide +kernel
theorem dX11_levelledWithout_75 : decode cX11_levelledWithout 75 = .ok (.iload_n 3, 1) := by decide +kernel
theorem dX11_levelledWithout_76 : decode cX11_levelledWithout 76 = .ok (.ireturn, 1) := by decide +kernel
theorem dX11_bestRule_0 : decode cX11_bestRule 0 = .ok (.aload_n 0, 1) := by decide +kernel
theorem dX11_bestRule_1 : decode cX11_bestRule 1 = .ok (.iconst 0, 1) := by decide +kernel
theorem dX11_bestRule_2 : decode cX11_bestRule 2 = .ok (.putfield 88, 3) := by decide +kernel
theorem dX11_bestRule_5 : decode cX11_bestRule 5 = .ok (.aload_n 0, 1) := by decide +kernel
theorem dX11_bestRule_6 : decode cX11_bestRule 6 = .ok (.getfield 143, 3) := by decide +kernel
theorem dX11_bestRule_9 : decode cX11_bestRule 9 = .ok (.istore_n 1, 1) := by decide +kernel
theorem dX11_bestRule_10 : decode cX11_bestRule 10 = .ok (.iconst 0, 1) := by decide +kernel
theorem dX11_bestRule_11 : decode cX11_bestRule 11 = .ok (.istore_n 2, 1) := by decide +kernel
theorem dX11_bestRule_12 : decode cX11_bestRule 12 = .ok (.ldc_w 278, 3) := by decide +kernel
theorem dX11_bestRule_15 : decode cX11_bestRule 15 = .ok (.istore_n 3, 1) := by decide +kernel
theorem dX11_bestRule_16 : decode cX11_bestRule 16 = .ok (.aload_n 0, 1) := by decide +kernel
theorem dX11_bestRule_17 : decode cX11_bestRule 17 = .ok (.iconst 0, 1) := by decide +kernel
theorem dX11_bestRule_18 : decode cX11_bestRule 18 = .ok (.putfield 143, 3) := by decide +kernel
theorem dX11_bestRule_21 : decode cX11_bestRule 21 = .ok (.aload_n 0, 1) := by decide +kernel
theorem dX11_bestRule_22 : decode cX11_bestRule 22 = .ok (.getfield 143, 3) := by decide +kernel
theorem dX11_bestRule_25 : decode cX11_bestRule 25 = .ok (.iconst 4, 1) := by decide +kernel
theorem dX11_bestRule_26 : decode cX11_bestRule 26 = .ok (.if_icmp .ge 40, 3) := by decide +kernel
theorem dX11_bestRule_29 : decode cX11_bestRule 29 = .ok (.aload_n 0, 1) := by decide +kernel
theorem dX11_bestRule_30 : decode cX11_bestRule 30 = .ok (.iconst 1, 1) := by decide +kernel
theorem dX11_bestRule_31 : decode cX11_bestRule 31 = .ok (.invokevirtual 272, 3) := by decide +kernel
theorem dX11_bestRule_34 : decode cX11_bestRule 34 = .ok (.istore 4, 2) := by decide +kernel
theorem dX11_bestRule_36 : decode cX11_bestRule 36 = .ok (.iload 4, 2) := by decide +kernel
theorem dX11_bestRule_38 : decode cX11_bestRule 38 = .ok (.iload_n 3, 1) := by decide +kernel
theorem dX11_bestRule_39 : decode cX11_bestRule 39 = .ok (.if_icmp .lt 6, 3) := by decide +kernel
theorem dX11_bestRule_42 : decode cX11_bestRule 42 = .ok (.goto 11, 3) := by decide +kernel
theorem dX11_bestRule_45 : decode cX11_bestRule 45 = .ok (.iload 4, 2) := by decide +kernel
theorem dX11_bestRule_47 : decode cX11_bestRule 47 = .ok (.istore_n 3, 1) := by decide +kernel
theorem dX11_bestRule_48 : decode cX11_bestRule 48 = .ok (.aload_n 0, 1) := by decide +kernel
theorem dX11_bestRule_49 : decode cX11_bestRule 49 = .ok (.getfield 143, 3) := by decide +kernel
theorem dX11_bestRule_52 : decode cX11_bestRule 52 = .ok (.istore_n 2, 1) := by decide +kernel
theorem dX11_bestRule_53 : decode cX11_bestRule 53 = .ok (.aload_n 0, 1) := by decide +kernel
theorem dX11_bestRule_54 : decode cX11_bestRule 54 = .ok (.dup, 1) := by decide +kernel
theorem dX11_bestRule_55 : decode cX11_bestRule 55 = .ok (.getfield 143, 3) := by decide +kernel
theorem dX11_bestRule_58 : decode cX11_bestRule 58 = .ok (.iconst 1, 1) := by decide +kernel
theorem dX11_bestRule_59 : decode cX11_bestRule 59 = .ok (.iadd, 1) := by decide +kernel
theorem dX11_bestRule_60 : decode cX11_bestRule 60 = .ok (.putfield 143, 3) := by decide +kernel
theorem dX11_bestRule_63 : decode cX11_bestRule 63 = .ok (.goto (-42), 3) := by decide +kernel
theorem dX11_bestRule_66 : decode cX11_bestRule 66 = .ok (.aload_n 0, 1) := by decide +kernel
theorem dX11_bestRule_67 : decode cX11_bestRule 67 = .ok (.iload_n 1, 1) := by decide +kernel
theorem dX11_bestRule_68 : decode cX11_bestRule 68 = .ok (.putfield 143, 3) := by decide +kernel
theorem dX11_bestRule_71 : decode cX11_bestRule 71 = .ok (.iload_n 2, 1) := by decide +kernel
theorem dX11_bestRule_72 : decode cX11_bestRule 72 = .ok (.ireturn, 1) := by decide +kernel
theorem dX11_couldGrow_0 : decode cX11_couldGrow 0 = .ok (.aload_n 0, 1) := by decide +kernel
theorem dX11_couldGrow_1 : decode cX11_couldGrow 1 = .ok (.iconst 0, 1) := by decide +kernel
theorem dX11_couldGrow_2 : decode cX11_couldGrow 2 = .ok (.putfield 88, 3) := by decide +kernel
theorem dX11_couldGrow_5 : decode cX11_couldGrow 5 = .ok (.aload_n 0, 1) := by decide +kernel
theorem dX11_couldGrow_6 : decode cX11_couldGrow 6 = .ok (.iload_n 1, 1) := by decide +kernel
theorem dX11_couldGrow_7 : decode cX11_couldGrow 7 = .ok (.invokevirtual 201, 3) := by decide +kernel
theorem dX11_couldGrow_10 : decode cX11_couldGrow 10 = .ok (.ifCond .ne 9, 3) := by decide +kernel
theorem dX11_couldGrow_13 : decode cX11_couldGrow 13 = .ok (.aload_n 0, 1) := by decide +kernel
theorem dX11_couldGrow_14 : decode cX11_couldGrow 14 = .ok (.iconst 1, 1) := by decide +kernel
theorem dX11_couldGrow_15 : decode cX11_couldGrow 15 = .ok (.invokevirtual 194, 3) := by decide +kernel
theorem dX11_couldGrow_18 : decode cX11_couldGrow 18 = .ok (.ireturn, 1) := by decide +kernel
theorem dX11_couldGrow_19 : decode cX11_couldGrow 19 = .ok (.aload_n 0, 1) := by decide +kernel
theorem dX11_couldGrow_20 : decode cX11_couldGrow 20 = .ok (.getfield 27, 3) := by decide +kernel
theorem dX11_couldGrow_23 : decode cX11_couldGrow 23 = .ok (.iload_n 1, 1) := by decide +kernel
theorem dX11_couldGrow_24 : decode cX11_couldGrow 24 = .ok (.iaload, 1) := by decide +kernel
theorem dX11_couldGrow_25 : decode cX11_couldGrow 25 = .ok (.istore_n 2, 1) := by decide +kernel
theorem dX11_couldGrow_26 : decode cX11_couldGrow 26 = .ok (.aload_n 0, 1) := by decide +kernel
theorem dX11_couldGrow_27 : decode cX11_couldGrow 27 = .ok (.iconst 0, 1) := by decide +kernel
theorem dX11_couldGrow_28 : decode cX11_couldGrow 28 = .ok (.invokevirtual 272, 3) := by decide +kernel
theorem dX11_couldGrow_31 : decode cX11_couldGrow 31 = .ok (.istore_n 3, 1) := by decide +kernel
theorem dX11_couldGrow_32 : decode cX11_couldGrow 32 = .ok (.iconst 0, 1) := by decide +kernel
theorem dX11_couldGrow_33 : decode cX11_couldGrow 33 = .ok (.istore 4, 2) := by decide +kernel
theorem dX11_couldGrow_35 : decode cX11_couldGrow 35 = .ok (.iload_n 2, 1) := by decide +kernel
theorem dX11_couldGrow_36 : decode cX11_couldGrow 36 = .ok (.iload 4, 2) := by decide +kernel
theorem dX11_couldGrow_38 : decode cX11_couldGrow 38 = .ok (.iadd, 1) := by decide +kernel
theorem dX11_couldGrow_39 : decode cX11_couldGrow 39 = .ok (.bipush 20, 2) := by decide +kernel
theorem dX11_couldGrow_41 : decode cX11_couldGrow 41 = .ok (.if_icmp .ge 33, 3) := by decide +kernel
theorem dX11_couldGrow_44 : decode cX11_couldGrow 44 = .ok (.aload_n 0, 1) := by decide +kernel
theorem dX11_couldGrow_45 : decode cX11_couldGrow 45 = .ok (.getfield 27, 3) := by decide +kernel
theorem dX11_couldGrow_48 : decode cX11_couldGrow 48 = .ok (.iload_n 1, 1) := by decide +kernel
theorem dX11_couldGrow_49 : decode cX11_couldGrow 49 = .ok (.iload_n 2, 1) := by decide +kernel
theorem dX11_couldGrow_50 : decode cX11_couldGrow 50 = .ok (.iload 4, 2) := by decide +kernel
theorem dX11_couldGrow_52 : decode cX11_couldGrow 52 = .ok (.iadd, 1) := by decide +kernel
theorem dX11_couldGrow_53 : decode cX11_couldGrow 53 = .ok (.iconst 1, 1) := by decide +kernel
theorem dX11_couldGrow_54 : decode cX11_couldGrow 54 = .ok (.iadd, 1) := by decide +kernel
theorem dX11_couldGrow_55 : decode cX11_couldGrow 55 = .ok (.iastore, 1) := by decide +kernel
theorem dX11_couldGrow_56 : decode cX11_couldGrow 56 = .ok (.aload_n 0, 1) := by decide +kernel
theorem dX11_couldGrow_57 : decode cX11_couldGrow 57 = .ok (.iconst 0, 1) := by decide +kernel
theorem dX11_couldGrow_58 : decode cX11_couldGrow 58 = .ok (.invokevirtual 272, 3) := by decide +kernel
theorem dX11_couldGrow_61 : decode cX11_couldGrow 61 = .ok (.iload_n 3, 1) := by decide +kernel
theorem dX11_couldGrow_62 : decode cX11_couldGrow 62 = .ok (.if_icmp .eq 6, 3) := by decide +kernel
theorem dX11_couldGrow_65 : decode cX11_couldGrow 65 = .ok (.goto 9, 3) := by decide +kernel
theorem dX11_couldGrow_68 : decode cX11_couldGrow 68 = .ok (.iinc 4 1, 3) := by decide +kernel
theorem dX11_couldGrow_71 : decode cX11_couldGrow 71 = .ok (.goto (-36), 3) := by decide +kernel
theorem dX11_couldGrow_74 : decode cX11_couldGrow 74 = .ok (.aload_n 0, 1) := by decide +kernel
theorem dX11_couldGrow_75 : decode cX11_couldGrow 75 = .ok (.getfield 27, 3) := by decide +kernel
theorem dX11_couldGrow_78 : decode cX11_couldGrow 78 = .ok (.iload_n 1, 1) := by decide +kernel
theorem dX11_couldGrow_79 : decode cX11_couldGrow 79 = .ok (.iload_n 2, 1) := by decide +kernel
theorem dX11_couldGrow_80 : decode cX11_couldGrow 80 = .ok (.iastore, 1) := by decide +kernel
theorem dX11_couldGrow_81 : decode cX11_couldGrow 81 = .ok (.iload 4, 2) := by decide +kernel
theorem dX11_couldGrow_83 : decode cX11_couldGrow 83 = .ok (.ireturn, 1) := by decide +kernel
theorem dX11_add_0 : decode cX11_add 0 = .ok (.aload_n 0, 1) := by decide +kernel
theorem dX11_add_1 : decode cX11_add 1 = .ok (.aload_n 0, 1) := by decide +kernel
theorem dX11_add_2 : decode cX11_add 2 = .ok (.getfield 279, 3) := by decide +kernel
theorem dX11_add_5 : decode cX11_add 5 = .ok (.ldc2_w 283, 3) := by decide +kernel
theorem dX11_add_8 : decode cX11_add 8 = .ok (.lmul, 1) := by decide +kernel
theorem dX11_add_9 : decode cX11_add 9 = .ok (.iload_n 1, 1) := by decide +kernel
theorem dX11_add_10 : decode cX11_add 10 = .ok (.i2l, 1) := by decide +kernel
theorem dX11_add_11 : decode cX11_add 11 = .ok (.ladd, 1) := by decide +kernel
theorem dX11_add_12 : decode cX11_add 12 = .ok (.putfield 279, 3) := by decide +kernel
theorem dX11_add_15 : decode cX11_add 15 = .ok (.return_, 1) := by decide +kernel
theorem dX11_digest_0 : decode cX11_digest 0 = .ok (.aload_n 0, 1) := by decide +kernel
theorem dX11_digest_1 : decode cX11_digest 1 = .ok (.iconst 0, 1) := by decide +kernel
theorem dX11_digest_2 : decode cX11_digest 2 = .ok (.putfield 88, 3) := by decide +kernel
theorem dX11_digest_5 : decode cX11_digest 5 = .ok (.aload_n 0, 1) := by decide +kernel
theorem dX11_digest_6 : decode cX11_digest 6 = .ok (.invokevirtual 220, 3) := by decide +kernel
theorem dX11_digest_9 : decode cX11_digest 9 = .ok (.aload_n 0, 1) := by decide +kernel
theorem dX11_digest_10 : decode cX11_digest 10 = .ok (.ldc2_w 285, 3) := by decide +kernel
theorem dX11_digest_13 : decode cX11_digest 13 = .ok (.putfield 279, 3) := by decide +kernel
theorem dX11_digest_16 : decode cX11_digest 16 = .ok (.bipush 6, 2) := by decide +kernel
theorem dX11_digest_18 : decode cX11_digest 18 = .ok (.newarray .int, 2) := by decide +kernel
theorem dX11_digest_20 : decode cX11_digest 20 = .ok (.dup, 1) := by decide +kernel
theorem dX11_digest_21 : decode cX11_digest 21 = .ok (.iconst 0, 1) := by decide +kernel
theorem dX11_digest_22 : decode cX11_digest 22 = .ok (.aload_n 0, 1) := by decide +kernel
theorem dX11_digest_23 : decode cX11_digest 23 = .ok (.getfield 96, 3) := by decide +kernel
theorem dX11_digest_26 : decode cX11_digest 26 = .ok (.iastore, 1) := by decide +kernel
theorem dX11_digest_27 : decode cX11_digest 27 = .ok (.dup, 1) := by decide +kernel
theorem dX11_digest_28 : decode cX11_digest 28 = .ok (.iconst 1, 1) := by decide +kernel
theorem dX11_digest_29 : decode cX11_digest 29 = .ok (.aload_n 0, 1) := by decide +kernel
theorem dX11_digest_30 : decode cX11_digest 30 = .ok (.getfield 99, 3) := by decide +kernel
theorem dX11_digest_33 : decode cX11_digest 33 = .ok (.iastore, 1) := by decide +kernel
theorem dX11_digest_34 : decode cX11_digest 34 = .ok (.dup, 1) := by decide +kernel
theorem dX11_digest_35 : decode cX11_digest 35 = .ok (.iconst 2, 1) := by decide +kernel
theorem dX11_digest_36 : decode cX11_digest 36 = .ok (.aload_n 0, 1) := by decide +kernel
theorem dX11_digest_37 : decode cX11_digest 37 = .ok (.getfield 133, 3) := by decide +kernel
theorem dX11_digest_40 : decode cX11_digest 40 = .ok (.iastore, 1) := by decide +kernel
theorem dX11_digest_41 : decode cX11_digest 41 = .ok (.dup, 1) := by decide +kernel
theorem dX11_digest_42 : decode cX11_digest 42 = .ok (.iconst 3, 1) := by decide +kernel
theorem dX11_digest_43 : decode cX11_digest 43 = .ok (.aload_n 0, 1) := by decide +kernel
theorem dX11_digest_44 : decode cX11_digest 44 = .ok (.invokevirtual 226, 3) := by decide +kernel
theorem dX11_digest_47 : decode cX11_digest 47 = .ok (.iastore, 1) := by decide +kernel
theorem dX11_digest_48 : decode cX11_digest 48 = .ok (.dup, 1) := by decide +kernel
theorem dX11_digest_49 : decode cX11_digest 49 = .ok (.iconst 4, 1) := by decide +kernel
theorem dX11_digest_50 : decode cX11_digest 50 = .ok (.aload_n 0, 1) := by decide +kernel
theorem dX11_digest_51 : decode cX11_digest 51 = .ok (.getfield 153, 3) := by decide +kernel
theorem dX11_digest_54 : decode cX11_digest 54 = .ok (.iastore, 1) := by decide +kernel
theorem dX11_digest_55 : decode cX11_digest 55 = .ok (.dup, 1) := by decide +kernel
theorem dX11_digest_56 : decode cX11_digest 56 = .ok (.iconst 5, 1) := by decide +kernel
theorem dX11_digest_57 : decode cX11_digest 57 = .ok (.aload_n 0, 1) := by decide +kernel
theorem dX11_digest_58 : decode cX11_digest 58 = .ok (.getfield 96, 3) := by decide +kernel
theorem dX11_digest_61 : decode cX11_digest 61 = .ok (.aload_n 0, 1) := by decide +kernel
theorem dX11_digest_62 : decode cX11_digest 62 = .ok (.getfield 150, 3) := by decide +kernel
theorem dX11_digest_65 : decode cX11_digest 65 = .ok (.isub, 1) := by decide +kernel
theorem dX11_digest_66 : decode cX11_digest 66 = .ok (.iastore, 1) := by decide +kernel
theorem dX11_digest_67 : decode cX11_digest 67 = .ok (.astore_n 1, 1) := by decide +kernel
theorem dX11_digest_68 : decode cX11_digest 68 = .ok (.aload_n 1, 1) := by decide +kernel
theorem dX11_digest_69 : decode cX11_digest 69 = .ok (.astore_n 2, 1) := by decide +kernel
theorem dX11_digest_70 : decode cX11_digest 70 = .ok (.aload_n 2, 1) := by decide +kernel
theorem dX11_digest_71 : decode cX11_digest 71 = .ok (.arraylength, 1) := by decide +kernel
theorem dX11_digest_72 : decode cX11_digest 72 = .ok (.istore_n 3, 1) := by decide +kernel
theorem dX11_digest_73 : decode cX11_digest 73 = .ok (.iconst 0, 1) := by decide +kernel
theorem dX11_digest_74 : decode cX11_digest 74 = .ok (.istore 4, 2) := by decide +kernel
theorem dX11_digest_76 : decode cX11_digest 76 = .ok (.iload 4, 2) := by decide +kernel
theorem dX11_digest_78 : decode cX11_digest 78 = .ok (.iload_n 3, 1) := by decide +kernel
theorem dX11_digest_79 : decode cX11_digest 79 = .ok (.if_icmp .ge 21, 3) := by decide +kernel
theorem dX11_digest_82 : decode cX11_digest 82 = .ok (.aload_n 2, 1) := by decide +kernel
theorem dX11_digest_83 : decode cX11_digest 83 = .ok (.iload 4, 2) := by decide +kernel
theorem dX11_digest_85 : decode cX11_digest 85 = .ok (.iaload, 1) := by decide +kernel
theorem dX11_digest_86 : decode cX11_digest 86 = .ok (.istore 5, 2) := by decide +kernel
theorem dX11_digest_88 : decode cX11_digest 88 = .ok (.aload_n 0, 1) := by decide +kernel
theorem dX11_digest_89 : decode cX11_digest 89 = .ok (.iload 5, 2) := by decide +kernel
theorem dX11_digest_91 : decode cX11_digest 91 = .ok (.invokevirtual 287, 3) := by decide +kernel
theorem dX11_digest_94 : decode cX11_digest 94 = .ok (.iinc 4 1, 3) := by decide +kernel
theorem dX11_digest_97 : decode cX11_digest 97 = .ok (.goto (-21), 3) := by decide +kernel
theorem dX11_digest_100 : decode cX11_digest 100 = .ok (.iconst 0, 1) := by decide +kernel
theorem dX11_digest_101 : decode cX11_digest 101 = .ok (.istore_n 2, 1) := by decide +kernel
theorem dX11_digest_102 : decode cX11_digest 102 = .ok (.iload_n 2, 1) := by decide +kernel
theorem dX11_digest_103 : decode cX11_digest 103 = .ok (.aload_n 0, 1) := by decide +kernel
theorem dX11_digest_104 : decode cX11_digest 104 = .ok (.getfield 96, 3) := by decide +kernel
theorem dX11_digest_107 : decode cX11_digest 107 = .ok (.if_icmp .ge 154, 3) := by decide +kernel
theorem dX11_digest_110 : decode cX11_digest 110 = .ok (.bipush 10, 2) := by decide +kernel
theorem dX11_digest_112 : decode cX11_digest 112 = .ok (.newarray .int, 2) := by decide +kernel
theorem dX11_digest_114 : decode cX11_digest 114 = .ok (.dup, 1) := by decide +kernel
theorem dX11_digest_115 : decode cX11_digest 115 = .ok (.iconst 0, 1) := by decide +kernel
theorem dX11_digest_116 : decode cX11_digest 116 = .ok (.aload_n 0, 1) := by decide +kernel
theorem dX11_digest_117 : decode cX11_digest 117 = .ok (.getfield 55, 3) := by decide +kernel
theorem dX11_digest_120 : decode cX11_digest 120 = .ok (.iconst 0, 1) := by decide +kernel
theorem dX11_digest_121 : decode cX11_digest 121 = .ok (.aaload, 1) := by decide +kernel
theorem dX11_digest_122 : decode cX11_digest 122 = .ok (.iload_n 2, 1) := by decide +kernel
theorem dX11_digest_123 : decode cX11_digest 123 = .ok (.iaload, 1) := by decide +kernel
theorem dX11_digest_124 : decode cX11_digest 124 = .ok (.iastore, 1) := by decide +kernel
theorem dX11_digest_125 : decode cX11_digest 125 = .ok (.dup, 1) := by decide +kernel
theorem dX11_digest_126 : decode cX11_digest 126 = .ok (.iconst 1, 1) := by decide +kernel
theorem dX11_digest_127 : decode cX11_digest 127 = .ok (.aload_n 0, 1) := by decide +kernel
theorem dX11_digest_128 : decode cX11_digest 128 = .ok (.getfield 55, 3) := by decide +kernel
theorem dX11_digest_131 : decode cX11_digest 131 = .ok (.iconst 1, 1) := by decide +kernel
theorem dX11_digest_132 : decode cX11_digest 132 = .ok (.aaload, 1) := by decide +kernel
theorem dX11_digest_133 : decode cX11_digest 133 = .ok (.iload_n 2, 1) := by decide +kernel
theorem dX11_digest_134 : decode cX11_digest 134 = .ok (.iaload, 1) := by decide +kernel
theorem dX11_digest_135 : decode cX11_digest 135 = .ok (.iastore, 1) := by decide +kernel
theorem dX11_digest_136 : decode cX11_digest 136 = .ok (.dup, 1) := by decide +kernel
theorem dX11_digest_137 : decode cX11_digest 137 = .ok (.iconst 2, 1) := by decide +kernel
theorem dX11_digest_138 : decode cX11_digest 138 = .ok (.aload_n 0, 1) := by decide +kernel
theorem dX11_digest_139 : decode cX11_digest 139 = .ok (.getfield 58, 3) := by decide +kernel
theorem dX11_digest_142 : decode cX11_digest 142 = .ok (.iconst 0, 1) := by decide +kernel
theorem dX11_digest_143 : decode cX11_digest 143 = .ok (.aaload, 1) := by decide +kernel
theorem dX11_digest_144 : decode cX11_digest 144 = .ok (.iload_n 2, 1) := by decide +kernel
theorem dX11_digest_145 : decode cX11_digest 145 = .ok (.iaload, 1) := by decide +kernel
theorem dX11_digest_146 : decode cX11_digest 146 = .ok (.iastore, 1) := by decide +kernel
theorem dX11_digest_147 : decode cX11_digest 147 = .ok (.dup, 1) := by decide +kernel
theorem dX11_digest_148 : decode cX11_digest 148 = .ok (.iconst 3, 1) := by decide +kernel
theorem dX11_digest_149 : decode cX11_digest 149 = .ok (.aload_n 0, 1) := by decide +kernel
theorem dX11_digest_150 : decode cX11_digest 150 = .ok (.getfield 58, 3) := by decide +kernel
theorem dX11_digest_153 : decode cX11_digest 153 = .ok (.iconst 1, 1) := by decide +kernel
theorem dX11_digest_154 : decode cX11_digest 154 = .ok (.aaload, 1) := by decide +kernel
theorem dX11_digest_155 : decode cX11_digest 155 = .ok (.iload_n 2, 1) := by decide +kernel
theorem dX11_digest_156 : decode cX11_digest 156 = .ok (.iaload, 1) := by decide +kernel
theorem dX11_digest_157 : decode cX11_digest 157 = .ok (.iastore, 1) := by decide +kernel
theorem dX11_digest_158 : decode cX11_digest 158 = .ok (.dup, 1) := by decide +kernel
theorem dX11_digest_159 : decode cX11_digest 159 = .ok (.iconst 4, 1) := by decide +kernel
theorem dX11_digest_160 : decode cX11_digest 160 = .ok (.aload_n 0, 1) := by decide +kernel
theorem dX11_digest_161 : decode cX11_digest 161 = .ok (.getfield 61, 3) := by decide +kernel
theorem dX11_digest_164 : decode cX11_digest 164 = .ok (.iload_n 2, 1) := by decide +kernel
theorem dX11_digest_165 : decode cX11_digest 165 = .ok (.iaload, 1) := by decide +kernel
theorem dX11_digest_166 : decode cX11_digest 166 = .ok (.iastore, 1) := by decide +kernel
theorem dX11_digest_167 : decode cX11_digest 167 = .ok (.dup, 1) := by decide +kernel
theorem dX11_digest_168 : decode cX11_digest 168 = .ok (.iconst 5, 1) := by decide +kernel
theorem dX11_digest_169 : decode cX11_digest 169 = .ok (.aload_n 0, 1) := by decide +kernel
theorem dX11_digest_170 : decode cX11_digest 170 = .ok (.getfield 64, 3) := by decide +kernel
theorem dX11_digest_173 : decode cX11_digest 173 = .ok (.iconst 0, 1) := by decide +kernel
theorem dX11_digest_174 : decode cX11_digest 174 = .ok (.aaload, 1) := by decide +kernel
theorem dX11_digest_175 : decode cX11_digest 175 = .ok (.iload_n 2, 1) := by decide +kernel
theorem dX11_digest_176 : decode cX11_digest 176 = .ok (.iaload, 1) := by decide +kernel
theorem dX11_digest_177 : decode cX11_digest 177 = .ok (.iastore, 1) := by decide +kernel
theorem dX11_digest_178 : decode cX11_digest 178 = .ok (.dup, 1) := by decide +kernel
theorem dX11_digest_179 : decode cX11_digest 179 = .ok (.bipush 6, 2) := by decide +kernel
theorem dX11_digest_181 : decode cX11_digest 181 = .ok (.aload_n 0, 1) := by decide +kernel
theorem dX11_digest_182 : decode cX11_digest 182 = .ok (.getfield 64, 3) := by decide +kernel
theorem dX11_digest_185 : decode cX11_digest 185 = .ok (.iconst 1, 1) := by decide +kernel
theorem dX11_digest_186 : decode cX11_digest 186 = .ok (.aaload, 1) := by decide +kernel
theorem dX11_digest_187 : decode cX11_digest 187 = .ok (.iload_n 2, 1) := by decide +kernel
theorem dX11_digest_188 : decode cX11_digest 188 = .ok (.iaload, 1) := by decide +kernel
theorem dX11_digest_189 : decode cX11_digest 189 = .ok (.iastore, 1) := by decide +kernel
theorem dX11_digest_190 : decode cX11_digest 190 = .ok (.dup, 1) := by decide +kernel
theorem dX11_digest_191 : decode cX11_digest 191 = .ok (.bipush 7, 2) := by decide +kernel
theorem dX11_digest_193 : decode cX11_digest 193 = .ok (.aload_n 0, 1) := by decide +kernel
theorem dX11_digest_194 : decode cX11_digest 194 = .ok (.iload_n 2, 1) := by decide +kernel
theorem dX11_digest_195 : decode cX11_digest 195 = .ok (.invokevirtual 239, 3) := by decide +kernel
theorem dX11_digest_198 : decode cX11_digest 198 = .ok (.iastore, 1) := by decide +kernel
theorem dX11_digest_199 : decode cX11_digest 199 = .ok (.dup, 1) := by decide +kernel
theorem dX11_digest_200 : decode cX11_digest 200 = .ok (.bipush 8, 2) := by decide +kernel
theorem dX11_digest_202 : decode cX11_digest 202 = .ok (.aload_n 0, 1) := by decide +kernel
theorem dX11_digest_203 : decode cX11_digest 203 = .ok (.iload_n 2, 1) := by decide +kernel
theorem dX11_digest_204 : decode cX11_digest 204 = .ok (.invokevirtual 242, 3) := by decide +kernel
theorem dX11_digest_207 : decode cX11_digest 207 = .ok (.iastore, 1) := by decide +kernel
theorem dX11_digest_208 : decode cX11_digest 208 = .ok (.dup, 1) := by decide +kernel
theorem dX11_digest_209 : decode cX11_digest 209 = .ok (.bipush 9, 2) := by decide +kernel
theorem dX11_digest_211 : decode cX11_digest 211 = .ok (.aload_n 0, 1) := by decide +kernel
theorem dX11_digest_212 : decode cX11_digest 212 = .ok (.iload_n 2, 1) := by decide +kernel
theorem dX11_digest_213 : decode cX11_digest 213 = .ok (.invokevirtual 257, 3) := by decide +kernel
theorem dX11_digest_216 : decode cX11_digest 216 = .ok (.iastore, 1) := by decide +kernel
theorem dX11_digest_217 : decode cX11_digest 217 = .ok (.astore_n 3, 1) := by decide +kernel
theorem dX11_digest_218 : decode cX11_digest 218 = .ok (.aload_n 3, 1) := by decide +kernel
theorem dX11_digest_219 : decode cX11_digest 219 = .ok (.astore 4, 2) := by decide +kernel
theorem dX11_digest_221 : decode cX11_digest 221 = .ok (.aload 4, 2) := by decide +kernel
theorem dX11_digest_223 : decode cX11_digest 223 = .ok (.arraylength, 1) := by decide +kernel
theorem dX11_digest_224 : decode cX11_digest 224 = .ok (.istore 5, 2) := by decide +kernel
theorem dX11_digest_226 : decode cX11_digest 226 = .ok (.iconst 0, 1) := by decide +kernel
theorem dX11_digest_227 : decode cX11_digest 227 = .ok (.istore 6, 2) := by decide +kernel
theorem dX11_digest_229 : decode cX11_digest 229 = .ok (.iload 6, 2) := by decide +kernel
theorem dX11_digest_231 : decode cX11_digest 231 = .ok (.iload 5, 2) := by decide +kernel
theorem dX11_digest_233 : decode cX11_digest 233 = .ok (.if_icmp .ge 22, 3) := by decide +kernel
theorem dX11_digest_236 : decode cX11_digest 236 = .ok (.aload 4, 2) := by decide +kernel
theorem dX11_digest_238 : decode cX11_digest 238 = .ok (.iload 6, 2) := by decide +kernel
theorem dX11_digest_240 : decode cX11_digest 240 = .ok (.iaload, 1) := by decide +kernel
theorem dX11_digest_241 : decode cX11_digest 241 = .ok (.istore 7, 2) := by decide +kernel
theorem dX11_digest_243 : decode cX11_digest 243 = .ok (.aload_n 0, 1) := by decide +kernel
theorem dX11_digest_244 : decode cX11_digest 244 = .ok (.iload 7, 2) := by decide +kernel
theorem dX11_digest_246 : decode cX11_digest 246 = .ok (.invokevirtual 287, 3) := by decide +kernel
theorem dX11_digest_249 : decode cX11_digest 249 = .ok (.iinc 6 1, 3) := by decide +kernel
theorem dX11_digest_252 : decode cX11_digest 252 = .ok (.goto (-23), 3) := by decide +kernel
theorem dX11_digest_255 : decode cX11_digest 255 = .ok (.iinc 2 1, 3) := by decide +kernel
theorem dX11_digest_258 : decode cX11_digest 258 = .ok (.goto (-156), 3) := by decide +kernel
theorem dX11_digest_261 : decode cX11_digest 261 = .ok (.iconst 0, 1) := by decide +kernel
theorem dX11_digest_262 : decode cX11_digest 262 = .ok (.istore_n 2, 1) := by decide +kernel
theorem dX11_digest_263 : decode cX11_digest 263 = .ok (.iload_n 2, 1) := by decide +kernel
theorem dX11_digest_264 : decode cX11_digest 264 = .ok (.iconst 4, 1) := by decide +kernel
theorem dX11_digest_265 : decode cX11_digest 265 = .ok (.if_icmp .ge 36, 3) := by decide +kernel
theorem dX11_digest_268 : decode cX11_digest 268 = .ok (.aload_n 0, 1) := by decide +kernel
theorem dX11_digest_269 : decode cX11_digest 269 = .ok (.aload_n 0, 1) := by decide +kernel
theorem dX11_digest_270 : decode cX11_digest 270 = .ok (.iload_n 2, 1) := by decide +kernel
theorem dX11_digest_271 : decode cX11_digest 271 = .ok (.invokevirtual 233, 3) := by decide +kernel
theorem dX11_digest_274 : decode cX11_digest 274 = .ok (.invokevirtual 287, 3) := by decide +kernel
theorem dX11_digest_277 : decode cX11_digest 277 = .ok (.aload_n 0, 1) := by decide +kernel
theorem dX11_digest_278 : decode cX11_digest 278 = .ok (.aload_n 0, 1) := by decide +kernel
theorem dX11_digest_279 : decode cX11_digest 279 = .ok (.iload_n 2, 1) := by decide +kernel
theorem dX11_digest_280 : decode cX11_digest 280 = .ok (.invokevirtual 236, 3) := by decide +kernel
theorem dX11_digest_283 : decode cX11_digest 283 = .ok (.invokevirtual 287, 3) := by decide +kernel
theorem dX11_digest_286 : decode cX11_digest 286 = .ok (.aload_n 0, 1) := by decide +kernel
theorem dX11_digest_287 : decode cX11_digest 287 = .ok (.aload_n 0, 1) := by decide +kernel
theorem dX11_digest_288 : decode cX11_digest 288 = .ok (.iload_n 2, 1) := by decide +kernel
theorem dX11_digest_289 : decode cX11_digest 289 = .ok (.invokevirtual 245, 3) := by decide +kernel
theorem dX11_digest_292 : decode cX11_digest 292 = .ok (.invokevirtual 287, 3) := by decide +kernel
theorem dX11_digest_295 : decode cX11_digest 295 = .ok (.iinc 2 1, 3) := by decide +kernel
theorem dX11_digest_298 : decode cX11_digest 298 = .ok (.goto (-35), 3) := by decide +kernel
theorem dX11_digest_301 : decode cX11_digest 301 = .ok (.iconst 0, 1) := by decide +kernel
theorem dX11_digest_302 : decode cX11_digest 302 = .ok (.istore_n 2, 1) := by decide +kernel
theorem dX11_digest_303 : decode cX11_digest 303 = .ok (.iload_n 2, 1) := by decide +kernel
theorem dX11_digest_304 : decode cX11_digest 304 = .ok (.aload_n 0, 1) := by decide +kernel
theorem dX11_digest_305 : decode cX11_digest 305 = .ok (.getfield 150, 3) := by decide +kernel
theorem dX11_digest_308 : decode cX11_digest 308 = .ok (.if_icmp .ge 19, 3) := by decide +kernel
theorem dX11_digest_311 : decode cX11_digest 311 = .ok (.aload_n 0, 1) := by decide +kernel
theorem dX11_digest_312 : decode cX11_digest 312 = .ok (.aload_n 0, 1) := by decide +kernel
theorem dX11_digest_313 : decode cX11_digest 313 = .ok (.getfield 67, 3) := by decide +kernel
theorem dX11_digest_316 : decode cX11_digest 316 = .ok (.iload_n 2, 1) := by decide +kernel
theorem dX11_digest_317 : decode cX11_digest 317 = .ok (.iaload, 1) := by decide +kernel
theorem dX11_digest_318 : decode cX11_digest 318 = .ok (.invokevirtual 287, 3) := by decide +kernel
theorem dX11_digest_321 : decode cX11_digest 321 = .ok (.iinc 2 1, 3) := by decide +kernel
theorem dX11_digest_324 : decode cX11_digest 324 = .ok (.goto (-21), 3) := by decide +kernel
theorem dX11_digest_327 : decode cX11_digest 327 = .ok (.aload_n 0, 1) := by decide +kernel
theorem dX11_digest_328 : decode cX11_digest 328 = .ok (.aload_n 0, 1) := by decide +kernel
theorem dX11_digest_329 : decode cX11_digest 329 = .ok (.invokevirtual 266, 3) := by decide +kernel
theorem dX11_digest_332 : decode cX11_digest 332 = .ok (.invokevirtual 287, 3) := by decide +kernel
theorem dX11_digest_335 : decode cX11_digest 335 = .ok (.aload_n 0, 1) := by decide +kernel
theorem dX11_digest_336 : decode cX11_digest 336 = .ok (.aload_n 0, 1) := by decide +kernel
theorem dX11_digest_337 : decode cX11_digest 337 = .ok (.invokevirtual 269, 3) := by decide +kernel
theorem dX11_digest_340 : decode cX11_digest 340 = .ok (.invokevirtual 287, 3) := by decide +kernel
theorem dX11_digest_343 : decode cX11_digest 343 = .ok (.aload_n 0, 1) := by decide +kernel
theorem dX11_digest_344 : decode cX11_digest 344 = .ok (.aload_n 0, 1) := by decide +kernel
theorem dX11_digest_345 : decode cX11_digest 345 = .ok (.aload_n 0, 1) := by decide +kernel
theorem dX11_digest_346 : decode cX11_digest 346 = .ok (.getfield 153, 3) := by decide +kernel
theorem dX11_digest_349 : decode cX11_digest 349 = .ok (.invokevirtual 263, 3) := by decide +kernel
theorem dX11_digest_352 : decode cX11_digest 352 = .ok (.invokevirtual 287, 3) := by decide +kernel
theorem dX11_digest_355 : decode cX11_digest 355 = .ok (.aload_n 0, 1) := by decide +kernel
theorem dX11_digest_356 : decode cX11_digest 356 = .ok (.getfield 279, 3) := by decide +kernel
theorem dX11_digest_359 : decode cX11_digest 359 = .ok (.lreturn, 1) := by decide +kernel
