theorem dL_below_0 : decode cL_below 0 = .ok (.iload_n 0, 1) := by decide +kernel
theorem dL_below_1 : decode cL_below 1 = .ok (.ldc 7, 2) := by decide +kernel
theorem dL_below_3 : decode cL_below 3 = .ok (.iand, 1) := by decide +kernel
theorem dL_below_4 : decode cL_below 4 = .ok (.iload_n 1, 1) := by decide +kernel
theorem dL_below_5 : decode cL_below 5 = .ok (.irem, 1) := by decide +kernel
theorem dL_below_6 : decode cL_below 6 = .ok (.ireturn, 1) := by decide +kernel
theorem dL_cell_0 : decode cL_cell 0 = .ok (.iload_n 1, 1) := by decide +kernel
theorem dL_cell_1 : decode cL_cell 1 = .ok (.aload_n 0, 1) := by decide +kernel
theorem dL_cell_2 : decode cL_cell 2 = .ok (.arraylength, 1) := by decide +kernel
theorem dL_cell_3 : decode cL_cell 3 = .ok (.if_icmp .ge 9, 3) := by decide +kernel
theorem dL_cell_6 : decode cL_cell 6 = .ok (.aload_n 0, 1) := by decide +kernel
theorem dL_cell_7 : decode cL_cell 7 = .ok (.iload_n 1, 1) := by decide +kernel
theorem dL_cell_8 : decode cL_cell 8 = .ok (.iaload, 1) := by decide +kernel
theorem dL_cell_9 : decode cL_cell 9 = .ok (.goto 9, 3) := by decide +kernel
theorem dL_cell_12 : decode cL_cell 12 = .ok (.ldc 8, 2) := by decide +kernel
theorem dL_cell_14 : decode cL_cell 14 = .ok (.iload_n 1, 1) := by decide +kernel
theorem dL_cell_15 : decode cL_cell 15 = .ok (.iconst 3, 1) := by decide +kernel
theorem dL_cell_16 : decode cL_cell 16 = .ok (.iadd, 1) := by decide +kernel
theorem dL_cell_17 : decode cL_cell 17 = .ok (.imul, 1) := by decide +kernel
theorem dL_cell_18 : decode cL_cell 18 = .ok (.ireturn, 1) := by decide +kernel
theorem dL_law_0 : decode cL_law 0 = .ok (.new 9, 3) := by decide +kernel
theorem dL_law_3 : decode cL_law 3 = .ok (.dup, 1) := by decide +kernel
theorem dL_law_4 : decode cL_law 4 = .ok (.invokespecial 11, 3) := by decide +kernel
theorem dL_law_7 : decode cL_law 7 = .ok (.astore_n 1, 1) := by decide +kernel
theorem dL_law_8 : decode cL_law 8 = .ok (.bipush 40, 2) := by decide +kernel
theorem dL_law_10 : decode cL_law 10 = .ok (.iconst 4, 1) := by decide +kernel
theorem dL_law_11 : decode cL_law 11 = .ok (.multianewarray 12 2, 4) := by decide +kernel
theorem dL_law_15 : decode cL_law 15 = .ok (.astore_n 2, 1) := by decide +kernel
theorem dL_law_16 : decode cL_law 16 = .ok (.iconst 3, 1) := by decide +kernel
theorem dL_law_17 : decode cL_law 17 = .ok (.newarray .int, 2) := by decide +kernel
theorem dL_law_19 : decode cL_law 19 = .ok (.dup, 1) := by decide +kernel
theorem dL_law_20 : decode cL_law 20 = .ok (.iconst 0, 1) := by decide +kernel
theorem dL_law_21 : decode cL_law 21 = .ok (.bipush 9, 2) := by decide +kernel
theorem dL_law_23 : decode cL_law 23 = .ok (.iastore, 1) := by decide +kernel
theorem dL_law_24 : decode cL_law 24 = .ok (.dup, 1) := by decide +kernel
theorem dL_law_25 : decode cL_law 25 = .ok (.iconst 1, 1) := by decide +kernel
theorem dL_law_26 : decode cL_law 26 = .ok (.bipush 9, 2) := by decide +kernel
theorem dL_law_28 : decode cL_law 28 = .ok (.iastore, 1) := by decide +kernel
theorem dL_law_29 : decode cL_law 29 = .ok (.dup, 1) := by decide +kernel
theorem dL_law_30 : decode cL_law 30 = .ok (.iconst 2, 1) := by decide +kernel
theorem dL_law_31 : decode cL_law 31 = .ok (.bipush 9, 2) := by decide +kernel
theorem dL_law_33 : decode cL_law 33 = .ok (.iastore, 1) := by decide +kernel
theorem dL_law_34 : decode cL_law 34 = .ok (.astore_n 3, 1) := by decide +kernel
theorem dL_law_35 : decode cL_law 35 = .ok (.bipush 24, 2) := by decide +kernel
theorem dL_law_37 : decode cL_law 37 = .ok (.newarray .int, 2) := by decide +kernel
theorem dL_law_39 : decode cL_law 39 = .ok (.astore 4, 2) := by decide +kernel
theorem dL_law_41 : decode cL_law 41 = .ok (.iconst 0, 1) := by decide +kernel
theorem dL_law_42 : decode cL_law 42 = .ok (.istore 5, 2) := by decide +kernel
theorem dL_law_44 : decode cL_law 44 = .ok (.iload 5, 2) := by decide +kernel
theorem dL_law_46 : decode cL_law 46 = .ok (.bipush 42, 2) := by decide +kernel
theorem dL_law_48 : decode cL_law 48 = .ok (.if_icmp .ge 96, 3) := by decide +kernel
theorem dL_law_51 : decode cL_law 51 = .ok (.aload_n 1, 1) := by decide +kernel
theorem dL_law_52 : decode cL_law 52 = .ok (.aload_n 0, 1) := by decide +kernel
theorem dL_law_53 : decode cL_law 53 = .ok (.iload 5, 2) := by decide +kernel
theorem dL_law_55 : decode cL_law 55 = .ok (.bipush 36, 2) := by decide +kernel
theorem dL_law_57 : decode cL_law 57 = .ok (.irem, 1) := by decide +kernel
theorem dL_law_58 : decode cL_law 58 = .ok (.invokestatic 14, 3) := by decide +kernel
theorem dL_law_61 : decode cL_law 61 = .ok (.iload 5, 2) := by decide +kernel
theorem dL_law_63 : decode cL_law 63 = .ok (.bipush 36, 2) := by decide +kernel
theorem dL_law_65 : decode cL_law 65 = .ok (.idiv, 1) := by decide +kernel
theorem dL_law_66 : decode cL_law 66 = .ok (.bipush 11, 2) := by decide +kernel
theorem dL_law_68 : decode cL_law 68 = .ok (.imul, 1) := by decide +kernel
theorem dL_law_69 : decode cL_law 69 = .ok (.ishr, 1) := by decide +kernel
theorem dL_law_70 : decode cL_law 70 = .ok (.aload_n 2, 1) := by decide +kernel
theorem dL_law_71 : decode cL_law 71 = .ok (.aload_n 3, 1) := by decide +kernel
theorem dL_law_72 : decode cL_law 72 = .ok (.aload 4, 2) := by decide +kernel
theorem dL_law_74 : decode cL_law 74 = .ok (.invokestatic 20, 3) := by decide +kernel
theorem dL_law_77 : decode cL_law 77 = .ok (.ifCond .ne 5, 3) := by decide +kernel
theorem dL_law_80 : decode cL_law 80 = .ok (.iconst 0, 1) := by decide +kernel
theorem dL_law_81 : decode cL_law 81 = .ok (.ireturn, 1) := by decide +kernel
theorem dL_law_82 : decode cL_law 82 = .ok (.iload 5, 2) := by decide +kernel
theorem dL_law_84 : decode cL_law 84 = .ok (.bipush 7, 2) := by decide +kernel
theorem dL_law_86 : decode cL_law 86 = .ok (.irem, 1) := by decide +kernel
theorem dL_law_87 : decode cL_law 87 = .ok (.bipush 6, 2) := by decide +kernel
theorem dL_law_89 : decode cL_law 89 = .ok (.if_icmp .eq 6, 3) := by decide +kernel
theorem dL_law_92 : decode cL_law 92 = .ok (.goto 46, 3) := by decide +kernel
theorem dL_law_95 : decode cL_law 95 = .ok (.aload_n 1, 1) := by decide +kernel
theorem dL_law_96 : decode cL_law 96 = .ok (.invokevirtual 24, 3) := by decide +kernel
theorem dL_law_99 : decode cL_law 99 = .ok (.lstore 6, 2) := by decide +kernel
theorem dL_law_101 : decode cL_law 101 = .ok (.aload_n 1, 1) := by decide +kernel
theorem dL_law_102 : decode cL_law 102 = .ok (.aload 4, 2) := by decide +kernel
theorem dL_law_104 : decode cL_law 104 = .ok (.invokestatic 28, 3) := by decide +kernel
theorem dL_law_107 : decode cL_law 107 = .ok (.ifCond .eq 29, 3) := by decide +kernel
theorem dL_law_110 : decode cL_law 110 = .ok (.aload_n 1, 1) := by decide +kernel
theorem dL_law_111 : decode cL_law 111 = .ok (.aload_n 2, 1) := by decide +kernel
theorem dL_law_112 : decode cL_law 112 = .ok (.invokestatic 32, 3) := by decide +kernel
theorem dL_law_115 : decode cL_law 115 = .ok (.ifCond .eq 21, 3) := by decide +kernel
theorem dL_law_118 : decode cL_law 118 = .ok (.aload_n 1, 1) := by decide +kernel
theorem dL_law_119 : decode cL_law 119 = .ok (.aload_n 3, 1) := by decide +kernel
theorem dL_law_120 : decode cL_law 120 = .ok (.invokestatic 36, 3) := by decide +kernel
theorem dL_law_123 : decode cL_law 123 = .ok (.ifCond .eq 13, 3) := by decide +kernel
theorem dL_law_126 : decode cL_law 126 = .ok (.aload_n 1, 1) := by decide +kernel
theorem dL_law_127 : decode cL_law 127 = .ok (.invokevirtual 24, 3) := by decide +kernel
theorem dL_law_130 : decode cL_law 130 = .ok (.lload 6, 2) := by decide +kernel
theorem dL_law_132 : decode cL_law 132 = .ok (.lcmp, 1) := by decide +kernel
theorem dL_law_133 : decode cL_law 133 = .ok (.ifCond .eq 5, 3) := by decide +kernel
theorem dL_law_136 : decode cL_law 136 = .ok (.iconst 0, 1) := by decide +kernel
theorem dL_law_137 : decode cL_law 137 = .ok (.ireturn, 1) := by decide +kernel
theorem dL_law_138 : decode cL_law 138 = .ok (.iinc 5 1, 3) := by decide +kernel
theorem dL_law_141 : decode cL_law 141 = .ok (.goto (-97), 3) := by decide +kernel
theorem dL_law_144 : decode cL_law 144 = .ok (.iconst 1, 1) := by decide +kernel
theorem dL_law_145 : decode cL_law 145 = .ok (.ireturn, 1) := by decide +kernel
theorem dL_act_0 : decode cL_act 0 = .ok (.aload_n 0, 1) := by decide +kernel
theorem dL_act_1 : decode cL_act 1 = .ok (.invokevirtual 39, 3) := by decide +kernel
theorem dL_act_4 : decode cL_act 4 = .ok (.istore 5, 2) := by decide +kernel
theorem dL_act_6 : decode cL_act 6 = .ok (.iload_n 1, 1) := by decide +kernel
theorem dL_act_7 : decode cL_act 7 = .ok (.iconst 4, 1) := by decide +kernel
theorem dL_act_8 : decode cL_act 8 = .ok (.ishr, 1) := by decide +kernel
theorem dL_act_9 : decode cL_act 9 = .ok (.iconst 1, 1) := by decide +kernel
theorem dL_act_10 : decode cL_act 10 = .ok (.iload 5, 2) := by decide +kernel
theorem dL_act_12 : decode cL_act 12 = .ok (.invokestatic 43, 3) := by decide +kernel
theorem dL_act_15 : decode cL_act 15 = .ok (.invokestatic 49, 3) := by decide +kernel
theorem dL_act_18 : decode cL_act 18 = .ok (.istore 6, 2) := by decide +kernel
theorem dL_act_20 : decode cL_act 20 = .ok (.iload_n 1, 1) := by decide +kernel
theorem dL_act_21 : decode cL_act 21 = .ok (.bipush 13, 2) := by decide +kernel
theorem dL_act_23 : decode cL_act 23 = .ok (.invokestatic 49, 3) := by decide +kernel
theorem dL_act_26 : decode cL_act 26 = .ok (.tableswitch 540 0 11 #[62, 62, 62, 102, 102, 102, 201, 256, 319, 372, 431, 502], 62) := by decide +kernel
theorem dL_act_88 : decode cL_act 88 = .ok (.iload 5, 2) := by decide +kernel
theorem dL_act_90 : decode cL_act 90 = .ok (.bipush 8, 2) := by decide +kernel
theorem dL_act_92 : decode cL_act 92 = .ok (.if_icmp .le 6, 3) := by decide +kernel
theorem dL_act_95 : decode cL_act 95 = .ok (.goto 524, 3) := by decide +kernel
theorem dL_act_98 : decode cL_act 98 = .ok (.aload_n 0, 1) := by decide +kernel
theorem dL_act_99 : decode cL_act 99 = .ok (.iload_n 1, 1) := by decide +kernel
theorem dL_act_100 : decode cL_act 100 = .ok (.iconst 4, 1) := by decide +kernel
theorem dL_act_101 : decode cL_act 101 = .ok (.ishr, 1) := by decide +kernel
theorem dL_act_102 : decode cL_act 102 = .ok (.iconst 5, 1) := by decide +kernel
theorem dL_act_103 : decode cL_act 103 = .ok (.invokestatic 49, 3) := by decide +kernel
theorem dL_act_106 : decode cL_act 106 = .ok (.iload_n 1, 1) := by decide +kernel
theorem dL_act_107 : decode cL_act 107 = .ok (.bipush 7, 2) := by decide +kernel
theorem dL_act_109 : decode cL_act 109 = .ok (.ishr, 1) := by decide +kernel
theorem dL_act_110 : decode cL_act 110 = .ok (.iconst 2, 1) := by decide +kernel
theorem dL_act_111 : decode cL_act 111 = .ok (.invokestatic 49, 3) := by decide +kernel
theorem dL_act_114 : decode cL_act 114 = .ok (.invokevirtual 52, 3) := by decide +kernel
theorem dL_act_117 : decode cL_act 117 = .ok (.iload 5, 2) := by decide +kernel
theorem dL_act_119 : decode cL_act 119 = .ok (.if_icmp .ne 7, 3) := by decide +kernel
theorem dL_act_122 : decode cL_act 122 = .ok (.iconst 1, 1) := by decide +kernel
theorem dL_act_123 : decode cL_act 123 = .ok (.goto 4, 3) := by decide +kernel
theorem dL_act_126 : decode cL_act 126 = .ok (.iconst 0, 1) := by decide +kernel
theorem dL_act_127 : decode cL_act 127 = .ok (.ireturn, 1) := by decide +kernel
theorem dL_act_128 : decode cL_act 128 = .ok (.iload_n 1, 1) := by decide +kernel
theorem dL_act_129 : decode cL_act 129 = .ok (.bipush 7, 2) := by decide +kernel
theorem dL_act_131 : decode cL_act 131 = .ok (.ishr, 1) := by decide +kernel
theorem dL_act_132 : decode cL_act 132 = .ok (.iconst 1, 1) := by decide +kernel
theorem dL_act_133 : decode cL_act 133 = .ok (.iload 5, 2) := by decide +kernel
theorem dL_act_135 : decode cL_act 135 = .ok (.invokestatic 43, 3) := by decide +kernel
theorem dL_act_138 : decode cL_act 138 = .ok (.invokestatic 49, 3) := by decide +kernel
theorem dL_act_141 : decode cL_act 141 = .ok (.istore 7, 2) := by decide +kernel
theorem dL_act_143 : decode cL_act 143 = .ok (.aload_n 0, 1) := by decide +kernel
theorem dL_act_144 : decode cL_act 144 = .ok (.iload 6, 2) := by decide +kernel
theorem dL_act_146 : decode cL_act 146 = .ok (.iload 7, 2) := by decide +kernel
theorem dL_act_148 : decode cL_act 148 = .ok (.iload_n 1, 1) := by decide +kernel
theorem dL_act_149 : decode cL_act 149 = .ok (.iconst 3, 1) := by decide +kernel
theorem dL_act_150 : decode cL_act 150 = .ok (.ishr, 1) := by decide +kernel
theorem dL_act_151 : decode cL_act 151 = .ok (.iconst 3, 1) := by decide +kernel
theorem dL_act_152 : decode cL_act 152 = .ok (.invokestatic 49, 3) := by decide +kernel
theorem dL_act_155 : decode cL_act 155 = .ok (.iload_n 1, 1) := by decide +kernel
theorem dL_act_156 : decode cL_act 156 = .ok (.bipush 9, 2) := by decide +kernel
theorem dL_act_158 : decode cL_act 158 = .ok (.ishr, 1) := by decide +kernel
theorem dL_act_159 : decode cL_act 159 = .ok (.iconst 4, 1) := by decide +kernel
theorem dL_act_160 : decode cL_act 160 = .ok (.invokestatic 49, 3) := by decide +kernel
theorem dL_act_163 : decode cL_act 163 = .ok (.invokevirtual 55, 3) := by decide +kernel
theorem dL_act_166 : decode cL_act 166 = .ok (.istore 8, 2) := by decide +kernel
theorem dL_act_168 : decode cL_act 168 = .ok (.iconst 4, 1) := by decide +kernel
theorem dL_act_169 : decode cL_act 169 = .ok (.newarray .int, 2) := by decide +kernel
theorem dL_act_171 : decode cL_act 171 = .ok (.dup, 1) := by decide +kernel
theorem dL_act_172 : decode cL_act 172 = .ok (.iconst 0, 1) := by decide +kernel
theorem dL_act_173 : decode cL_act 173 = .ok (.iload 6, 2) := by decide +kernel
theorem dL_act_175 : decode cL_act 175 = .ok (.iastore, 1) := by decide +kernel
theorem dL_act_176 : decode cL_act 176 = .ok (.dup, 1) := by decide +kernel
theorem dL_act_177 : decode cL_act 177 = .ok (.iconst 1, 1) := by decide +kernel
theorem dL_act_178 : decode cL_act 178 = .ok (.iload 7, 2) := by decide +kernel
theorem dL_act_180 : decode cL_act 180 = .ok (.iastore, 1) := by decide +kernel
theorem dL_act_181 : decode cL_act 181 = .ok (.dup, 1) := by decide +kernel
theorem dL_act_182 : decode cL_act 182 = .ok (.iconst 2, 1) := by decide +kernel
theorem dL_act_183 : decode cL_act 183 = .ok (.iload_n 1, 1) := by decide +kernel
theorem dL_act_184 : decode cL_act 184 = .ok (.iconst 3, 1) := by decide +kernel
theorem dL_act_185 : decode cL_act 185 = .ok (.ishr, 1) := by decide +kernel
theorem dL_act_186 : decode cL_act 186 = .ok (.iconst 3, 1) := by decide +kernel
theorem dL_act_187 : decode cL_act 187 = .ok (.invokestatic 49, 3) := by decide +kernel
theorem dL_act_190 : decode cL_act 190 = .ok (.iastore, 1) := by decide +kernel
theorem dL_act_191 : decode cL_act 191 = .ok (.dup, 1) := by decide +kernel
theorem dL_act_192 : decode cL_act 192 = .ok (.iconst 3, 1) := by decide +kernel
theorem dL_act_193 : decode cL_act 193 = .ok (.iload_n 1, 1) := by decide +kernel
theorem dL_act_194 : decode cL_act 194 = .ok (.bipush 9, 2) := by decide +kernel
theorem dL_act_196 : decode cL_act 196 = .ok (.ishr, 1) := by decide +kernel
theorem dL_act_197 : decode cL_act 197 = .ok (.iconst 4, 1) := by decide +kernel
theorem dL_act_198 : decode cL_act 198 = .ok (.invokestatic 49, 3) := by decide +kernel
theorem dL_act_201 : decode cL_act 201 = .ok (.iastore, 1) := by decide +kernel
theorem dL_act_202 : decode cL_act 202 = .ok (.astore 9, 2) := by decide +kernel
theorem dL_act_204 : decode cL_act 204 = .ok (.aload_n 2, 1) := by decide +kernel
theorem dL_act_205 : decode cL_act 205 = .ok (.iload 8, 2) := by decide +kernel
theorem dL_act_207 : decode cL_act 207 = .ok (.aload 9, 2) := by decide +kernel
theorem dL_act_209 : decode cL_act 209 = .ok (.aastore, 1) := by decide +kernel
theorem dL_act_210 : decode cL_act 210 = .ok (.iload 8, 2) := by decide +kernel
theorem dL_act_212 : decode cL_act 212 = .ok (.aload_n 0, 1) := by decide +kernel
theorem dL_act_213 : decode cL_act 213 = .ok (.invokevirtual 59, 3) := by decide +kernel
theorem dL_act_216 : decode cL_act 216 = .ok (.iconst 1, 1) := by decide +kernel
theorem dL_act_217 : decode cL_act 217 = .ok (.isub, 1) := by decide +kernel
theorem dL_act_218 : decode cL_act 218 = .ok (.if_icmp .ne 7, 3) := by decide +kernel
theorem dL_act_221 : decode cL_act 221 = .ok (.iconst 1, 1) := by decide +kernel
theorem dL_act_222 : decode cL_act 222 = .ok (.goto 4, 3) := by decide +kernel
theorem dL_act_225 : decode cL_act 225 = .ok (.iconst 0, 1) := by decide +kernel
theorem dL_act_226 : decode cL_act 226 = .ok (.ireturn, 1) := by decide +kernel
theorem dL_act_227 : decode cL_act 227 = .ok (.iload_n 1, 1) := by decide +kernel
theorem dL_act_228 : decode cL_act 228 = .ok (.iconst 4, 1) := by decide +kernel
theorem dL_act_229 : decode cL_act 229 = .ok (.ishr, 1) := by decide +kernel
theorem dL_act_230 : decode cL_act 230 = .ok (.iconst 1, 1) := by decide +kernel
theorem dL_act_231 : decode cL_act 231 = .ok (.aload_n 0, 1) := by decide +kernel
theorem dL_act_232 : decode cL_act 232 = .ok (.invokevirtual 59, 3) := by decide +kernel
theorem dL_act_235 : decode cL_act 235 = .ok (.invokestatic 43, 3) := by decide +kernel
theorem dL_act_238 : decode cL_act 238 = .ok (.invokestatic 49, 3) := by decide +kernel
theorem dL_act_241 : decode cL_act 241 = .ok (.istore 10, 2) := by decide +kernel
theorem dL_act_243 : decode cL_act 243 = .ok (.aload_n 0, 1) := by decide +kernel
theorem dL_act_244 : decode cL_act 244 = .ok (.iload 10, 2) := by decide +kernel
theorem dL_act_246 : decode cL_act 246 = .ok (.invokevirtual 62, 3) := by decide +kernel
theorem dL_act_249 : decode cL_act 249 = .ok (.pop, 1) := by decide +kernel
theorem dL_act_250 : decode cL_act 250 = .ok (.iload 10, 2) := by decide +kernel
theorem dL_act_252 : decode cL_act 252 = .ok (.istore 11, 2) := by decide +kernel
theorem dL_act_254 : decode cL_act 254 = .ok (.iload 11, 2) := by decide +kernel
theorem dL_act_256 : decode cL_act 256 = .ok (.aload_n 0, 1) := by decide +kernel
theorem dL_act_257 : decode cL_act 257 = .ok (.invokevirtual 59, 3) := by decide +kernel
theorem dL_act_260 : decode cL_act 260 = .ok (.if_icmp .ge 19, 3) := by decide +kernel
theorem dL_act_263 : decode cL_act 263 = .ok (.aload_n 2, 1) := by decide +kernel
theorem dL_act_264 : decode cL_act 264 = .ok (.iload 11, 2) := by decide +kernel
theorem dL_act_266 : decode cL_act 266 = .ok (.aload_n 2, 1) := by decide +kernel
theorem dL_act_267 : decode cL_act 267 = .ok (.iload 11, 2) := by decide +kernel
theorem dL_act_269 : decode cL_act 269 = .ok (.iconst 1, 1) := by decide +kernel
theorem dL_act_270 : decode cL_act 270 = .ok (.iadd, 1) := by decide +kernel
theorem dL_act_271 : decode cL_act 271 = .ok (.aaload, 1) := by decide +kernel
theorem dL_act_272 : decode cL_act 272 = .ok (.aastore, 1) := by decide +kernel
theorem dL_act_273 : decode cL_act 273 = .ok (.iinc 11 1, 3) := by decide +kernel
theorem dL_act_276 : decode cL_act 276 = .ok (.goto (-22), 3) := by decide +kernel
theorem dL_act_279 : decode cL_act 279 = .ok (.goto 340, 3) := by decide +kernel
theorem dL_act_282 : decode cL_act 282 = .ok (.iload_n 1, 1) := by decide +kernel
theorem dL_act_283 : decode cL_act 283 = .ok (.bipush 9, 2) := by decide +kernel
theorem dL_act_285 : decode cL_act 285 = .ok (.ishr, 1) := by decide +kernel
theorem dL_act_286 : decode cL_act 286 = .ok (.iconst 3, 1) := by decide +kernel
theorem dL_act_287 : decode cL_act 287 = .ok (.invokestatic 49, 3) := by decide +kernel
theorem dL_act_290 : decode cL_act 290 = .ok (.ifCond .ne 29, 3) := by decide +kernel
theorem dL_act_293 : decode cL_act 293 = .ok (.aload_n 0, 1) := by decide +kernel
theorem dL_act_294 : decode cL_act 294 = .ok (.iload 6, 2) := by decide +kernel
theorem dL_act_296 : decode cL_act 296 = .ok (.invokevirtual 66, 3) := by decide +kernel
theorem dL_act_299 : decode cL_act 299 = .ok (.ifCond .ne 14, 3) := by decide +kernel
theorem dL_act_302 : decode cL_act 302 = .ok (.aload_n 0, 1) := by decide +kernel
theorem dL_act_303 : decode cL_act 303 = .ok (.iload 6, 2) := by decide +kernel
theorem dL_act_305 : decode cL_act 305 = .ok (.invokevirtual 70, 3) := by decide +kernel
theorem dL_act_308 : decode cL_act 308 = .ok (.bipush (-2), 2) := by decide +kernel
theorem dL_act_310 : decode cL_act 310 = .ok (.if_icmp .le 7, 3) := by decide +kernel
theorem dL_act_313 : decode cL_act 313 = .ok (.iconst 1, 1) := by decide +kernel
theorem dL_act_314 : decode cL_act 314 = .ok (.goto 4, 3) := by decide +kernel
theorem dL_act_317 : decode cL_act 317 = .ok (.iconst 0, 1) := by decide +kernel
theorem dL_act_318 : decode cL_act 318 = .ok (.ireturn, 1) := by decide +kernel
theorem dL_act_319 : decode cL_act 319 = .ok (.aload_n 0, 1) := by decide +kernel
theorem dL_act_320 : decode cL_act 320 = .ok (.iload 6, 2) := by decide +kernel
theorem dL_act_322 : decode cL_act 322 = .ok (.iload_n 1, 1) := by decide +kernel
theorem dL_act_323 : decode cL_act 323 = .ok (.bipush 6, 2) := by decide +kernel
theorem dL_act_325 : decode cL_act 325 = .ok (.ishr, 1) := by decide +kernel
theorem dL_act_326 : decode cL_act 326 = .ok (.iconst 3, 1) := by decide +kernel
theorem dL_act_327 : decode cL_act 327 = .ok (.invokestatic 49, 3) := by decide +kernel
theorem dL_act_330 : decode cL_act 330 = .ok (.iload_n 1, 1) := by decide +kernel
theorem dL_act_331 : decode cL_act 331 = .ok (.bipush 8, 2) := by decide +kernel
theorem dL_act_333 : decode cL_act 333 = .ok (.ishr, 1) := by decide +kernel
theorem dL_act_334 : decode cL_act 334 = .ok (.iconst 4, 1) := by decide +kernel
theorem dL_act_335 : decode cL_act 335 = .ok (.invokestatic 49, 3) := by decide +kernel
theorem dL_act_338 : decode cL_act 338 = .ok (.invokevirtual 73, 3) := by decide +kernel
theorem dL_act_341 : decode cL_act 341 = .ok (.pop, 1) := by decide +kernel
theorem dL_act_342 : decode cL_act 342 = .ok (.goto 277, 3) := by decide +kernel
theorem dL_act_345 : decode cL_act 345 = .ok (.aload_n 0, 1) := by decide +kernel
theorem dL_act_346 : decode cL_act 346 = .ok (.iload 6, 2) := by decide +kernel
theorem dL_act_348 : decode cL_act 348 = .ok (.iload_n 1, 1) := by decide +kernel
theorem dL_act_349 : decode cL_act 349 = .ok (.bipush 6, 2) := by decide +kernel
theorem dL_act_351 : decode cL_act 351 = .ok (.ishr, 1) := by decide +kernel
theorem dL_act_352 : decode cL_act 352 = .ok (.bipush 10, 2) := by decide +kernel
theorem dL_act_354 : decode cL_act 354 = .ok (.invokestatic 49, 3) := by decide +kernel
theorem dL_act_357 : decode cL_act 357 = .ok (.iload_n 1, 1) := by decide +kernel
theorem dL_act_358 : decode cL_act 358 = .ok (.bipush 9, 2) := by decide +kernel
theorem dL_act_360 : decode cL_act 360 = .ok (.ishr, 1) := by decide +kernel
theorem dL_act_361 : decode cL_act 361 = .ok (.iconst 4, 1) := by decide +kernel
theorem dL_act_362 : decode cL_act 362 = .ok (.invokestatic 49, 3) := by decide +kernel
theorem dL_act_365 : decode cL_act 365 = .ok (.iconst 3, 1) := by decide +kernel
theorem dL_act_366 : decode cL_act 366 = .ok (.imul, 1) := by decide +kernel
theorem dL_act_367 : decode cL_act 367 = .ok (.invokevirtual 77, 3) := by decide +kernel
theorem dL_act_370 : decode cL_act 370 = .ok (.aload 4, 2) := by decide +kernel
theorem dL_act_372 : decode cL_act 372 = .ok (.iload 6, 2) := by decide +kernel
theorem dL_act_374 : decode cL_act 374 = .ok (.iaload, 1) := by decide +kernel
theorem dL_act_375 : decode cL_act 375 = .ok (.if_icmp .eq 5, 3) := by decide +kernel
theorem dL_act_378 : decode cL_act 378 = .ok (.iconst 0, 1) := by decide +kernel
theorem dL_act_379 : decode cL_act 379 = .ok (.ireturn, 1) := by decide +kernel
theorem dL_act_380 : decode cL_act 380 = .ok (.aload 4, 2) := by decide +kernel
theorem dL_act_382 : decode cL_act 382 = .ok (.iload 6, 2) := by decide +kernel
theorem dL_act_384 : decode cL_act 384 = .ok (.iload_n 1, 1) := by decide +kernel
theorem dL_act_385 : decode cL_act 385 = .ok (.bipush 9, 2) := by decide +kernel
theorem dL_act_387 : decode cL_act 387 = .ok (.ishr, 1) := by decide +kernel
theorem dL_act_388 : decode cL_act 388 = .ok (.iconst 4, 1) := by decide +kernel
theorem dL_act_389 : decode cL_act 389 = .ok (.invokestatic 49, 3) := by decide +kernel
theorem dL_act_392 : decode cL_act 392 = .ok (.iconst 3, 1) := by decide +kernel
theorem dL_act_393 : decode cL_act 393 = .ok (.imul, 1) := by decide +kernel
theorem dL_act_394 : decode cL_act 394 = .ok (.iastore, 1) := by decide +kernel
theorem dL_act_395 : decode cL_act 395 = .ok (.goto 224, 3) := by decide +kernel
theorem dL_act_398 : decode cL_act 398 = .ok (.iload_n 1, 1) := by decide +kernel
theorem dL_act_399 : decode cL_act 399 = .ok (.bipush 9, 2) := by decide +kernel
theorem dL_act_401 : decode cL_act 401 = .ok (.ishr, 1) := by decide +kernel
theorem dL_act_402 : decode cL_act 402 = .ok (.iconst 2, 1) := by decide +kernel
theorem dL_act_403 : decode cL_act 403 = .ok (.invokestatic 49, 3) := by decide +kernel
theorem dL_act_406 : decode cL_act 406 = .ok (.ifCond .ne 32, 3) := by decide +kernel
theorem dL_act_409 : decode cL_act 409 = .ok (.aload_n 0, 1) := by decide +kernel
theorem dL_act_410 : decode cL_act 410 = .ok (.iload 6, 2) := by decide +kernel
theorem dL_act_412 : decode cL_act 412 = .ok (.iload_n 1, 1) := by decide +kernel
theorem dL_act_413 : decode cL_act 413 = .ok (.iconst 5, 1) := by decide +kernel
theorem dL_act_414 : decode cL_act 414 = .ok (.ishr, 1) := by decide +kernel
theorem dL_act_415 : decode cL_act 415 = .ok (.bipush 8, 2) := by decide +kernel
theorem dL_act_417 : decode cL_act 417 = .ok (.invokestatic 49, 3) := by decide +kernel
theorem dL_act_420 : decode cL_act 420 = .ok (.bipush 8, 2) := by decide +kernel
theorem dL_act_422 : decode cL_act 422 = .ok (.iload_n 1, 1) := by decide +kernel
theorem dL_act_423 : decode cL_act 423 = .ok (.bipush 7, 2) := by decide +kernel
theorem dL_act_425 : decode cL_act 425 = .ok (.ishr, 1) := by decide +kernel
theorem dL_act_426 : decode cL_act 426 = .ok (.iconst 4, 1) := by decide +kernel
theorem dL_act_427 : decode cL_act 427 = .ok (.invokestatic 49, 3) := by decide +kernel
theorem dL_act_430 : decode cL_act 430 = .ok (.iadd, 1) := by decide +kernel
theorem dL_act_431 : decode cL_act 431 = .ok (.invokevirtual 80, 3) := by decide +kernel
theorem dL_act_434 : decode cL_act 434 = .ok (.pop, 1) := by decide +kernel
theorem dL_act_435 : decode cL_act 435 = .ok (.goto 184, 3) := by decide +kernel
theorem dL_act_438 : decode cL_act 438 = .ok (.aload_n 0, 1) := by decide +kernel
theorem dL_act_439 : decode cL_act 439 = .ok (.iload 6, 2) := by decide +kernel
theorem dL_act_441 : decode cL_act 441 = .ok (.iload_n 1, 1) := by decide +kernel
theorem dL_act_442 : decode cL_act 442 = .ok (.bipush 6, 2) := by decide +kernel
theorem dL_act_444 : decode cL_act 444 = .ok (.ishr, 1) := by decide +kernel
theorem dL_act_445 : decode cL_act 445 = .ok (.bipush 6, 2) := by decide +kernel
theorem dL_act_447 : decode cL_act 447 = .ok (.invokestatic 49, 3) := by decide +kernel
theorem dL_act_450 : decode cL_act 450 = .ok (.invokevirtual 84, 3) := by decide +kernel
theorem dL_act_453 : decode cL_act 453 = .ok (.pop, 1) := by decide +kernel
theorem dL_act_454 : decode cL_act 454 = .ok (.goto 165, 3) := by decide +kernel
theorem dL_act_457 : decode cL_act 457 = .ok (.aload_n 3, 1) := by decide +kernel
theorem dL_act_458 : decode cL_act 458 = .ok (.iload_n 1, 1) := by decide +kernel
theorem dL_act_459 : decode cL_act 459 = .ok (.iconst 4, 1) := by decide +kernel
theorem dL_act_460 : decode cL_act 460 = .ok (.ishr, 1) := by decide +kernel
theorem dL_act_461 : decode cL_act 461 = .ok (.iconst 3, 1) := by decide +kernel
theorem dL_act_462 : decode cL_act 462 = .ok (.invokestatic 49, 3) := by decide +kernel
theorem dL_act_465 : decode cL_act 465 = .ok (.iaload, 1) := by decide +kernel
theorem dL_act_466 : decode cL_act 466 = .ok (.istore 11, 2) := by decide +kernel
theorem dL_act_468 : decode cL_act 468 = .ok (.aload_n 3, 1) := by decide +kernel
theorem dL_act_469 : decode cL_act 469 = .ok (.iload_n 1, 1) := by decide +kernel
theorem dL_act_470 : decode cL_act 470 = .ok (.iconst 4, 1) := by decide +kernel
theorem dL_act_471 : decode cL_act 471 = .ok (.ishr, 1) := by decide +kernel
theorem dL_act_472 : decode cL_act 472 = .ok (.iconst 3, 1) := by decide +kernel
theorem dL_act_473 : decode cL_act 473 = .ok (.invokestatic 49, 3) := by decide +kernel
theorem dL_act_476 : decode cL_act 476 = .ok (.iconst 1, 1) := by decide +kernel
theorem dL_act_477 : decode cL_act 477 = .ok (.iload_n 1, 1) := by decide +kernel
theorem dL_act_478 : decode cL_act 478 = .ok (.bipush 6, 2) := by decide +kernel
theorem dL_act_480 : decode cL_act 480 = .ok (.ishr, 1) := by decide +kernel
theorem dL_act_481 : decode cL_act 481 = .ok (.iconst 4, 1) := by decide +kernel
theorem dL_act_482 : decode cL_act 482 = .ok (.invokestatic 49, 3) := by decide +kernel
theorem dL_act_485 : decode cL_act 485 = .ok (.iadd, 1) := by decide +kernel
theorem dL_act_486 : decode cL_act 486 = .ok (.iastore, 1) := by decide +kernel
theorem dL_act_487 : decode cL_act 487 = .ok (.aload_n 0, 1) := by decide +kernel
theorem dL_act_488 : decode cL_act 488 = .ok (.iload_n 1, 1) := by decide +kernel
theorem dL_act_489 : decode cL_act 489 = .ok (.iconst 4, 1) := by decide +kernel
theorem dL_act_490 : decode cL_act 490 = .ok (.ishr, 1) := by decide +kernel
theorem dL_act_491 : decode cL_act 491 = .ok (.iconst 3, 1) := by decide +kernel
theorem dL_act_492 : decode cL_act 492 = .ok (.invokestatic 49, 3) := by decide +kernel
theorem dL_act_495 : decode cL_act 495 = .ok (.iconst 1, 1) := by decide +kernel
theorem dL_act_496 : decode cL_act 496 = .ok (.iload_n 1, 1) := by decide +kernel
theorem dL_act_497 : decode cL_act 497 = .ok (.bipush 6, 2) := by decide +kernel
theorem dL_act_499 : decode cL_act 499 = .ok (.ishr, 1) := by decide +kernel
theorem dL_act_500 : decode cL_act 500 = .ok (.iconst 4, 1) := by decide +kernel
theorem dL_act_501 : decode cL_act 501 = .ok (.invokestatic 49, 3) := by decide +kernel
theorem dL_act_504 : decode cL_act 504 = .ok (.iadd, 1) := by decide +kernel
theorem dL_act_505 : decode cL_act 505 = .ok (.iload_n 1, 1) := by decide +kernel
theorem dL_act_506 : decode cL_act 506 = .ok (.bipush 8, 2) := by decide +kernel
theorem dL_act_508 : decode cL_act 508 = .ok (.ishr, 1) := by decide +kernel
theorem dL_act_509 : decode cL_act 509 = .ok (.bipush 9, 2) := by decide +kernel
theorem dL_act_511 : decode cL_act 511 = .ok (.invokestatic 49, 3) := by decide +kernel
theorem dL_act_514 : decode cL_act 514 = .ok (.invokevirtual 87, 3) := by decide +kernel
theorem dL_act_517 : decode cL_act 517 = .ok (.iload 11, 2) := by decide +kernel
theorem dL_act_519 : decode cL_act 519 = .ok (.if_icmp .ne 7, 3) := by decide +kernel
theorem dL_act_522 : decode cL_act 522 = .ok (.iconst 1, 1) := by decide +kernel
theorem dL_act_523 : decode cL_act 523 = .ok (.goto 4, 3) := by decide +kernel
theorem dL_act_526 : decode cL_act 526 = .ok (.iconst 0, 1) := by decide +kernel
theorem dL_act_527 : decode cL_act 527 = .ok (.ireturn, 1) := by decide +kernel
theorem dL_act_528 : decode cL_act 528 = .ok (.aload_n 0, 1) := by decide +kernel
theorem dL_act_529 : decode cL_act 529 = .ok (.iload_n 1, 1) := by decide +kernel
theorem dL_act_530 : decode cL_act 530 = .ok (.iconst 4, 1) := by decide +kernel
theorem dL_act_531 : decode cL_act 531 = .ok (.ishr, 1) := by decide +kernel
theorem dL_act_532 : decode cL_act 532 = .ok (.iconst 2, 1) := by decide +kernel
theorem dL_act_533 : decode cL_act 533 = .ok (.invokestatic 49, 3) := by decide +kernel
theorem dL_act_536 : decode cL_act 536 = .ok (.iconst 1, 1) := by decide +kernel
theorem dL_act_537 : decode cL_act 537 = .ok (.iload_n 1, 1) := by decide +kernel
theorem dL_act_538 : decode cL_act 538 = .ok (.iconst 5, 1) := by decide +kernel
theorem dL_act_539 : decode cL_act 539 = .ok (.ishr, 1) := by decide +kernel
theorem dL_act_540 : decode cL_act 540 = .ok (.bipush 127, 2) := by decide +kernel
theorem dL_act_542 : decode cL_act 542 = .ok (.invokestatic 49, 3) := by decide +kernel
theorem dL_act_545 : decode cL_act 545 = .ok (.iadd, 1) := by decide +kernel
theorem dL_act_546 : decode cL_act 546 = .ok (.invokevirtual 90, 3) := by decide +kernel
theorem dL_act_549 : decode cL_act 549 = .ok (.pop, 1) := by decide +kernel
theorem dL_act_550 : decode cL_act 550 = .ok (.aload_n 0, 1) := by decide +kernel
theorem dL_act_551 : decode cL_act 551 = .ok (.iload_n 1, 1) := by decide +kernel
theorem dL_act_552 : decode cL_act 552 = .ok (.bipush 9, 2) := by decide +kernel
theorem dL_act_554 : decode cL_act 554 = .ok (.ishr, 1) := by decide +kernel
theorem dL_act_555 : decode cL_act 555 = .ok (.iconst 4, 1) := by decide +kernel
theorem dL_act_556 : decode cL_act 556 = .ok (.invokestatic 49, 3) := by decide +kernel
theorem dL_act_559 : decode cL_act 559 = .ok (.invokevirtual 93, 3) := by decide +kernel
theorem dL_act_562 : decode cL_act 562 = .ok (.pop, 1) := by decide +kernel
theorem dL_act_563 : decode cL_act 563 = .ok (.goto 56, 3) := by decide +kernel
theorem dL_act_566 : decode cL_act 566 = .ok (.aload_n 0, 1) := by decide +kernel
theorem dL_act_567 : decode cL_act 567 = .ok (.invokevirtual 96, 3) := by decide +kernel
theorem dL_act_570 : decode cL_act 570 = .ok (.iload 5, 2) := by decide +kernel
theorem dL_act_572 : decode cL_act 572 = .ok (.aload_n 0, 1) := by decide +kernel
theorem dL_act_573 : decode cL_act 573 = .ok (.invokevirtual 99, 3) := by decide +kernel
theorem dL_act_576 : decode cL_act 576 = .ok (.isub, 1) := by decide +kernel
theorem dL_act_577 : decode cL_act 577 = .ok (.if_icmp .ne 40, 3) := by decide +kernel
theorem dL_act_580 : decode cL_act 580 = .ok (.aload_n 0, 1) := by decide +kernel
theorem dL_act_581 : decode cL_act 581 = .ok (.sipush 9999, 3) := by decide +kernel
theorem dL_act_584 : decode cL_act 584 = .ok (.invokevirtual 102, 3) := by decide +kernel
theorem dL_act_587 : decode cL_act 587 = .ok (.aload_n 0, 1) := by decide +kernel
theorem dL_act_588 : decode cL_act 588 = .ok (.iload_n 1, 1) := by decide +kernel
theorem dL_act_589 : decode cL_act 589 = .ok (.iconst 4, 1) := by decide +kernel
theorem dL_act_590 : decode cL_act 590 = .ok (.ishr, 1) := by decide +kernel
theorem dL_act_591 : decode cL_act 591 = .ok (.bipush 30, 2) := by decide +kernel
theorem dL_act_593 : decode cL_act 593 = .ok (.invokestatic 49, 3) := by decide +kernel
theorem dL_act_596 : decode cL_act 596 = .ok (.invokevirtual 102, 3) := by decide +kernel
theorem dL_act_599 : decode cL_act 599 = .ok (.if_icmp .lt 18, 3) := by decide +kernel
theorem dL_act_602 : decode cL_act 602 = .ok (.aload_n 0, 1) := by decide +kernel
theorem dL_act_603 : decode cL_act 603 = .ok (.invokevirtual 105, 3) := by decide +kernel
theorem dL_act_606 : decode cL_act 606 = .ok (.aload_n 0, 1) := by decide +kernel
theorem dL_act_607 : decode cL_act 607 = .ok (.invokevirtual 108, 3) := by decide +kernel
theorem dL_act_610 : decode cL_act 610 = .ok (.if_icmp .gt 7, 3) := by decide +kernel
theorem dL_act_613 : decode cL_act 613 = .ok (.iconst 1, 1) := by decide +kernel
theorem dL_act_614 : decode cL_act 614 = .ok (.goto 4, 3) := by decide +kernel
theorem dL_act_617 : decode cL_act 617 = .ok (.iconst 0, 1) := by decide +kernel
theorem dL_act_618 : decode cL_act 618 = .ok (.ireturn, 1) := by decide +kernel
theorem dL_act_619 : decode cL_act 619 = .ok (.goto 37, 3) := by decide +kernel
theorem dL_act_622 : decode cL_act 622 = .ok (.astore 7, 2) := by decide +kernel
theorem dL_act_624 : decode cL_act 624 = .ok (.aload_n 0, 1) := by decide +kernel
theorem dL_act_625 : decode cL_act 625 = .ok (.invokevirtual 39, 3) := by decide +kernel
theorem dL_act_628 : decode cL_act 628 = .ok (.iload 5, 2) := by decide +kernel
theorem dL_act_630 : decode cL_act 630 = .ok (.if_icmp .ne 7, 3) := by decide +kernel
theorem dL_act_633 : decode cL_act 633 = .ok (.iconst 1, 1) := by decide +kernel
theorem dL_act_634 : decode cL_act 634 = .ok (.goto 4, 3) := by decide +kernel
theorem dL_act_637 : decode cL_act 637 = .ok (.iconst 0, 1) := by decide +kernel
theorem dL_act_638 : decode cL_act 638 = .ok (.ireturn, 1) := by decide +kernel
theorem dL_act_639 : decode cL_act 639 = .ok (.astore 7, 2) := by decide +kernel
theorem dL_act_641 : decode cL_act 641 = .ok (.aload_n 0, 1) := by decide +kernel
theorem dL_act_642 : decode cL_act 642 = .ok (.invokevirtual 39, 3) := by decide +kernel
theorem dL_act_645 : decode cL_act 645 = .ok (.iload 5, 2) := by decide +kernel
theorem dL_act_647 : decode cL_act 647 = .ok (.if_icmp .ne 7, 3) := by decide +kernel
theorem dL_act_650 : decode cL_act 650 = .ok (.iconst 1, 1) := by decide +kernel
theorem dL_act_651 : decode cL_act 651 = .ok (.goto 4, 3) := by decide +kernel
theorem dL_act_654 : decode cL_act 654 = .ok (.iconst 0, 1) := by decide +kernel
theorem dL_act_655 : decode cL_act 655 = .ok (.ireturn, 1) := by decide +kernel
theorem dL_act_656 : decode cL_act 656 = .ok (.iconst 1, 1) := by decide +kernel
theorem dL_act_657 : decode cL_act 657 = .ok (.ireturn, 1) := by decide +kernel
theorem dL_isDone_0 : decode cL_isDone 0 = .ok (.aload_n 0, 1) := by decide +kernel
theorem dL_isDone_1 : decode cL_isDone 1 = .ok (.iload_n 1, 1) := by decide +kernel
theorem dL_isDone_2 : decode cL_isDone 2 = .ok (.invokevirtual 70, 3) := by decide +kernel
theorem dL_isDone_5 : decode cL_isDone 5 = .ok (.iconst (-1), 1) := by decide +kernel
theorem dL_isDone_6 : decode cL_isDone 6 = .ok (.if_icmp .ne 15, 3) := by decide +kernel
theorem dL_isDone_9 : decode cL_isDone 9 = .ok (.aload_n 0, 1) := by decide +kernel
theorem dL_isDone_10 : decode cL_isDone 10 = .ok (.iload_n 1, 1) := by decide +kernel
theorem dL_isDone_11 : decode cL_isDone 11 = .ok (.invokevirtual 115, 3) := by decide +kernel
theorem dL_isDone_14 : decode cL_isDone 14 = .ok (.ifCond .lt 7, 3) := by decide +kernel
theorem dL_isDone_17 : decode cL_isDone 17 = .ok (.iconst 1, 1) := by decide +kernel
theorem dL_isDone_18 : decode cL_isDone 18 = .ok (.goto 4, 3) := by decide +kernel
theorem dL_isDone_21 : decode cL_isDone 21 = .ok (.iconst 0, 1) := by decide +kernel
theorem dL_isDone_22 : decode cL_isDone 22 = .ok (.ireturn, 1) := by decide +kernel
theorem dL_arePlansRight_0 : decode cL_arePlansRight 0 = .ok (.iconst 0, 1) := by decide +kernel
theorem dL_arePlansRight_1 : decode cL_arePlansRight 1 = .ok (.istore_n 2, 1) := by decide +kernel
theorem dL_arePlansRight_2 : decode cL_arePlansRight 2 = .ok (.iconst 0, 1) := by decide +kernel
theorem dL_arePlansRight_3 : decode cL_arePlansRight 3 = .ok (.istore_n 3, 1) := by decide +kernel
theorem dL_arePlansRight_4 : decode cL_arePlansRight 4 = .ok (.iconst 0, 1) := by decide +kernel
theorem dL_arePlansRight_5 : decode cL_arePlansRight 5 = .ok (.istore 4, 2) := by decide +kernel
theorem dL_arePlansRight_7 : decode cL_arePlansRight 7 = .ok (.iload 4, 2) := by decide +kernel
theorem dL_arePlansRight_9 : decode cL_arePlansRight 9 = .ok (.aload_n 0, 1) := by decide +kernel
theorem dL_arePlansRight_10 : decode cL_arePlansRight 10 = .ok (.invokevirtual 39, 3) := by decide +kernel
theorem dL_arePlansRight_13 : decode cL_arePlansRight 13 = .ok (.if_icmp .ge 294, 3) := by decide +kernel
theorem dL_arePlansRight_16 : decode cL_arePlansRight 16 = .ok (.aload_n 0, 1) := by decide +kernel
theorem dL_arePlansRight_17 : decode cL_arePlansRight 17 = .ok (.iload 4, 2) := by decide +kernel
theorem dL_arePlansRight_19 : decode cL_arePlansRight 19 = .ok (.invokestatic 118, 3) := by decide +kernel
theorem dL_arePlansRight_22 : decode cL_arePlansRight 22 = .ok (.istore 5, 2) := by decide +kernel
theorem dL_arePlansRight_24 : decode cL_arePlansRight 24 = .ok (.iload_n 3, 1) := by decide +kernel
theorem dL_arePlansRight_25 : decode cL_arePlansRight 25 = .ok (.aload_n 0, 1) := by decide +kernel
theorem dL_arePlansRight_26 : decode cL_arePlansRight 26 = .ok (.iload 4, 2) := by decide +kernel
theorem dL_arePlansRight_28 : decode cL_arePlansRight 28 = .ok (.invokevirtual 115, 3) := by decide +kernel
theorem dL_arePlansRight_31 : decode cL_arePlansRight 31 = .ok (.ifCond .lt 7, 3) := by decide +kernel
theorem dL_arePlansRight_34 : decode cL_arePlansRight 34 = .ok (.iconst 1, 1) := by decide +kernel
theorem dL_arePlansRight_35 : decode cL_arePlansRight 35 = .ok (.goto 4, 3) := by decide +kernel
theorem dL_arePlansRight_38 : decode cL_arePlansRight 38 = .ok (.iconst 0, 1) := by decide +kernel
theorem dL_arePlansRight_39 : decode cL_arePlansRight 39 = .ok (.iadd, 1) := by decide +kernel
theorem dL_arePlansRight_40 : decode cL_arePlansRight 40 = .ok (.istore_n 3, 1) := by decide +kernel
theorem dL_arePlansRight_41 : decode cL_arePlansRight 41 = .ok (.aload_n 0, 1) := by decide +kernel
theorem dL_arePlansRight_42 : decode cL_arePlansRight 42 = .ok (.iload 4, 2) := by decide +kernel
theorem dL_arePlansRight_44 : decode cL_arePlansRight 44 = .ok (.invokevirtual 122, 3) := by decide +kernel
theorem dL_arePlansRight_47 : decode cL_arePlansRight 47 = .ok (.aload_n 0, 1) := by decide +kernel
theorem dL_arePlansRight_48 : decode cL_arePlansRight 48 = .ok (.iload 4, 2) := by decide +kernel
theorem dL_arePlansRight_50 : decode cL_arePlansRight 50 = .ok (.invokevirtual 125, 3) := by decide +kernel
theorem dL_arePlansRight_53 : decode cL_arePlansRight 53 = .ok (.if_icmp .lt 53, 3) := by decide +kernel
theorem dL_arePlansRight_56 : decode cL_arePlansRight 56 = .ok (.aload_n 0, 1) := by decide +kernel
theorem dL_arePlansRight_57 : decode cL_arePlansRight 57 = .ok (.iload 4, 2) := by decide +kernel
theorem dL_arePlansRight_59 : decode cL_arePlansRight 59 = .ok (.invokevirtual 125, 3) := by decide +kernel
theorem dL_arePlansRight_62 : decode cL_arePlansRight 62 = .ok (.aload_n 0, 1) := by decide +kernel
theorem dL_arePlansRight_63 : decode cL_arePlansRight 63 = .ok (.iload 4, 2) := by decide +kernel
theorem dL_arePlansRight_65 : decode cL_arePlansRight 65 = .ok (.invokevirtual 128, 3) := by decide +kernel
theorem dL_arePlansRight_68 : decode cL_arePlansRight 68 = .ok (.if_icmp .gt 38, 3) := by decide +kernel
theorem dL_arePlansRight_71 : decode cL_arePlansRight 71 = .ok (.aload_n 0, 1) := by decide +kernel
theorem dL_arePlansRight_72 : decode cL_arePlansRight 72 = .ok (.iload 4, 2) := by decide +kernel
theorem dL_arePlansRight_74 : decode cL_arePlansRight 74 = .ok (.invokevirtual 122, 3) := by decide +kernel
theorem dL_arePlansRight_77 : decode cL_arePlansRight 77 = .ok (.aload_n 0, 1) := by decide +kernel
theorem dL_arePlansRight_78 : decode cL_arePlansRight 78 = .ok (.invokevirtual 131, 3) := by decide +kernel
theorem dL_arePlansRight_81 : decode cL_arePlansRight 81 = .ok (.if_icmp .gt 25, 3) := by decide +kernel
theorem dL_arePlansRight_84 : decode cL_arePlansRight 84 = .ok (.aload_n 0, 1) := by decide +kernel
theorem dL_arePlansRight_85 : decode cL_arePlansRight 85 = .ok (.iload 4, 2) := by decide +kernel
theorem dL_arePlansRight_87 : decode cL_arePlansRight 87 = .ok (.invokevirtual 134, 3) := by decide +kernel
theorem dL_arePlansRight_90 : decode cL_arePlansRight 90 = .ok (.ifCond .lt 16, 3) := by decide +kernel
theorem dL_arePlansRight_93 : decode cL_arePlansRight 93 = .ok (.aload_n 0, 1) := by decide +kernel
theorem dL_arePlansRight_94 : decode cL_arePlansRight 94 = .ok (.iload 4, 2) := by decide +kernel
theorem dL_arePlansRight_96 : decode cL_arePlansRight 96 = .ok (.invokevirtual 137, 3) := by decide +kernel
theorem dL_arePlansRight_99 : decode cL_arePlansRight 99 = .ok (.aload_n 0, 1) := by decide +kernel
theorem dL_arePlansRight_100 : decode cL_arePlansRight 100 = .ok (.invokevirtual 140, 3) := by decide +kernel
theorem dL_arePlansRight_103 : decode cL_arePlansRight 103 = .ok (.if_icmp .le 5, 3) := by decide +kernel
theorem dL_arePlansRight_106 : decode cL_arePlansRight 106 = .ok (.iconst 0, 1) := by decide +kernel
theorem dL_arePlansRight_107 : decode cL_arePlansRight 107 = .ok (.ireturn, 1) := by decide +kernel
theorem dL_arePlansRight_108 : decode cL_arePlansRight 108 = .ok (.iload 5, 2) := by decide +kernel
theorem dL_arePlansRight_110 : decode cL_arePlansRight 110 = .ok (.ifCond .ne 18, 3) := by decide +kernel
theorem dL_arePlansRight_113 : decode cL_arePlansRight 113 = .ok (.aload_n 0, 1) := by decide +kernel
theorem dL_arePlansRight_114 : decode cL_arePlansRight 114 = .ok (.iload 4, 2) := by decide +kernel
theorem dL_arePlansRight_116 : decode cL_arePlansRight 116 = .ok (.invokevirtual 125, 3) := by decide +kernel
theorem dL_arePlansRight_119 : decode cL_arePlansRight 119 = .ok (.aload_n 1, 1) := by decide +kernel
theorem dL_arePlansRight_120 : decode cL_arePlansRight 120 = .ok (.iload 4, 2) := by decide +kernel
theorem dL_arePlansRight_122 : decode cL_arePlansRight 122 = .ok (.iaload, 1) := by decide +kernel
theorem dL_arePlansRight_123 : decode cL_arePlansRight 123 = .ok (.if_icmp .ge 5, 3) := by decide +kernel
theorem dL_arePlansRight_126 : decode cL_arePlansRight 126 = .ok (.iconst 0, 1) := by decide +kernel
theorem dL_arePlansRight_127 : decode cL_arePlansRight 127 = .ok (.ireturn, 1) := by decide +kernel
theorem dL_arePlansRight_128 : decode cL_arePlansRight 128 = .ok (.iload 5, 2) := by decide +kernel
theorem dL_arePlansRight_130 : decode cL_arePlansRight 130 = .ok (.ifCond .eq 45, 3) := by decide +kernel
theorem dL_arePlansRight_133 : decode cL_arePlansRight 133 = .ok (.aload_n 0, 1) := by decide +kernel
theorem dL_arePlansRight_134 : decode cL_arePlansRight 134 = .ok (.iload 4, 2) := by decide +kernel
theorem dL_arePlansRight_136 : decode cL_arePlansRight 136 = .ok (.invokevirtual 115, 3) := by decide +kernel
theorem dL_arePlansRight_139 : decode cL_arePlansRight 139 = .ok (.aload_n 0, 1) := by decide +kernel
theorem dL_arePlansRight_140 : decode cL_arePlansRight 140 = .ok (.iload 4, 2) := by decide +kernel
theorem dL_arePlansRight_142 : decode cL_arePlansRight 142 = .ok (.invokevirtual 125, 3) := by decide +kernel
theorem dL_arePlansRight_145 : decode cL_arePlansRight 145 = .ok (.if_icmp .ne 54, 3) := by decide +kernel
theorem dL_arePlansRight_148 : decode cL_arePlansRight 148 = .ok (.aload_n 0, 1) := by decide +kernel
theorem dL_arePlansRight_149 : decode cL_arePlansRight 149 = .ok (.iload 4, 2) := by decide +kernel
theorem dL_arePlansRight_151 : decode cL_arePlansRight 151 = .ok (.invokevirtual 143, 3) := by decide +kernel
theorem dL_arePlansRight_154 : decode cL_arePlansRight 154 = .ok (.aload_n 0, 1) := by decide +kernel
theorem dL_arePlansRight_155 : decode cL_arePlansRight 155 = .ok (.iload 4, 2) := by decide +kernel
theorem dL_arePlansRight_157 : decode cL_arePlansRight 157 = .ok (.invokevirtual 137, 3) := by decide +kernel
theorem dL_arePlansRight_160 : decode cL_arePlansRight 160 = .ok (.if_icmp .ne 39, 3) := by decide +kernel
theorem dL_arePlansRight_163 : decode cL_arePlansRight 163 = .ok (.aload_n 0, 1) := by decide +kernel
theorem dL_arePlansRight_164 : decode cL_arePlansRight 164 = .ok (.iload 4, 2) := by decide +kernel
theorem dL_arePlansRight_166 : decode cL_arePlansRight 166 = .ok (.invokevirtual 134, 3) := by decide +kernel
theorem dL_arePlansRight_169 : decode cL_arePlansRight 169 = .ok (.ifCond .eq 32, 3) := by decide +kernel
theorem dL_arePlansRight_172 : decode cL_arePlansRight 172 = .ok (.goto 27, 3) := by decide +kernel
theorem dL_arePlansRight_175 : decode cL_arePlansRight 175 = .ok (.aload_n 0, 1) := by decide +kernel
theorem dL_arePlansRight_176 : decode cL_arePlansRight 176 = .ok (.iload 4, 2) := by decide +kernel
theorem dL_arePlansRight_178 : decode cL_arePlansRight 178 = .ok (.invokevirtual 115, 3) := by decide +kernel
theorem dL_arePlansRight_181 : decode cL_arePlansRight 181 = .ok (.ifCond .lt 20, 3) := by decide +kernel
theorem dL_arePlansRight_184 : decode cL_arePlansRight 184 = .ok (.aload_n 0, 1) := by decide +kernel
theorem dL_arePlansRight_185 : decode cL_arePlansRight 185 = .ok (.iload 4, 2) := by decide +kernel
theorem dL_arePlansRight_187 : decode cL_arePlansRight 187 = .ok (.invokevirtual 115, 3) := by decide +kernel
theorem dL_arePlansRight_190 : decode cL_arePlansRight 190 = .ok (.aload_n 0, 1) := by decide +kernel
theorem dL_arePlansRight_191 : decode cL_arePlansRight 191 = .ok (.iload 4, 2) := by decide +kernel
theorem dL_arePlansRight_193 : decode cL_arePlansRight 193 = .ok (.invokevirtual 125, 3) := by decide +kernel
theorem dL_arePlansRight_196 : decode cL_arePlansRight 196 = .ok (.if_icmp .ge 5, 3) := by decide +kernel
theorem dL_arePlansRight_199 : decode cL_arePlansRight 199 = .ok (.iconst 0, 1) := by decide +kernel
theorem dL_arePlansRight_200 : decode cL_arePlansRight 200 = .ok (.ireturn, 1) := by decide +kernel
theorem dL_arePlansRight_201 : decode cL_arePlansRight 201 = .ok (.aload_n 0, 1) := by decide +kernel
theorem dL_arePlansRight_202 : decode cL_arePlansRight 202 = .ok (.iload 4, 2) := by decide +kernel
theorem dL_arePlansRight_204 : decode cL_arePlansRight 204 = .ok (.invokevirtual 115, 3) := by decide +kernel
theorem dL_arePlansRight_207 : decode cL_arePlansRight 207 = .ok (.ifCond .ge 7, 3) := by decide +kernel
theorem dL_arePlansRight_210 : decode cL_arePlansRight 210 = .ok (.iconst 1, 1) := by decide +kernel
theorem dL_arePlansRight_211 : decode cL_arePlansRight 211 = .ok (.goto 4, 3) := by decide +kernel
theorem dL_arePlansRight_214 : decode cL_arePlansRight 214 = .ok (.iconst 0, 1) := by decide +kernel
theorem dL_arePlansRight_215 : decode cL_arePlansRight 215 = .ok (.aload_n 0, 1) := by decide +kernel
theorem dL_arePlansRight_216 : decode cL_arePlansRight 216 = .ok (.iload 4, 2) := by decide +kernel
theorem dL_arePlansRight_218 : decode cL_arePlansRight 218 = .ok (.invokevirtual 137, 3) := by decide +kernel
theorem dL_arePlansRight_221 : decode cL_arePlansRight 221 = .ok (.ifCond .ge 7, 3) := by decide +kernel
theorem dL_arePlansRight_224 : decode cL_arePlansRight 224 = .ok (.iconst 1, 1) := by decide +kernel
theorem dL_arePlansRight_225 : decode cL_arePlansRight 225 = .ok (.goto 4, 3) := by decide +kernel
theorem dL_arePlansRight_228 : decode cL_arePlansRight 228 = .ok (.iconst 0, 1) := by decide +kernel
theorem dL_arePlansRight_229 : decode cL_arePlansRight 229 = .ok (.if_icmp .ne 48, 3) := by decide +kernel
theorem dL_arePlansRight_232 : decode cL_arePlansRight 232 = .ok (.aload_n 0, 1) := by decide +kernel
theorem dL_arePlansRight_233 : decode cL_arePlansRight 233 = .ok (.iload 4, 2) := by decide +kernel
theorem dL_arePlansRight_235 : decode cL_arePlansRight 235 = .ok (.invokevirtual 146, 3) := by decide +kernel
theorem dL_arePlansRight_238 : decode cL_arePlansRight 238 = .ok (.ifCond .lt 7, 3) := by decide +kernel
theorem dL_arePlansRight_241 : decode cL_arePlansRight 241 = .ok (.iconst 1, 1) := by decide +kernel
theorem dL_arePlansRight_242 : decode cL_arePlansRight 242 = .ok (.goto 4, 3) := by decide +kernel
theorem dL_arePlansRight_245 : decode cL_arePlansRight 245 = .ok (.iconst 0, 1) := by decide +kernel
theorem dL_arePlansRight_246 : decode cL_arePlansRight 246 = .ok (.aload_n 0, 1) := by decide +kernel
theorem dL_arePlansRight_247 : decode cL_arePlansRight 247 = .ok (.iload 4, 2) := by decide +kernel
theorem dL_arePlansRight_249 : decode cL_arePlansRight 249 = .ok (.invokevirtual 70, 3) := by decide +kernel
theorem dL_arePlansRight_252 : decode cL_arePlansRight 252 = .ok (.iconst 1, 1) := by decide +kernel
theorem dL_arePlansRight_253 : decode cL_arePlansRight 253 = .ok (.if_icmp .ne 7, 3) := by decide +kernel
theorem dL_arePlansRight_256 : decode cL_arePlansRight 256 = .ok (.iconst 1, 1) := by decide +kernel
theorem dL_arePlansRight_257 : decode cL_arePlansRight 257 = .ok (.goto 4, 3) := by decide +kernel
theorem dL_arePlansRight_260 : decode cL_arePlansRight 260 = .ok (.iconst 0, 1) := by decide +kernel
theorem dL_arePlansRight_261 : decode cL_arePlansRight 261 = .ok (.if_icmp .ne 16, 3) := by decide +kernel
theorem dL_arePlansRight_264 : decode cL_arePlansRight 264 = .ok (.aload_n 0, 1) := by decide +kernel
theorem dL_arePlansRight_265 : decode cL_arePlansRight 265 = .ok (.iload 4, 2) := by decide +kernel
theorem dL_arePlansRight_267 : decode cL_arePlansRight 267 = .ok (.invokevirtual 146, 3) := by decide +kernel
theorem dL_arePlansRight_270 : decode cL_arePlansRight 270 = .ok (.aload_n 0, 1) := by decide +kernel
theorem dL_arePlansRight_271 : decode cL_arePlansRight 271 = .ok (.invokevirtual 59, 3) := by decide +kernel
theorem dL_arePlansRight_274 : decode cL_arePlansRight 274 = .ok (.if_icmp .lt 5, 3) := by decide +kernel
theorem dL_arePlansRight_277 : decode cL_arePlansRight 277 = .ok (.iconst 0, 1) := by decide +kernel
theorem dL_arePlansRight_278 : decode cL_arePlansRight 278 = .ok (.ireturn, 1) := by decide +kernel
theorem dL_arePlansRight_279 : decode cL_arePlansRight 279 = .ok (.iload_n 2, 1) := by decide +kernel
theorem dL_arePlansRight_280 : decode cL_arePlansRight 280 = .ok (.iload 5, 2) := by decide +kernel
theorem dL_arePlansRight_282 : decode cL_arePlansRight 282 = .ok (.ifCond .ne 16, 3) := by decide +kernel
theorem dL_arePlansRight_285 : decode cL_arePlansRight 285 = .ok (.aload_n 0, 1) := by decide +kernel
theorem dL_arePlansRight_286 : decode cL_arePlansRight 286 = .ok (.iload 4, 2) := by decide +kernel
theorem dL_arePlansRight_288 : decode cL_arePlansRight 288 = .ok (.invokevirtual 134, 3) := by decide +kernel
theorem dL_arePlansRight_291 : decode cL_arePlansRight 291 = .ok (.ifCond .ne 7, 3) := by decide +kernel
theorem dL_arePlansRight_294 : decode cL_arePlansRight 294 = .ok (.iconst 1, 1) := by decide +kernel
theorem dL_arePlansRight_295 : decode cL_arePlansRight 295 = .ok (.goto 4, 3) := by decide +kernel
theorem dL_arePlansRight_298 : decode cL_arePlansRight 298 = .ok (.iconst 0, 1) := by decide +kernel
theorem dL_arePlansRight_299 : decode cL_arePlansRight 299 = .ok (.iadd, 1) := by decide +kernel
theorem dL_arePlansRight_300 : decode cL_arePlansRight 300 = .ok (.istore_n 2, 1) := by decide +kernel
theorem dL_arePlansRight_301 : decode cL_arePlansRight 301 = .ok (.iinc 4 1, 3) := by decide +kernel
theorem dL_arePlansRight_304 : decode cL_arePlansRight 304 = .ok (.goto (-297), 3) := by decide +kernel
theorem dL_arePlansRight_307 : decode cL_arePlansRight 307 = .ok (.aload_n 0, 1) := by decide +kernel
theorem dL_arePlansRight_308 : decode cL_arePlansRight 308 = .ok (.invokevirtual 149, 3) := by decide +kernel
theorem dL_arePlansRight_311 : decode cL_arePlansRight 311 = .ok (.iload_n 2, 1) := by decide +kernel
theorem dL_arePlansRight_312 : decode cL_arePlansRight 312 = .ok (.if_icmp .ne 16, 3) := by decide +kernel
theorem dL_arePlansRight_315 : decode cL_arePlansRight 315 = .ok (.aload_n 0, 1) := by decide +kernel
theorem dL_arePlansRight_316 : decode cL_arePlansRight 316 = .ok (.invokevirtual 99, 3) := by decide +kernel
theorem dL_arePlansRight_319 : decode cL_arePlansRight 319 = .ok (.aload_n 0, 1) := by decide +kernel
theorem dL_arePlansRight_320 : decode cL_arePlansRight 320 = .ok (.invokevirtual 39, 3) := by decide +kernel
theorem dL_arePlansRight_323 : decode cL_arePlansRight 323 = .ok (.iload_n 3, 1) := by decide +kernel
theorem dL_arePlansRight_324 : decode cL_arePlansRight 324 = .ok (.isub, 1) := by decide +kernel
theorem dL_arePlansRight_325 : decode cL_arePlansRight 325 = .ok (.if_icmp .eq 5, 3) := by decide +kernel
theorem dL_arePlansRight_328 : decode cL_arePlansRight 328 = .ok (.iconst 0, 1) := by decide +kernel
theorem dL_arePlansRight_329 : decode cL_arePlansRight 329 = .ok (.ireturn, 1) := by decide +kernel
theorem dL_arePlansRight_330 : decode cL_arePlansRight 330 = .ok (.iconst 0, 1) := by decide +kernel
theorem dL_arePlansRight_331 : decode cL_arePlansRight 331 = .ok (.istore 4, 2) := by decide +kernel
theorem dL_arePlansRight_333 : decode cL_arePlansRight 333 = .ok (.iconst 0, 1) := by decide +kernel
theorem dL_arePlansRight_334 : decode cL_arePlansRight 334 = .ok (.istore 5, 2) := by decide +kernel
theorem dL_arePlansRight_336 : decode cL_arePlansRight 336 = .ok (.iload 5, 2) := by decide +kernel
theorem dL_arePlansRight_338 : decode cL_arePlansRight 338 = .ok (.iload_n 3, 1) := by decide +kernel
theorem dL_arePlansRight_339 : decode cL_arePlansRight 339 = .ok (.if_icmp .ge 22, 3) := by decide +kernel
theorem dL_arePlansRight_342 : decode cL_arePlansRight 342 = .ok (.iload 4, 2) := by decide +kernel
theorem dL_arePlansRight_344 : decode cL_arePlansRight 344 = .ok (.iconst 1, 1) := by decide +kernel
theorem dL_arePlansRight_345 : decode cL_arePlansRight 345 = .ok (.aload_n 0, 1) := by decide +kernel
theorem dL_arePlansRight_346 : decode cL_arePlansRight 346 = .ok (.iload 5, 2) := by decide +kernel
theorem dL_arePlansRight_348 : decode cL_arePlansRight 348 = .ok (.invokevirtual 152, 3) := by decide +kernel
theorem dL_arePlansRight_351 : decode cL_arePlansRight 351 = .ok (.ishl, 1) := by decide +kernel
theorem dL_arePlansRight_352 : decode cL_arePlansRight 352 = .ok (.ior, 1) := by decide +kernel
theorem dL_arePlansRight_353 : decode cL_arePlansRight 353 = .ok (.istore 4, 2) := by decide +kernel
theorem dL_arePlansRight_355 : decode cL_arePlansRight 355 = .ok (.iinc 5 1, 3) := by decide +kernel
theorem dL_arePlansRight_358 : decode cL_arePlansRight 358 = .ok (.goto (-22), 3) := by decide +kernel
theorem dL_arePlansRight_361 : decode cL_arePlansRight 361 = .ok (.iload 4, 2) := by decide +kernel
theorem dL_arePlansRight_363 : decode cL_arePlansRight 363 = .ok (.invokestatic 155, 3) := by decide +kernel
theorem dL_arePlansRight_366 : decode cL_arePlansRight 366 = .ok (.iload_n 3, 1) := by decide +kernel
theorem dL_arePlansRight_367 : decode cL_arePlansRight 367 = .ok (.if_icmp .ne 32, 3) := by decide +kernel
theorem dL_arePlansRight_370 : decode cL_arePlansRight 370 = .ok (.aload_n 0, 1) := by decide +kernel
theorem dL_arePlansRight_371 : decode cL_arePlansRight 371 = .ok (.invokevirtual 140, 3) := by decide +kernel
theorem dL_arePlansRight_374 : decode cL_arePlansRight 374 = .ok (.ifCond .lt 25, 3) := by decide +kernel
theorem dL_arePlansRight_377 : decode cL_arePlansRight 377 = .ok (.aload_n 0, 1) := by decide +kernel
theorem dL_arePlansRight_378 : decode cL_arePlansRight 378 = .ok (.invokevirtual 99, 3) := by decide +kernel
theorem dL_arePlansRight_381 : decode cL_arePlansRight 381 = .ok (.ifCond .gt 14, 3) := by decide +kernel
theorem dL_arePlansRight_384 : decode cL_arePlansRight 384 = .ok (.aload_n 0, 1) := by decide +kernel
theorem dL_arePlansRight_385 : decode cL_arePlansRight 385 = .ok (.invokevirtual 140, 3) := by decide +kernel
theorem dL_arePlansRight_388 : decode cL_arePlansRight 388 = .ok (.aload_n 0, 1) := by decide +kernel
theorem dL_arePlansRight_389 : decode cL_arePlansRight 389 = .ok (.invokevirtual 131, 3) := by decide +kernel
theorem dL_arePlansRight_392 : decode cL_arePlansRight 392 = .ok (.if_icmp .lt 7, 3) := by decide +kernel
theorem dL_arePlansRight_395 : decode cL_arePlansRight 395 = .ok (.iconst 1, 1) := by decide +kernel
theorem dL_arePlansRight_396 : decode cL_arePlansRight 396 = .ok (.goto 4, 3) := by decide +kernel
theorem dL_arePlansRight_399 : decode cL_arePlansRight 399 = .ok (.iconst 0, 1) := by decide +kernel
theorem dL_arePlansRight_400 : decode cL_arePlansRight 400 = .ok (.ireturn, 1) := by decide +kernel
theorem dL_areLinksRight_0 : decode cL_areLinksRight 0 = .ok (.iconst 0, 1) := by decide +kernel
theorem dL_areLinksRight_1 : decode cL_areLinksRight 1 = .ok (.istore_n 2, 1) := by decide +kernel
theorem dL_areLinksRight_2 : decode cL_areLinksRight 2 = .ok (.iload_n 2, 1) := by decide +kernel
theorem dL_areLinksRight_3 : decode cL_areLinksRight 3 = .ok (.aload_n 0, 1) := by decide +kernel
theorem dL_areLinksRight_4 : decode cL_areLinksRight 4 = .ok (.invokevirtual 59, 3) := by decide +kernel
theorem dL_areLinksRight_7 : decode cL_areLinksRight 7 = .ok (.if_icmp .ge 258, 3) := by decide +kernel
theorem dL_areLinksRight_10 : decode cL_areLinksRight 10 = .ok (.aload_n 1, 1) := by decide +kernel
theorem dL_areLinksRight_11 : decode cL_areLinksRight 11 = .ok (.iload_n 2, 1) := by decide +kernel
theorem dL_areLinksRight_12 : decode cL_areLinksRight 12 = .ok (.aaload, 1) := by decide +kernel
theorem dL_areLinksRight_13 : decode cL_areLinksRight 13 = .ok (.iconst 0, 1) := by decide +kernel
theorem dL_areLinksRight_14 : decode cL_areLinksRight 14 = .ok (.iaload, 1) := by decide +kernel
theorem dL_areLinksRight_15 : decode cL_areLinksRight 15 = .ok (.istore_n 3, 1) := by decide +kernel
theorem dL_areLinksRight_16 : decode cL_areLinksRight 16 = .ok (.aload_n 1, 1) := by decide +kernel
theorem dL_areLinksRight_17 : decode cL_areLinksRight 17 = .ok (.iload_n 2, 1) := by decide +kernel
theorem dL_areLinksRight_18 : decode cL_areLinksRight 18 = .ok (.aaload, 1) := by decide +kernel
theorem dL_areLinksRight_19 : decode cL_areLinksRight 19 = .ok (.iconst 1, 1) := by decide +kernel
theorem dL_areLinksRight_20 : decode cL_areLinksRight 20 = .ok (.iaload, 1) := by decide +kernel
theorem dL_areLinksRight_21 : decode cL_areLinksRight 21 = .ok (.istore 4, 2) := by decide +kernel
theorem dL_areLinksRight_23 : decode cL_areLinksRight 23 = .ok (.aload_n 0, 1) := by decide +kernel
theorem dL_areLinksRight_24 : decode cL_areLinksRight 24 = .ok (.iload 4, 2) := by decide +kernel
theorem dL_areLinksRight_26 : decode cL_areLinksRight 26 = .ok (.invokestatic 118, 3) := by decide +kernel
theorem dL_areLinksRight_29 : decode cL_areLinksRight 29 = .ok (.ifCond .eq 6, 3) := by decide +kernel
theorem dL_areLinksRight_32 : decode cL_areLinksRight 32 = .ok (.goto 227, 3) := by decide +kernel
theorem dL_areLinksRight_35 : decode cL_areLinksRight 35 = .ok (.aload_n 1, 1) := by decide +kernel
theorem dL_areLinksRight_36 : decode cL_areLinksRight 36 = .ok (.iload_n 2, 1) := by decide +kernel
theorem dL_areLinksRight_37 : decode cL_areLinksRight 37 = .ok (.aaload, 1) := by decide +kernel
theorem dL_areLinksRight_38 : decode cL_areLinksRight 38 = .ok (.iconst 2, 1) := by decide +kernel
theorem dL_areLinksRight_39 : decode cL_areLinksRight 39 = .ok (.iaload, 1) := by decide +kernel
theorem dL_areLinksRight_40 : decode cL_areLinksRight 40 = .ok (.iconst 1, 1) := by decide +kernel
theorem dL_areLinksRight_41 : decode cL_areLinksRight 41 = .ok (.if_icmp .ne 11, 3) := by decide +kernel
theorem dL_areLinksRight_44 : decode cL_areLinksRight 44 = .ok (.aload_n 0, 1) := by decide +kernel
theorem dL_areLinksRight_45 : decode cL_areLinksRight 45 = .ok (.iload_n 3, 1) := by decide +kernel
theorem dL_areLinksRight_46 : decode cL_areLinksRight 46 = .ok (.invokevirtual 128, 3) := by decide +kernel
theorem dL_areLinksRight_49 : decode cL_areLinksRight 49 = .ok (.goto 8, 3) := by decide +kernel
theorem dL_areLinksRight_52 : decode cL_areLinksRight 52 = .ok (.aload_n 0, 1) := by decide +kernel
theorem dL_areLinksRight_53 : decode cL_areLinksRight 53 = .ok (.iload_n 3, 1) := by decide +kernel
theorem dL_areLinksRight_54 : decode cL_areLinksRight 54 = .ok (.invokevirtual 143, 3) := by decide +kernel
theorem dL_areLinksRight_57 : decode cL_areLinksRight 57 = .ok (.istore 5, 2) := by decide +kernel
theorem dL_areLinksRight_59 : decode cL_areLinksRight 59 = .ok (.aload_n 0, 1) := by decide +kernel
theorem dL_areLinksRight_60 : decode cL_areLinksRight 60 = .ok (.iload_n 3, 1) := by decide +kernel
theorem dL_areLinksRight_61 : decode cL_areLinksRight 61 = .ok (.invokestatic 118, 3) := by decide +kernel
theorem dL_areLinksRight_64 : decode cL_areLinksRight 64 = .ok (.ifCond .ne 53, 3) := by decide +kernel
theorem dL_areLinksRight_67 : decode cL_areLinksRight 67 = .ok (.aload_n 0, 1) := by decide +kernel
theorem dL_areLinksRight_68 : decode cL_areLinksRight 68 = .ok (.iload_n 3, 1) := by decide +kernel
theorem dL_areLinksRight_69 : decode cL_areLinksRight 69 = .ok (.invokevirtual 128, 3) := by decide +kernel
theorem dL_areLinksRight_72 : decode cL_areLinksRight 72 = .ok (.aload_n 0, 1) := by decide +kernel
theorem dL_areLinksRight_73 : decode cL_areLinksRight 73 = .ok (.iload_n 3, 1) := by decide +kernel
theorem dL_areLinksRight_74 : decode cL_areLinksRight 74 = .ok (.invokevirtual 125, 3) := by decide +kernel
theorem dL_areLinksRight_77 : decode cL_areLinksRight 77 = .ok (.if_icmp .le 40, 3) := by decide +kernel
theorem dL_areLinksRight_80 : decode cL_areLinksRight 80 = .ok (.aload_n 1, 1) := by decide +kernel
theorem dL_areLinksRight_81 : decode cL_areLinksRight 81 = .ok (.iload_n 2, 1) := by decide +kernel
theorem dL_areLinksRight_82 : decode cL_areLinksRight 82 = .ok (.aaload, 1) := by decide +kernel
theorem dL_areLinksRight_83 : decode cL_areLinksRight 83 = .ok (.iconst 2, 1) := by decide +kernel
theorem dL_areLinksRight_84 : decode cL_areLinksRight 84 = .ok (.iaload, 1) := by decide +kernel
theorem dL_areLinksRight_85 : decode cL_areLinksRight 85 = .ok (.iconst 2, 1) := by decide +kernel
theorem dL_areLinksRight_86 : decode cL_areLinksRight 86 = .ok (.if_icmp .ne 12, 3) := by decide +kernel
theorem dL_areLinksRight_89 : decode cL_areLinksRight 89 = .ok (.aload_n 0, 1) := by decide +kernel
theorem dL_areLinksRight_90 : decode cL_areLinksRight 90 = .ok (.iload 4, 2) := by decide +kernel
theorem dL_areLinksRight_92 : decode cL_areLinksRight 92 = .ok (.invokevirtual 143, 3) := by decide +kernel
theorem dL_areLinksRight_95 : decode cL_areLinksRight 95 = .ok (.goto 9, 3) := by decide +kernel
theorem dL_areLinksRight_98 : decode cL_areLinksRight 98 = .ok (.aload_n 0, 1) := by decide +kernel
theorem dL_areLinksRight_99 : decode cL_areLinksRight 99 = .ok (.iload 4, 2) := by decide +kernel
theorem dL_areLinksRight_101 : decode cL_areLinksRight 101 = .ok (.invokevirtual 128, 3) := by decide +kernel
theorem dL_areLinksRight_104 : decode cL_areLinksRight 104 = .ok (.iload 5, 2) := by decide +kernel
theorem dL_areLinksRight_106 : decode cL_areLinksRight 106 = .ok (.aload_n 1, 1) := by decide +kernel
theorem dL_areLinksRight_107 : decode cL_areLinksRight 107 = .ok (.iload_n 2, 1) := by decide +kernel
theorem dL_areLinksRight_108 : decode cL_areLinksRight 108 = .ok (.aaload, 1) := by decide +kernel
theorem dL_areLinksRight_109 : decode cL_areLinksRight 109 = .ok (.iconst 3, 1) := by decide +kernel
theorem dL_areLinksRight_110 : decode cL_areLinksRight 110 = .ok (.iaload, 1) := by decide +kernel
theorem dL_areLinksRight_111 : decode cL_areLinksRight 111 = .ok (.iadd, 1) := by decide +kernel
theorem dL_areLinksRight_112 : decode cL_areLinksRight 112 = .ok (.if_icmp .ge 5, 3) := by decide +kernel
theorem dL_areLinksRight_115 : decode cL_areLinksRight 115 = .ok (.iconst 0, 1) := by decide +kernel
theorem dL_areLinksRight_116 : decode cL_areLinksRight 116 = .ok (.ireturn, 1) := by decide +kernel
theorem dL_areLinksRight_117 : decode cL_areLinksRight 117 = .ok (.aload_n 1, 1) := by decide +kernel
theorem dL_areLinksRight_118 : decode cL_areLinksRight 118 = .ok (.iload_n 2, 1) := by decide +kernel
theorem dL_areLinksRight_119 : decode cL_areLinksRight 119 = .ok (.aaload, 1) := by decide +kernel
theorem dL_areLinksRight_120 : decode cL_areLinksRight 120 = .ok (.iconst 2, 1) := by decide +kernel
theorem dL_areLinksRight_121 : decode cL_areLinksRight 121 = .ok (.iaload, 1) := by decide +kernel
theorem dL_areLinksRight_122 : decode cL_areLinksRight 122 = .ok (.iconst 1, 1) := by decide +kernel
theorem dL_areLinksRight_123 : decode cL_areLinksRight 123 = .ok (.if_icmp .ne 11, 3) := by decide +kernel
theorem dL_areLinksRight_126 : decode cL_areLinksRight 126 = .ok (.aload_n 0, 1) := by decide +kernel
theorem dL_areLinksRight_127 : decode cL_areLinksRight 127 = .ok (.iload_n 3, 1) := by decide +kernel
theorem dL_areLinksRight_128 : decode cL_areLinksRight 128 = .ok (.invokevirtual 125, 3) := by decide +kernel
theorem dL_areLinksRight_131 : decode cL_areLinksRight 131 = .ok (.goto 8, 3) := by decide +kernel
theorem dL_areLinksRight_134 : decode cL_areLinksRight 134 = .ok (.aload_n 0, 1) := by decide +kernel
theorem dL_areLinksRight_135 : decode cL_areLinksRight 135 = .ok (.iload_n 3, 1) := by decide +kernel
theorem dL_areLinksRight_136 : decode cL_areLinksRight 136 = .ok (.invokevirtual 122, 3) := by decide +kernel
theorem dL_areLinksRight_139 : decode cL_areLinksRight 139 = .ok (.istore 6, 2) := by decide +kernel
theorem dL_areLinksRight_141 : decode cL_areLinksRight 141 = .ok (.aload_n 1, 1) := by decide +kernel
theorem dL_areLinksRight_142 : decode cL_areLinksRight 142 = .ok (.iload_n 2, 1) := by decide +kernel
theorem dL_areLinksRight_143 : decode cL_areLinksRight 143 = .ok (.aaload, 1) := by decide +kernel
theorem dL_areLinksRight_144 : decode cL_areLinksRight 144 = .ok (.iconst 2, 1) := by decide +kernel
theorem dL_areLinksRight_145 : decode cL_areLinksRight 145 = .ok (.iaload, 1) := by decide +kernel
theorem dL_areLinksRight_146 : decode cL_areLinksRight 146 = .ok (.iconst 2, 1) := by decide +kernel
theorem dL_areLinksRight_147 : decode cL_areLinksRight 147 = .ok (.if_icmp .ne 12, 3) := by decide +kernel
theorem dL_areLinksRight_150 : decode cL_areLinksRight 150 = .ok (.aload_n 0, 1) := by decide +kernel
theorem dL_areLinksRight_151 : decode cL_areLinksRight 151 = .ok (.iload 4, 2) := by decide +kernel
theorem dL_areLinksRight_153 : decode cL_areLinksRight 153 = .ok (.invokevirtual 122, 3) := by decide +kernel
theorem dL_areLinksRight_156 : decode cL_areLinksRight 156 = .ok (.goto 9, 3) := by decide +kernel
theorem dL_areLinksRight_159 : decode cL_areLinksRight 159 = .ok (.aload_n 0, 1) := by decide +kernel
theorem dL_areLinksRight_160 : decode cL_areLinksRight 160 = .ok (.iload 4, 2) := by decide +kernel
theorem dL_areLinksRight_162 : decode cL_areLinksRight 162 = .ok (.invokevirtual 125, 3) := by decide +kernel
theorem dL_areLinksRight_165 : decode cL_areLinksRight 165 = .ok (.iload 6, 2) := by decide +kernel
theorem dL_areLinksRight_167 : decode cL_areLinksRight 167 = .ok (.aload_n 1, 1) := by decide +kernel
theorem dL_areLinksRight_168 : decode cL_areLinksRight 168 = .ok (.iload_n 2, 1) := by decide +kernel
theorem dL_areLinksRight_169 : decode cL_areLinksRight 169 = .ok (.aaload, 1) := by decide +kernel
theorem dL_areLinksRight_170 : decode cL_areLinksRight 170 = .ok (.iconst 3, 1) := by decide +kernel
theorem dL_areLinksRight_171 : decode cL_areLinksRight 171 = .ok (.iaload, 1) := by decide +kernel
theorem dL_areLinksRight_172 : decode cL_areLinksRight 172 = .ok (.iadd, 1) := by decide +kernel
theorem dL_areLinksRight_173 : decode cL_areLinksRight 173 = .ok (.if_icmp .ge 5, 3) := by decide +kernel
theorem dL_areLinksRight_176 : decode cL_areLinksRight 176 = .ok (.iconst 0, 1) := by decide +kernel
theorem dL_areLinksRight_177 : decode cL_areLinksRight 177 = .ok (.ireturn, 1) := by decide +kernel
theorem dL_areLinksRight_178 : decode cL_areLinksRight 178 = .ok (.aload_n 0, 1) := by decide +kernel
theorem dL_areLinksRight_179 : decode cL_areLinksRight 179 = .ok (.iload 4, 2) := by decide +kernel
theorem dL_areLinksRight_181 : decode cL_areLinksRight 181 = .ok (.invokevirtual 115, 3) := by decide +kernel
theorem dL_areLinksRight_184 : decode cL_areLinksRight 184 = .ok (.ifCond .ge 6, 3) := by decide +kernel
theorem dL_areLinksRight_187 : decode cL_areLinksRight 187 = .ok (.goto 72, 3) := by decide +kernel
theorem dL_areLinksRight_190 : decode cL_areLinksRight 190 = .ok (.aload_n 1, 1) := by decide +kernel
theorem dL_areLinksRight_191 : decode cL_areLinksRight 191 = .ok (.iload_n 2, 1) := by decide +kernel
theorem dL_areLinksRight_192 : decode cL_areLinksRight 192 = .ok (.aaload, 1) := by decide +kernel
theorem dL_areLinksRight_193 : decode cL_areLinksRight 193 = .ok (.iconst 2, 1) := by decide +kernel
theorem dL_areLinksRight_194 : decode cL_areLinksRight 194 = .ok (.iaload, 1) := by decide +kernel
theorem dL_areLinksRight_195 : decode cL_areLinksRight 195 = .ok (.iconst 1, 1) := by decide +kernel
theorem dL_areLinksRight_196 : decode cL_areLinksRight 196 = .ok (.if_icmp .ne 11, 3) := by decide +kernel
theorem dL_areLinksRight_199 : decode cL_areLinksRight 199 = .ok (.aload_n 0, 1) := by decide +kernel
theorem dL_areLinksRight_200 : decode cL_areLinksRight 200 = .ok (.iload_n 3, 1) := by decide +kernel
theorem dL_areLinksRight_201 : decode cL_areLinksRight 201 = .ok (.invokevirtual 115, 3) := by decide +kernel
theorem dL_areLinksRight_204 : decode cL_areLinksRight 204 = .ok (.goto 8, 3) := by decide +kernel
theorem dL_areLinksRight_207 : decode cL_areLinksRight 207 = .ok (.aload_n 0, 1) := by decide +kernel
theorem dL_areLinksRight_208 : decode cL_areLinksRight 208 = .ok (.iload_n 3, 1) := by decide +kernel
theorem dL_areLinksRight_209 : decode cL_areLinksRight 209 = .ok (.invokevirtual 137, 3) := by decide +kernel
theorem dL_areLinksRight_212 : decode cL_areLinksRight 212 = .ok (.istore 7, 2) := by decide +kernel
theorem dL_areLinksRight_214 : decode cL_areLinksRight 214 = .ok (.aload_n 0, 1) := by decide +kernel
theorem dL_areLinksRight_215 : decode cL_areLinksRight 215 = .ok (.iload_n 3, 1) := by decide +kernel
theorem dL_areLinksRight_216 : decode cL_areLinksRight 216 = .ok (.invokevirtual 115, 3) := by decide +kernel
theorem dL_areLinksRight_219 : decode cL_areLinksRight 219 = .ok (.ifCond .lt 38, 3) := by decide +kernel
theorem dL_areLinksRight_222 : decode cL_areLinksRight 222 = .ok (.aload_n 1, 1) := by decide +kernel
theorem dL_areLinksRight_223 : decode cL_areLinksRight 223 = .ok (.iload_n 2, 1) := by decide +kernel
theorem dL_areLinksRight_224 : decode cL_areLinksRight 224 = .ok (.aaload, 1) := by decide +kernel
theorem dL_areLinksRight_225 : decode cL_areLinksRight 225 = .ok (.iconst 2, 1) := by decide +kernel
theorem dL_areLinksRight_226 : decode cL_areLinksRight 226 = .ok (.iaload, 1) := by decide +kernel
theorem dL_areLinksRight_227 : decode cL_areLinksRight 227 = .ok (.iconst 2, 1) := by decide +kernel
theorem dL_areLinksRight_228 : decode cL_areLinksRight 228 = .ok (.if_icmp .ne 12, 3) := by decide +kernel
theorem dL_areLinksRight_231 : decode cL_areLinksRight 231 = .ok (.aload_n 0, 1) := by decide +kernel
theorem dL_areLinksRight_232 : decode cL_areLinksRight 232 = .ok (.iload 4, 2) := by decide +kernel
theorem dL_areLinksRight_234 : decode cL_areLinksRight 234 = .ok (.invokevirtual 137, 3) := by decide +kernel
theorem dL_areLinksRight_237 : decode cL_areLinksRight 237 = .ok (.goto 9, 3) := by decide +kernel
theorem dL_areLinksRight_240 : decode cL_areLinksRight 240 = .ok (.aload_n 0, 1) := by decide +kernel
theorem dL_areLinksRight_241 : decode cL_areLinksRight 241 = .ok (.iload 4, 2) := by decide +kernel
theorem dL_areLinksRight_243 : decode cL_areLinksRight 243 = .ok (.invokevirtual 115, 3) := by decide +kernel
theorem dL_areLinksRight_246 : decode cL_areLinksRight 246 = .ok (.iload 7, 2) := by decide +kernel
theorem dL_areLinksRight_248 : decode cL_areLinksRight 248 = .ok (.aload_n 1, 1) := by decide +kernel
theorem dL_areLinksRight_249 : decode cL_areLinksRight 249 = .ok (.iload_n 2, 1) := by decide +kernel
theorem dL_areLinksRight_250 : decode cL_areLinksRight 250 = .ok (.aaload, 1) := by decide +kernel
theorem dL_areLinksRight_251 : decode cL_areLinksRight 251 = .ok (.iconst 3, 1) := by decide +kernel
theorem dL_areLinksRight_252 : decode cL_areLinksRight 252 = .ok (.iaload, 1) := by decide +kernel
theorem dL_areLinksRight_253 : decode cL_areLinksRight 253 = .ok (.iadd, 1) := by decide +kernel
theorem dL_areLinksRight_254 : decode cL_areLinksRight 254 = .ok (.if_icmp .ge 5, 3) := by decide +kernel
theorem dL_areLinksRight_257 : decode cL_areLinksRight 257 = .ok (.iconst 0, 1) := by decide +kernel
theorem dL_areLinksRight_258 : decode cL_areLinksRight 258 = .ok (.ireturn, 1) := by decide +kernel
theorem dL_areLinksRight_259 : decode cL_areLinksRight 259 = .ok (.iinc 2 1, 3) := by decide +kernel
theorem dL_areLinksRight_262 : decode cL_areLinksRight 262 = .ok (.goto (-260), 3) := by decide +kernel
theorem dL_areLinksRight_265 : decode cL_areLinksRight 265 = .ok (.iconst 1, 1) := by decide +kernel
theorem dL_areLinksRight_266 : decode cL_areLinksRight 266 = .ok (.ireturn, 1) := by decide +kernel
theorem dL_areCrewsRight_0 : decode cL_areCrewsRight 0 = .ok (.iconst 0, 1) := by decide +kernel
theorem dL_areCrewsRight_1 : decode cL_areCrewsRight 1 = .ok (.istore_n 2, 1) := by decide +kernel
theorem dL_areCrewsRight_2 : decode cL_areCrewsRight 2 = .ok (.iconst 0, 1) := by decide +kernel
theorem dL_areCrewsRight_3 : decode cL_areCrewsRight 3 = .ok (.istore_n 3, 1) := by decide +kernel
theorem dL_areCrewsRight_4 : decode cL_areCrewsRight 4 = .ok (.iload_n 3, 1) := by decide +kernel
theorem dL_areCrewsRight_5 : decode cL_areCrewsRight 5 = .ok (.aload_n 0, 1) := by decide +kernel
theorem dL_areCrewsRight_6 : decode cL_areCrewsRight 6 = .ok (.invokevirtual 39, 3) := by decide +kernel
theorem dL_areCrewsRight_9 : decode cL_areCrewsRight 9 = .ok (.if_icmp .ge 17, 3) := by decide +kernel
theorem dL_areCrewsRight_12 : decode cL_areCrewsRight 12 = .ok (.iload_n 2, 1) := by decide +kernel
theorem dL_areCrewsRight_13 : decode cL_areCrewsRight 13 = .ok (.aload_n 0, 1) := by decide +kernel
theorem dL_areCrewsRight_14 : decode cL_areCrewsRight 14 = .ok (.iload_n 3, 1) := by decide +kernel
theorem dL_areCrewsRight_15 : decode cL_areCrewsRight 15 = .ok (.invokestatic 118, 3) := by decide +kernel
theorem dL_areCrewsRight_18 : decode cL_areCrewsRight 18 = .ok (.ior, 1) := by decide +kernel
theorem dL_areCrewsRight_19 : decode cL_areCrewsRight 19 = .ok (.istore_n 2, 1) := by decide +kernel
theorem dL_areCrewsRight_20 : decode cL_areCrewsRight 20 = .ok (.iinc 3 1, 3) := by decide +kernel
theorem dL_areCrewsRight_23 : decode cL_areCrewsRight 23 = .ok (.goto (-19), 3) := by decide +kernel
theorem dL_areCrewsRight_26 : decode cL_areCrewsRight 26 = .ok (.iconst 0, 1) := by decide +kernel
theorem dL_areCrewsRight_27 : decode cL_areCrewsRight 27 = .ok (.istore_n 3, 1) := by decide +kernel
theorem dL_areCrewsRight_28 : decode cL_areCrewsRight 28 = .ok (.iload_n 3, 1) := by decide +kernel
theorem dL_areCrewsRight_29 : decode cL_areCrewsRight 29 = .ok (.iconst 3, 1) := by decide +kernel
theorem dL_areCrewsRight_30 : decode cL_areCrewsRight 30 = .ok (.if_icmp .ge 112, 3) := by decide +kernel
theorem dL_areCrewsRight_33 : decode cL_areCrewsRight 33 = .ok (.iconst 0, 1) := by decide +kernel
theorem dL_areCrewsRight_34 : decode cL_areCrewsRight 34 = .ok (.istore 4, 2) := by decide +kernel
theorem dL_areCrewsRight_36 : decode cL_areCrewsRight 36 = .ok (.iconst 0, 1) := by decide +kernel
theorem dL_areCrewsRight_37 : decode cL_areCrewsRight 37 = .ok (.istore 5, 2) := by decide +kernel
theorem dL_areCrewsRight_39 : decode cL_areCrewsRight 39 = .ok (.iload 5, 2) := by decide +kernel
theorem dL_areCrewsRight_41 : decode cL_areCrewsRight 41 = .ok (.bipush 40, 2) := by decide +kernel
theorem dL_areCrewsRight_43 : decode cL_areCrewsRight 43 = .ok (.aload_n 0, 1) := by decide +kernel
theorem dL_areCrewsRight_44 : decode cL_areCrewsRight 44 = .ok (.invokevirtual 140, 3) := by decide +kernel
theorem dL_areCrewsRight_47 : decode cL_areCrewsRight 47 = .ok (.invokestatic 160, 3) := by decide +kernel
theorem dL_areCrewsRight_50 : decode cL_areCrewsRight 50 = .ok (.if_icmp .ge 23, 3) := by decide +kernel
theorem dL_areCrewsRight_53 : decode cL_areCrewsRight 53 = .ok (.iload 4, 2) := by decide +kernel
theorem dL_areCrewsRight_55 : decode cL_areCrewsRight 55 = .ok (.aload_n 0, 1) := by decide +kernel
theorem dL_areCrewsRight_56 : decode cL_areCrewsRight 56 = .ok (.iload_n 3, 1) := by decide +kernel
theorem dL_areCrewsRight_57 : decode cL_areCrewsRight 57 = .ok (.iload 5, 2) := by decide +kernel
theorem dL_areCrewsRight_59 : decode cL_areCrewsRight 59 = .ok (.invokevirtual 163, 3) := by decide +kernel
theorem dL_areCrewsRight_62 : decode cL_areCrewsRight 62 = .ok (.invokestatic 43, 3) := by decide +kernel
theorem dL_areCrewsRight_65 : decode cL_areCrewsRight 65 = .ok (.istore 4, 2) := by decide +kernel
theorem dL_areCrewsRight_67 : decode cL_areCrewsRight 67 = .ok (.iinc 5 1, 3) := by decide +kernel
theorem dL_areCrewsRight_70 : decode cL_areCrewsRight 70 = .ok (.goto (-31), 3) := by decide +kernel
theorem dL_areCrewsRight_73 : decode cL_areCrewsRight 73 = .ok (.iload 4, 2) := by decide +kernel
theorem dL_areCrewsRight_75 : decode cL_areCrewsRight 75 = .ok (.aload_n 0, 1) := by decide +kernel
theorem dL_areCrewsRight_76 : decode cL_areCrewsRight 76 = .ok (.iload_n 3, 1) := by decide +kernel
theorem dL_areCrewsRight_77 : decode cL_areCrewsRight 77 = .ok (.invokevirtual 166, 3) := by decide +kernel
theorem dL_areCrewsRight_80 : decode cL_areCrewsRight 80 = .ok (.if_icmp .gt 54, 3) := by decide +kernel
theorem dL_areCrewsRight_83 : decode cL_areCrewsRight 83 = .ok (.iload_n 2, 1) := by decide +kernel
theorem dL_areCrewsRight_84 : decode cL_areCrewsRight 84 = .ok (.ifCond .ne 14, 3) := by decide +kernel
theorem dL_areCrewsRight_87 : decode cL_areCrewsRight 87 = .ok (.aload_n 0, 1) := by decide +kernel
theorem dL_areCrewsRight_88 : decode cL_areCrewsRight 88 = .ok (.iload_n 3, 1) := by decide +kernel
theorem dL_areCrewsRight_89 : decode cL_areCrewsRight 89 = .ok (.invokevirtual 166, 3) := by decide +kernel
theorem dL_areCrewsRight_92 : decode cL_areCrewsRight 92 = .ok (.aload_n 1, 1) := by decide +kernel
theorem dL_areCrewsRight_93 : decode cL_areCrewsRight 93 = .ok (.iload_n 3, 1) := by decide +kernel
theorem dL_areCrewsRight_94 : decode cL_areCrewsRight 94 = .ok (.iaload, 1) := by decide +kernel
theorem dL_areCrewsRight_95 : decode cL_areCrewsRight 95 = .ok (.if_icmp .gt 39, 3) := by decide +kernel
theorem dL_areCrewsRight_98 : decode cL_areCrewsRight 98 = .ok (.aload_n 0, 1) := by decide +kernel
theorem dL_areCrewsRight_99 : decode cL_areCrewsRight 99 = .ok (.iload_n 3, 1) := by decide +kernel
theorem dL_areCrewsRight_100 : decode cL_areCrewsRight 100 = .ok (.invokevirtual 169, 3) := by decide +kernel
theorem dL_areCrewsRight_103 : decode cL_areCrewsRight 103 = .ok (.ifCond .lt 31, 3) := by decide +kernel
theorem dL_areCrewsRight_106 : decode cL_areCrewsRight 106 = .ok (.aload_n 0, 1) := by decide +kernel
theorem dL_areCrewsRight_107 : decode cL_areCrewsRight 107 = .ok (.iload_n 3, 1) := by decide +kernel
theorem dL_areCrewsRight_108 : decode cL_areCrewsRight 108 = .ok (.invokevirtual 169, 3) := by decide +kernel
theorem dL_areCrewsRight_111 : decode cL_areCrewsRight 111 = .ok (.aload_n 1, 1) := by decide +kernel
theorem dL_areCrewsRight_112 : decode cL_areCrewsRight 112 = .ok (.iload_n 3, 1) := by decide +kernel
theorem dL_areCrewsRight_113 : decode cL_areCrewsRight 113 = .ok (.iaload, 1) := by decide +kernel
theorem dL_areCrewsRight_114 : decode cL_areCrewsRight 114 = .ok (.aload_n 0, 1) := by decide +kernel
theorem dL_areCrewsRight_115 : decode cL_areCrewsRight 115 = .ok (.invokevirtual 140, 3) := by decide +kernel
theorem dL_areCrewsRight_118 : decode cL_areCrewsRight 118 = .ok (.imul, 1) := by decide +kernel
theorem dL_areCrewsRight_119 : decode cL_areCrewsRight 119 = .ok (.if_icmp .gt 15, 3) := by decide +kernel
theorem dL_areCrewsRight_122 : decode cL_areCrewsRight 122 = .ok (.aload_n 0, 1) := by decide +kernel
theorem dL_areCrewsRight_123 : decode cL_areCrewsRight 123 = .ok (.iload_n 3, 1) := by decide +kernel
theorem dL_areCrewsRight_124 : decode cL_areCrewsRight 124 = .ok (.invokevirtual 172, 3) := by decide +kernel
theorem dL_areCrewsRight_127 : decode cL_areCrewsRight 127 = .ok (.aload_n 0, 1) := by decide +kernel
theorem dL_areCrewsRight_128 : decode cL_areCrewsRight 128 = .ok (.invokevirtual 131, 3) := by decide +kernel
theorem dL_areCrewsRight_131 : decode cL_areCrewsRight 131 = .ok (.if_icmp .le 5, 3) := by decide +kernel
theorem dL_areCrewsRight_134 : decode cL_areCrewsRight 134 = .ok (.iconst 0, 1) := by decide +kernel
theorem dL_areCrewsRight_135 : decode cL_areCrewsRight 135 = .ok (.ireturn, 1) := by decide +kernel
theorem dL_areCrewsRight_136 : decode cL_areCrewsRight 136 = .ok (.iinc 3 1, 3) := by decide +kernel
theorem dL_areCrewsRight_139 : decode cL_areCrewsRight 139 = .ok (.goto (-111), 3) := by decide +kernel
theorem dL_areCrewsRight_142 : decode cL_areCrewsRight 142 = .ok (.iconst 1, 1) := by decide +kernel
theorem dL_areCrewsRight_143 : decode cL_areCrewsRight 143 = .ok (.ireturn, 1) := by decide +kernel
