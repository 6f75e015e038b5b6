theorem dL_isBill_135 : decode cL_isBill 135 = .ok (.iload 4, 2) := by decide +kernel
theorem dL_isBill_137 : decode cL_isBill 137 = .ok (.if_icmp .ne 43, 3) := by decide +kernel
theorem dL_isBill_140 : decode cL_isBill 140 = .ok (.aload_n 0, 1) := by decide +kernel
theorem dL_isBill_141 : decode cL_isBill 141 = .ok (.iload_n 1, 1) := by decide +kernel
theorem dL_isBill_142 : decode cL_isBill 142 = .ok (.invokevirtual 260, 3) := by decide +kernel
theorem dL_isBill_145 : decode cL_isBill 145 = .ok (.iload 7, 2) := by decide +kernel
theorem dL_isBill_147 : decode cL_isBill 147 = .ok (.if_icmp .ne 33, 3) := by decide +kernel
theorem dL_isBill_150 : decode cL_isBill 150 = .ok (.aload_n 0, 1) := by decide +kernel
theorem dL_isBill_151 : decode cL_isBill 151 = .ok (.iload_n 1, 1) := by decide +kernel
theorem dL_isBill_152 : decode cL_isBill 152 = .ok (.invokestatic 263, 3) := by decide +kernel
theorem dL_isBill_155 : decode cL_isBill 155 = .ok (.iload 9, 2) := by decide +kernel
theorem dL_isBill_157 : decode cL_isBill 157 = .ok (.if_icmp .ne 23, 3) := by decide +kernel
theorem dL_isBill_160 : decode cL_isBill 160 = .ok (.aload_n 0, 1) := by decide +kernel
theorem dL_isBill_161 : decode cL_isBill 161 = .ok (.iload_n 1, 1) := by decide +kernel
theorem dL_isBill_162 : decode cL_isBill 162 = .ok (.invokevirtual 265, 3) := by decide +kernel
theorem dL_isBill_165 : decode cL_isBill 165 = .ok (.aload_n 0, 1) := by decide +kernel
theorem dL_isBill_166 : decode cL_isBill 166 = .ok (.iload_n 1, 1) := by decide +kernel
theorem dL_isBill_167 : decode cL_isBill 167 = .ok (.invokevirtual 197, 3) := by decide +kernel
theorem dL_isBill_170 : decode cL_isBill 170 = .ok (.bipush 60, 2) := by decide +kernel
theorem dL_isBill_172 : decode cL_isBill 172 = .ok (.idiv, 1) := by decide +kernel
theorem dL_isBill_173 : decode cL_isBill 173 = .ok (.if_icmp .ne 7, 3) := by decide +kernel
theorem dL_isBill_176 : decode cL_isBill 176 = .ok (.iconst 1, 1) := by decide +kernel
theorem dL_isBill_177 : decode cL_isBill 177 = .ok (.goto 4, 3) := by decide +kernel
theorem dL_isBill_180 : decode cL_isBill 180 = .ok (.iconst 0, 1) := by decide +kernel
theorem dL_isBill_181 : decode cL_isBill 181 = .ok (.istore 10, 2) := by decide +kernel
theorem dL_isBill_183 : decode cL_isBill 183 = .ok (.iload 10, 2) := by decide +kernel
theorem dL_isBill_185 : decode cL_isBill 185 = .ok (.ifCond .eq 71, 3) := by decide +kernel
theorem dL_isBill_188 : decode cL_isBill 188 = .ok (.iload 6, 2) := by decide +kernel
theorem dL_isBill_190 : decode cL_isBill 190 = .ok (.ifCond .eq 24, 3) := by decide +kernel
theorem dL_isBill_193 : decode cL_isBill 193 = .ok (.aload_n 0, 1) := by decide +kernel
theorem dL_isBill_194 : decode cL_isBill 194 = .ok (.iload_n 1, 1) := by decide +kernel
theorem dL_isBill_195 : decode cL_isBill 195 = .ok (.invokevirtual 265, 3) := by decide +kernel
theorem dL_isBill_198 : decode cL_isBill 198 = .ok (.iconst 3, 1) := by decide +kernel
theorem dL_isBill_199 : decode cL_isBill 199 = .ok (.if_icmp .ge 57, 3) := by decide +kernel
theorem dL_isBill_202 : decode cL_isBill 202 = .ok (.aload_n 0, 1) := by decide +kernel
theorem dL_isBill_203 : decode cL_isBill 203 = .ok (.iload_n 1, 1) := by decide +kernel
theorem dL_isBill_204 : decode cL_isBill 204 = .ok (.invokevirtual 194, 3) := by decide +kernel
theorem dL_isBill_207 : decode cL_isBill 207 = .ok (.iconst 3, 1) := by decide +kernel
theorem dL_isBill_208 : decode cL_isBill 208 = .ok (.if_icmp .ge 48, 3) := by decide +kernel
theorem dL_isBill_211 : decode cL_isBill 211 = .ok (.goto 19, 3) := by decide +kernel
theorem dL_isBill_214 : decode cL_isBill 214 = .ok (.iload 7, 2) := by decide +kernel
theorem dL_isBill_216 : decode cL_isBill 216 = .ok (.iload 8, 2) := by decide +kernel
theorem dL_isBill_218 : decode cL_isBill 218 = .ok (.iadd, 1) := by decide +kernel
theorem dL_isBill_219 : decode cL_isBill 219 = .ok (.ifCond .ne 37, 3) := by decide +kernel
theorem dL_isBill_222 : decode cL_isBill 222 = .ok (.aload_n 0, 1) := by decide +kernel
theorem dL_isBill_223 : decode cL_isBill 223 = .ok (.iload_n 1, 1) := by decide +kernel
theorem dL_isBill_224 : decode cL_isBill 224 = .ok (.invokevirtual 212, 3) := by decide +kernel
theorem dL_isBill_227 : decode cL_isBill 227 = .ok (.ifCond .ne 29, 3) := by decide +kernel
theorem dL_isBill_230 : decode cL_isBill 230 = .ok (.aload_n 0, 1) := by decide +kernel
theorem dL_isBill_231 : decode cL_isBill 231 = .ok (.iload_n 1, 1) := by decide +kernel
theorem dL_isBill_232 : decode cL_isBill 232 = .ok (.invokevirtual 203, 3) := by decide +kernel
theorem dL_isBill_235 : decode cL_isBill 235 = .ok (.aload_n 0, 1) := by decide +kernel
theorem dL_isBill_236 : decode cL_isBill 236 = .ok (.iload_n 1, 1) := by decide +kernel
theorem dL_isBill_237 : decode cL_isBill 237 = .ok (.invokevirtual 194, 3) := by decide +kernel
theorem dL_isBill_240 : decode cL_isBill 240 = .ok (.iconst 3, 1) := by decide +kernel
theorem dL_isBill_241 : decode cL_isBill 241 = .ok (.if_icmp .ne 7, 3) := by decide +kernel
theorem dL_isBill_244 : decode cL_isBill 244 = .ok (.iconst 1, 1) := by decide +kernel
theorem dL_isBill_245 : decode cL_isBill 245 = .ok (.goto 4, 3) := by decide +kernel
theorem dL_isBill_248 : decode cL_isBill 248 = .ok (.iconst 0, 1) := by decide +kernel
theorem dL_isBill_249 : decode cL_isBill 249 = .ok (.if_icmp .ne 7, 3) := by decide +kernel
theorem dL_isBill_252 : decode cL_isBill 252 = .ok (.iconst 1, 1) := by decide +kernel
theorem dL_isBill_253 : decode cL_isBill 253 = .ok (.goto 4, 3) := by decide +kernel
theorem dL_isBill_256 : decode cL_isBill 256 = .ok (.iconst 0, 1) := by decide +kernel
theorem dL_isBill_257 : decode cL_isBill 257 = .ok (.istore 10, 2) := by decide +kernel
theorem dL_isBill_259 : decode cL_isBill 259 = .ok (.iload 10, 2) := by decide +kernel
theorem dL_isBill_261 : decode cL_isBill 261 = .ok (.ifCond .eq 58, 3) := by decide +kernel
theorem dL_isBill_264 : decode cL_isBill 264 = .ok (.aload_n 0, 1) := by decide +kernel
theorem dL_isBill_265 : decode cL_isBill 265 = .ok (.iload_n 1, 1) := by decide +kernel
theorem dL_isBill_266 : decode cL_isBill 266 = .ok (.aload_n 0, 1) := by decide +kernel
theorem dL_isBill_267 : decode cL_isBill 267 = .ok (.iload_n 1, 1) := by decide +kernel
theorem dL_isBill_268 : decode cL_isBill 268 = .ok (.invokevirtual 212, 3) := by decide +kernel
theorem dL_isBill_271 : decode cL_isBill 271 = .ok (.invokestatic 268, 3) := by decide +kernel
theorem dL_isBill_274 : decode cL_isBill 274 = .ok (.sipush (-1000), 3) := by decide +kernel
theorem dL_isBill_277 : decode cL_isBill 277 = .ok (.if_icmp .ne 42, 3) := by decide +kernel
theorem dL_isBill_280 : decode cL_isBill 280 = .ok (.aload_n 0, 1) := by decide +kernel
theorem dL_isBill_281 : decode cL_isBill 281 = .ok (.iload_n 1, 1) := by decide +kernel
theorem dL_isBill_282 : decode cL_isBill 282 = .ok (.invokevirtual 212, 3) := by decide +kernel
theorem dL_isBill_285 : decode cL_isBill 285 = .ok (.iconst 4, 1) := by decide +kernel
theorem dL_isBill_286 : decode cL_isBill 286 = .ok (.if_icmp .gt 33, 3) := by decide +kernel
theorem dL_isBill_289 : decode cL_isBill 289 = .ok (.aload_n 0, 1) := by decide +kernel
theorem dL_isBill_290 : decode cL_isBill 290 = .ok (.iload_n 1, 1) := by decide +kernel
theorem dL_isBill_291 : decode cL_isBill 291 = .ok (.invokevirtual 270, 3) := by decide +kernel
theorem dL_isBill_294 : decode cL_isBill 294 = .ok (.iconst 5, 1) := by decide +kernel
theorem dL_isBill_295 : decode cL_isBill 295 = .ok (.aload_n 0, 1) := by decide +kernel
theorem dL_isBill_296 : decode cL_isBill 296 = .ok (.iload_n 1, 1) := by decide +kernel
theorem dL_isBill_297 : decode cL_isBill 297 = .ok (.invokevirtual 265, 3) := by decide +kernel
theorem dL_isBill_300 : decode cL_isBill 300 = .ok (.iadd, 1) := by decide +kernel
theorem dL_isBill_301 : decode cL_isBill 301 = .ok (.iload 6, 2) := by decide +kernel
theorem dL_isBill_303 : decode cL_isBill 303 = .ok (.ifCond .eq 7, 3) := by decide +kernel
theorem dL_isBill_306 : decode cL_isBill 306 = .ok (.iconst 4, 1) := by decide +kernel
theorem dL_isBill_307 : decode cL_isBill 307 = .ok (.goto 4, 3) := by decide +kernel
theorem dL_isBill_310 : decode cL_isBill 310 = .ok (.iconst 0, 1) := by decide +kernel
theorem dL_isBill_311 : decode cL_isBill 311 = .ok (.iadd, 1) := by decide +kernel
theorem dL_isBill_312 : decode cL_isBill 312 = .ok (.if_icmp .lt 7, 3) := by decide +kernel
theorem dL_isBill_315 : decode cL_isBill 315 = .ok (.iconst 1, 1) := by decide +kernel
theorem dL_isBill_316 : decode cL_isBill 316 = .ok (.goto 4, 3) := by decide +kernel
theorem dL_isBill_319 : decode cL_isBill 319 = .ok (.iconst 0, 1) := by decide +kernel
theorem dL_isBill_320 : decode cL_isBill 320 = .ok (.ireturn, 1) := by decide +kernel
theorem dL_areBills_0 : decode cL_areBills 0 = .ok (.iconst 0, 1) := by decide +kernel
theorem dL_areBills_1 : decode cL_areBills 1 = .ok (.istore_n 1, 1) := by decide +kernel
theorem dL_areBills_2 : decode cL_areBills 2 = .ok (.iconst 0, 1) := by decide +kernel
theorem dL_areBills_3 : decode cL_areBills 3 = .ok (.istore_n 2, 1) := by decide +kernel
theorem dL_areBills_4 : decode cL_areBills 4 = .ok (.aload_n 0, 1) := by decide +kernel
theorem dL_areBills_5 : decode cL_areBills 5 = .ok (.aload_n 0, 1) := by decide +kernel
theorem dL_areBills_6 : decode cL_areBills 6 = .ok (.invokevirtual 187, 3) := by decide +kernel
theorem dL_areBills_9 : decode cL_areBills 9 = .ok (.invokestatic 273, 3) := by decide +kernel
theorem dL_areBills_12 : decode cL_areBills 12 = .ok (.sipush (-1000), 3) := by decide +kernel
theorem dL_areBills_15 : decode cL_areBills 15 = .ok (.if_icmp .ne 18, 3) := by decide +kernel
theorem dL_areBills_18 : decode cL_areBills 18 = .ok (.aload_n 0, 1) := by decide +kernel
theorem dL_areBills_19 : decode cL_areBills 19 = .ok (.iconst (-1), 1) := by decide +kernel
theorem dL_areBills_20 : decode cL_areBills 20 = .ok (.invokestatic 273, 3) := by decide +kernel
theorem dL_areBills_23 : decode cL_areBills 23 = .ok (.sipush (-1000), 3) := by decide +kernel
theorem dL_areBills_26 : decode cL_areBills 26 = .ok (.if_icmp .ne 7, 3) := by decide +kernel
theorem dL_areBills_29 : decode cL_areBills 29 = .ok (.iconst 1, 1) := by decide +kernel
theorem dL_areBills_30 : decode cL_areBills 30 = .ok (.goto 4, 3) := by decide +kernel
theorem dL_areBills_33 : decode cL_areBills 33 = .ok (.iconst 0, 1) := by decide +kernel
theorem dL_areBills_34 : decode cL_areBills 34 = .ok (.istore_n 3, 1) := by decide +kernel
theorem dL_areBills_35 : decode cL_areBills 35 = .ok (.iconst 0, 1) := by decide +kernel
theorem dL_areBills_36 : decode cL_areBills 36 = .ok (.istore 4, 2) := by decide +kernel
theorem dL_areBills_38 : decode cL_areBills 38 = .ok (.iload_n 3, 1) := by decide +kernel
theorem dL_areBills_39 : decode cL_areBills 39 = .ok (.ifCond .eq 68, 3) := by decide +kernel
theorem dL_areBills_42 : decode cL_areBills 42 = .ok (.iload 4, 2) := by decide +kernel
theorem dL_areBills_44 : decode cL_areBills 44 = .ok (.aload_n 0, 1) := by decide +kernel
theorem dL_areBills_45 : decode cL_areBills 45 = .ok (.invokevirtual 187, 3) := by decide +kernel
theorem dL_areBills_48 : decode cL_areBills 48 = .ok (.if_icmp .ge 59, 3) := by decide +kernel
theorem dL_areBills_51 : decode cL_areBills 51 = .ok (.iload_n 1, 1) := by decide +kernel
theorem dL_areBills_52 : decode cL_areBills 52 = .ok (.aload_n 0, 1) := by decide +kernel
theorem dL_areBills_53 : decode cL_areBills 53 = .ok (.iload 4, 2) := by decide +kernel
theorem dL_areBills_55 : decode cL_areBills 55 = .ok (.invokevirtual 203, 3) := by decide +kernel
theorem dL_areBills_58 : decode cL_areBills 58 = .ok (.ifCond .eq 7, 3) := by decide +kernel
theorem dL_areBills_61 : decode cL_areBills 61 = .ok (.iconst 1, 1) := by decide +kernel
theorem dL_areBills_62 : decode cL_areBills 62 = .ok (.goto 4, 3) := by decide +kernel
theorem dL_areBills_65 : decode cL_areBills 65 = .ok (.iconst 0, 1) := by decide +kernel
theorem dL_areBills_66 : decode cL_areBills 66 = .ok (.iadd, 1) := by decide +kernel
theorem dL_areBills_67 : decode cL_areBills 67 = .ok (.istore_n 1, 1) := by decide +kernel
theorem dL_areBills_68 : decode cL_areBills 68 = .ok (.iload_n 2, 1) := by decide +kernel
theorem dL_areBills_69 : decode cL_areBills 69 = .ok (.aload_n 0, 1) := by decide +kernel
theorem dL_areBills_70 : decode cL_areBills 70 = .ok (.iload 4, 2) := by decide +kernel
theorem dL_areBills_72 : decode cL_areBills 72 = .ok (.invokevirtual 203, 3) := by decide +kernel
theorem dL_areBills_75 : decode cL_areBills 75 = .ok (.ifCond .ne 16, 3) := by decide +kernel
theorem dL_areBills_78 : decode cL_areBills 78 = .ok (.aload_n 0, 1) := by decide +kernel
theorem dL_areBills_79 : decode cL_areBills 79 = .ok (.iload 4, 2) := by decide +kernel
theorem dL_areBills_81 : decode cL_areBills 81 = .ok (.invokevirtual 200, 3) := by decide +kernel
theorem dL_areBills_84 : decode cL_areBills 84 = .ok (.ifCond .ne 7, 3) := by decide +kernel
theorem dL_areBills_87 : decode cL_areBills 87 = .ok (.iconst 1, 1) := by decide +kernel
theorem dL_areBills_88 : decode cL_areBills 88 = .ok (.goto 4, 3) := by decide +kernel
theorem dL_areBills_91 : decode cL_areBills 91 = .ok (.iconst 0, 1) := by decide +kernel
theorem dL_areBills_92 : decode cL_areBills 92 = .ok (.iadd, 1) := by decide +kernel
theorem dL_areBills_93 : decode cL_areBills 93 = .ok (.istore_n 2, 1) := by decide +kernel
theorem dL_areBills_94 : decode cL_areBills 94 = .ok (.aload_n 0, 1) := by decide +kernel
theorem dL_areBills_95 : decode cL_areBills 95 = .ok (.iload 4, 2) := by decide +kernel
theorem dL_areBills_97 : decode cL_areBills 97 = .ok (.invokestatic 275, 3) := by decide +kernel
theorem dL_areBills_100 : decode cL_areBills 100 = .ok (.istore_n 3, 1) := by decide +kernel
theorem dL_areBills_101 : decode cL_areBills 101 = .ok (.iinc 4 1, 3) := by decide +kernel
theorem dL_areBills_104 : decode cL_areBills 104 = .ok (.goto (-66), 3) := by decide +kernel
theorem dL_areBills_107 : decode cL_areBills 107 = .ok (.iconst 1, 1) := by decide +kernel
theorem dL_areBills_108 : decode cL_areBills 108 = .ok (.istore 4, 2) := by decide +kernel
theorem dL_areBills_110 : decode cL_areBills 110 = .ok (.iload_n 3, 1) := by decide +kernel
theorem dL_areBills_111 : decode cL_areBills 111 = .ok (.ifCond .eq 99, 3) := by decide +kernel
theorem dL_areBills_114 : decode cL_areBills 114 = .ok (.iload 4, 2) := by decide +kernel
theorem dL_areBills_116 : decode cL_areBills 116 = .ok (.aload_n 0, 1) := by decide +kernel
theorem dL_areBills_117 : decode cL_areBills 117 = .ok (.invokevirtual 187, 3) := by decide +kernel
theorem dL_areBills_120 : decode cL_areBills 120 = .ok (.if_icmp .ge 90, 3) := by decide +kernel
theorem dL_areBills_123 : decode cL_areBills 123 = .ok (.aload_n 0, 1) := by decide +kernel
theorem dL_areBills_124 : decode cL_areBills 124 = .ok (.iload 4, 2) := by decide +kernel
theorem dL_areBills_126 : decode cL_areBills 126 = .ok (.iconst 1, 1) := by decide +kernel
theorem dL_areBills_127 : decode cL_areBills 127 = .ok (.isub, 1) := by decide +kernel
theorem dL_areBills_128 : decode cL_areBills 128 = .ok (.invokestatic 273, 3) := by decide +kernel
theorem dL_areBills_131 : decode cL_areBills 131 = .ok (.istore 5, 2) := by decide +kernel
theorem dL_areBills_133 : decode cL_areBills 133 = .ok (.aload_n 0, 1) := by decide +kernel
theorem dL_areBills_134 : decode cL_areBills 134 = .ok (.iload 4, 2) := by decide +kernel
theorem dL_areBills_136 : decode cL_areBills 136 = .ok (.invokestatic 273, 3) := by decide +kernel
theorem dL_areBills_139 : decode cL_areBills 139 = .ok (.istore 6, 2) := by decide +kernel
theorem dL_areBills_141 : decode cL_areBills 141 = .ok (.aload_n 0, 1) := by decide +kernel
theorem dL_areBills_142 : decode cL_areBills 142 = .ok (.iload 5, 2) := by decide +kernel
theorem dL_areBills_144 : decode cL_areBills 144 = .ok (.invokevirtual 194, 3) := by decide +kernel
theorem dL_areBills_147 : decode cL_areBills 147 = .ok (.aload_n 0, 1) := by decide +kernel
theorem dL_areBills_148 : decode cL_areBills 148 = .ok (.iload 6, 2) := by decide +kernel
theorem dL_areBills_150 : decode cL_areBills 150 = .ok (.invokevirtual 194, 3) := by decide +kernel
theorem dL_areBills_153 : decode cL_areBills 153 = .ok (.isub, 1) := by decide +kernel
theorem dL_areBills_154 : decode cL_areBills 154 = .ok (.istore 7, 2) := by decide +kernel
theorem dL_areBills_156 : decode cL_areBills 156 = .ok (.aload_n 0, 1) := by decide +kernel
theorem dL_areBills_157 : decode cL_areBills 157 = .ok (.iload 6, 2) := by decide +kernel
theorem dL_areBills_159 : decode cL_areBills 159 = .ok (.invokevirtual 265, 3) := by decide +kernel
theorem dL_areBills_162 : decode cL_areBills 162 = .ok (.aload_n 0, 1) := by decide +kernel
theorem dL_areBills_163 : decode cL_areBills 163 = .ok (.iload 5, 2) := by decide +kernel
theorem dL_areBills_165 : decode cL_areBills 165 = .ok (.invokevirtual 265, 3) := by decide +kernel
theorem dL_areBills_168 : decode cL_areBills 168 = .ok (.isub, 1) := by decide +kernel
theorem dL_areBills_169 : decode cL_areBills 169 = .ok (.istore 8, 2) := by decide +kernel
theorem dL_areBills_171 : decode cL_areBills 171 = .ok (.iload 7, 2) := by decide +kernel
theorem dL_areBills_173 : decode cL_areBills 173 = .ok (.ifCond .gt 25, 3) := by decide +kernel
theorem dL_areBills_176 : decode cL_areBills 176 = .ok (.iload 7, 2) := by decide +kernel
theorem dL_areBills_178 : decode cL_areBills 178 = .ok (.ifCond .ne 24, 3) := by decide +kernel
theorem dL_areBills_181 : decode cL_areBills 181 = .ok (.iload 8, 2) := by decide +kernel
theorem dL_areBills_183 : decode cL_areBills 183 = .ok (.ifCond .gt 15, 3) := by decide +kernel
theorem dL_areBills_186 : decode cL_areBills 186 = .ok (.iload 8, 2) := by decide +kernel
theorem dL_areBills_188 : decode cL_areBills 188 = .ok (.ifCond .ne 14, 3) := by decide +kernel
theorem dL_areBills_191 : decode cL_areBills 191 = .ok (.iload 5, 2) := by decide +kernel
theorem dL_areBills_193 : decode cL_areBills 193 = .ok (.iload 6, 2) := by decide +kernel
theorem dL_areBills_195 : decode cL_areBills 195 = .ok (.if_icmp .ge 7, 3) := by decide +kernel
theorem dL_areBills_198 : decode cL_areBills 198 = .ok (.iconst 1, 1) := by decide +kernel
theorem dL_areBills_199 : decode cL_areBills 199 = .ok (.goto 4, 3) := by decide +kernel
theorem dL_areBills_202 : decode cL_areBills 202 = .ok (.iconst 0, 1) := by decide +kernel
theorem dL_areBills_203 : decode cL_areBills 203 = .ok (.istore_n 3, 1) := by decide +kernel
theorem dL_areBills_204 : decode cL_areBills 204 = .ok (.iinc 4 1, 3) := by decide +kernel
theorem dL_areBills_207 : decode cL_areBills 207 = .ok (.goto (-97), 3) := by decide +kernel
theorem dL_areBills_210 : decode cL_areBills 210 = .ok (.iload_n 3, 1) := by decide +kernel
theorem dL_areBills_211 : decode cL_areBills 211 = .ok (.ifCond .eq 23, 3) := by decide +kernel
theorem dL_areBills_214 : decode cL_areBills 214 = .ok (.aload_n 0, 1) := by decide +kernel
theorem dL_areBills_215 : decode cL_areBills 215 = .ok (.invokevirtual 279, 3) := by decide +kernel
theorem dL_areBills_218 : decode cL_areBills 218 = .ok (.iload_n 1, 1) := by decide +kernel
theorem dL_areBills_219 : decode cL_areBills 219 = .ok (.if_icmp .ne 15, 3) := by decide +kernel
theorem dL_areBills_222 : decode cL_areBills 222 = .ok (.aload_n 0, 1) := by decide +kernel
theorem dL_areBills_223 : decode cL_areBills 223 = .ok (.invokevirtual 282, 3) := by decide +kernel
theorem dL_areBills_226 : decode cL_areBills 226 = .ok (.iload_n 2, 1) := by decide +kernel
theorem dL_areBills_227 : decode cL_areBills 227 = .ok (.if_icmp .ne 7, 3) := by decide +kernel
theorem dL_areBills_230 : decode cL_areBills 230 = .ok (.iconst 1, 1) := by decide +kernel
theorem dL_areBills_231 : decode cL_areBills 231 = .ok (.goto 4, 3) := by decide +kernel
theorem dL_areBills_234 : decode cL_areBills 234 = .ok (.iconst 0, 1) := by decide +kernel
theorem dL_areBills_235 : decode cL_areBills 235 = .ok (.ireturn, 1) := by decide +kernel
theorem dL_isRidden_0 : decode cL_isRidden 0 = .ok (.iconst 0, 1) := by decide +kernel
theorem dL_isRidden_1 : decode cL_isRidden 1 = .ok (.istore_n 2, 1) := by decide +kernel
theorem dL_isRidden_2 : decode cL_isRidden 2 = .ok (.iload_n 2, 1) := by decide +kernel
theorem dL_isRidden_3 : decode cL_isRidden 3 = .ok (.aload_n 0, 1) := by decide +kernel
theorem dL_isRidden_4 : decode cL_isRidden 4 = .ok (.invokevirtual 176, 3) := by decide +kernel
theorem dL_isRidden_7 : decode cL_isRidden 7 = .ok (.if_icmp .ge 17, 3) := by decide +kernel
theorem dL_isRidden_10 : decode cL_isRidden 10 = .ok (.aload_n 0, 1) := by decide +kernel
theorem dL_isRidden_11 : decode cL_isRidden 11 = .ok (.iload_n 2, 1) := by decide +kernel
theorem dL_isRidden_12 : decode cL_isRidden 12 = .ok (.invokevirtual 215, 3) := by decide +kernel
theorem dL_isRidden_15 : decode cL_isRidden 15 = .ok (.ifCond .ne 9, 3) := by decide +kernel
theorem dL_isRidden_18 : decode cL_isRidden 18 = .ok (.iinc 2 1, 3) := by decide +kernel
theorem dL_isRidden_21 : decode cL_isRidden 21 = .ok (.goto (-19), 3) := by decide +kernel
theorem dL_isRidden_24 : decode cL_isRidden 24 = .ok (.aload_n 0, 1) := by decide +kernel
theorem dL_isRidden_25 : decode cL_isRidden 25 = .ok (.iload_n 1, 1) := by decide +kernel
theorem dL_isRidden_26 : decode cL_isRidden 26 = .ok (.bipush 30, 2) := by decide +kernel
theorem dL_isRidden_28 : decode cL_isRidden 28 = .ok (.invokestatic 285, 3) := by decide +kernel
theorem dL_isRidden_31 : decode cL_isRidden 31 = .ok (.istore_n 3, 1) := by decide +kernel
theorem dL_isRidden_32 : decode cL_isRidden 32 = .ok (.iload_n 3, 1) := by decide +kernel
theorem dL_isRidden_33 : decode cL_isRidden 33 = .ok (.sipush (-1000), 3) := by decide +kernel
theorem dL_isRidden_36 : decode cL_isRidden 36 = .ok (.if_icmp .eq 11, 3) := by decide +kernel
theorem dL_isRidden_39 : decode cL_isRidden 39 = .ok (.iload_n 2, 1) := by decide +kernel
theorem dL_isRidden_40 : decode cL_isRidden 40 = .ok (.aload_n 0, 1) := by decide +kernel
theorem dL_isRidden_41 : decode cL_isRidden 41 = .ok (.invokevirtual 176, 3) := by decide +kernel
theorem dL_isRidden_44 : decode cL_isRidden 44 = .ok (.if_icmp .ne 24, 3) := by decide +kernel
theorem dL_isRidden_47 : decode cL_isRidden 47 = .ok (.iload_n 3, 1) := by decide +kernel
theorem dL_isRidden_48 : decode cL_isRidden 48 = .ok (.sipush (-1000), 3) := by decide +kernel
theorem dL_isRidden_51 : decode cL_isRidden 51 = .ok (.if_icmp .ne 11, 3) := by decide +kernel
theorem dL_isRidden_54 : decode cL_isRidden 54 = .ok (.aload_n 0, 1) := by decide +kernel
theorem dL_isRidden_55 : decode cL_isRidden 55 = .ok (.iload_n 1, 1) := by decide +kernel
theorem dL_isRidden_56 : decode cL_isRidden 56 = .ok (.invokevirtual 200, 3) := by decide +kernel
theorem dL_isRidden_59 : decode cL_isRidden 59 = .ok (.ifCond .ne 7, 3) := by decide +kernel
theorem dL_isRidden_62 : decode cL_isRidden 62 = .ok (.iconst 1, 1) := by decide +kernel
theorem dL_isRidden_63 : decode cL_isRidden 63 = .ok (.goto 4, 3) := by decide +kernel
theorem dL_isRidden_66 : decode cL_isRidden 66 = .ok (.iconst 0, 1) := by decide +kernel
theorem dL_isRidden_67 : decode cL_isRidden 67 = .ok (.ireturn, 1) := by decide +kernel
theorem dL_isRidden_68 : decode cL_isRidden 68 = .ok (.aload_n 0, 1) := by decide +kernel
theorem dL_isRidden_69 : decode cL_isRidden 69 = .ok (.invokestatic 287, 3) := by decide +kernel
theorem dL_isRidden_72 : decode cL_isRidden 72 = .ok (.lstore 4, 2) := by decide +kernel
theorem dL_isRidden_74 : decode cL_isRidden 74 = .ok (.aload_n 0, 1) := by decide +kernel
theorem dL_isRidden_75 : decode cL_isRidden 75 = .ok (.invokevirtual 282, 3) := by decide +kernel
theorem dL_isRidden_78 : decode cL_isRidden 78 = .ok (.istore 6, 2) := by decide +kernel
theorem dL_isRidden_80 : decode cL_isRidden 80 = .ok (.iload_n 3, 1) := by decide +kernel
theorem dL_isRidden_81 : decode cL_isRidden 81 = .ok (.iconst 1, 1) := by decide +kernel
theorem dL_isRidden_82 : decode cL_isRidden 82 = .ok (.if_icmp .lt 13, 3) := by decide +kernel
theorem dL_isRidden_85 : decode cL_isRidden 85 = .ok (.iload_n 3, 1) := by decide +kernel
theorem dL_isRidden_86 : decode cL_isRidden 86 = .ok (.bipush 6, 2) := by decide +kernel
theorem dL_isRidden_88 : decode cL_isRidden 88 = .ok (.if_icmp .gt 7, 3) := by decide +kernel
theorem dL_isRidden_91 : decode cL_isRidden 91 = .ok (.iconst 1, 1) := by decide +kernel
theorem dL_isRidden_92 : decode cL_isRidden 92 = .ok (.goto 4, 3) := by decide +kernel
theorem dL_isRidden_95 : decode cL_isRidden 95 = .ok (.iconst 0, 1) := by decide +kernel
theorem dL_isRidden_96 : decode cL_isRidden 96 = .ok (.istore 7, 2) := by decide +kernel
theorem dL_isRidden_98 : decode cL_isRidden 98 = .ok (.iconst 1, 1) := by decide +kernel
theorem dL_isRidden_99 : decode cL_isRidden 99 = .ok (.istore 8, 2) := by decide +kernel
theorem dL_isRidden_101 : decode cL_isRidden 101 = .ok (.iload 7, 2) := by decide +kernel
theorem dL_isRidden_103 : decode cL_isRidden 103 = .ok (.ifCond .eq 57, 3) := by decide +kernel
theorem dL_isRidden_106 : decode cL_isRidden 106 = .ok (.iload 8, 2) := by decide +kernel
theorem dL_isRidden_108 : decode cL_isRidden 108 = .ok (.iload_n 3, 1) := by decide +kernel
theorem dL_isRidden_109 : decode cL_isRidden 109 = .ok (.if_icmp .gt 51, 3) := by decide +kernel
theorem dL_isRidden_112 : decode cL_isRidden 112 = .ok (.aload_n 0, 1) := by decide +kernel
theorem dL_isRidden_113 : decode cL_isRidden 113 = .ok (.iload_n 2, 1) := by decide +kernel
theorem dL_isRidden_114 : decode cL_isRidden 114 = .ok (.iload_n 1, 1) := by decide +kernel
theorem dL_isRidden_115 : decode cL_isRidden 115 = .ok (.bipush 30, 2) := by decide +kernel
theorem dL_isRidden_117 : decode cL_isRidden 117 = .ok (.invokestatic 141, 3) := by decide +kernel
theorem dL_isRidden_120 : decode cL_isRidden 120 = .ok (.aload_n 0, 1) := by decide +kernel
theorem dL_isRidden_121 : decode cL_isRidden 121 = .ok (.iload_n 1, 1) := by decide +kernel
theorem dL_isRidden_122 : decode cL_isRidden 122 = .ok (.invokevirtual 265, 3) := by decide +kernel
theorem dL_isRidden_125 : decode cL_isRidden 125 = .ok (.if_icmp .ne 26, 3) := by decide +kernel
theorem dL_isRidden_128 : decode cL_isRidden 128 = .ok (.aload_n 0, 1) := by decide +kernel
theorem dL_isRidden_129 : decode cL_isRidden 129 = .ok (.iload_n 1, 1) := by decide +kernel
theorem dL_isRidden_130 : decode cL_isRidden 130 = .ok (.invokevirtual 200, 3) := by decide +kernel
theorem dL_isRidden_133 : decode cL_isRidden 133 = .ok (.iload 8, 2) := by decide +kernel
theorem dL_isRidden_135 : decode cL_isRidden 135 = .ok (.iload_n 3, 1) := by decide +kernel
theorem dL_isRidden_136 : decode cL_isRidden 136 = .ok (.if_icmp .ge 7, 3) := by decide +kernel
theorem dL_isRidden_139 : decode cL_isRidden 139 = .ok (.iconst 1, 1) := by decide +kernel
theorem dL_isRidden_140 : decode cL_isRidden 140 = .ok (.goto 4, 3) := by decide +kernel
theorem dL_isRidden_143 : decode cL_isRidden 143 = .ok (.iconst 0, 1) := by decide +kernel
theorem dL_isRidden_144 : decode cL_isRidden 144 = .ok (.if_icmp .ne 7, 3) := by decide +kernel
theorem dL_isRidden_147 : decode cL_isRidden 147 = .ok (.iconst 1, 1) := by decide +kernel
theorem dL_isRidden_148 : decode cL_isRidden 148 = .ok (.goto 4, 3) := by decide +kernel
theorem dL_isRidden_151 : decode cL_isRidden 151 = .ok (.iconst 0, 1) := by decide +kernel
theorem dL_isRidden_152 : decode cL_isRidden 152 = .ok (.istore 7, 2) := by decide +kernel
theorem dL_isRidden_154 : decode cL_isRidden 154 = .ok (.iinc 8 1, 3) := by decide +kernel
theorem dL_isRidden_157 : decode cL_isRidden 157 = .ok (.goto (-56), 3) := by decide +kernel
theorem dL_isRidden_160 : decode cL_isRidden 160 = .ok (.iload 7, 2) := by decide +kernel
theorem dL_isRidden_162 : decode cL_isRidden 162 = .ok (.ifCond .eq 34, 3) := by decide +kernel
theorem dL_isRidden_165 : decode cL_isRidden 165 = .ok (.aload_n 0, 1) := by decide +kernel
theorem dL_isRidden_166 : decode cL_isRidden 166 = .ok (.invokevirtual 282, 3) := by decide +kernel
theorem dL_isRidden_169 : decode cL_isRidden 169 = .ok (.iload 6, 2) := by decide +kernel
theorem dL_isRidden_171 : decode cL_isRidden 171 = .ok (.iconst 1, 1) := by decide +kernel
theorem dL_isRidden_172 : decode cL_isRidden 172 = .ok (.iadd, 1) := by decide +kernel
theorem dL_isRidden_173 : decode cL_isRidden 173 = .ok (.if_icmp .ne 23, 3) := by decide +kernel
theorem dL_isRidden_176 : decode cL_isRidden 176 = .ok (.aload_n 0, 1) := by decide +kernel
theorem dL_isRidden_177 : decode cL_isRidden 177 = .ok (.iload_n 1, 1) := by decide +kernel
theorem dL_isRidden_178 : decode cL_isRidden 178 = .ok (.invokevirtual 265, 3) := by decide +kernel
theorem dL_isRidden_181 : decode cL_isRidden 181 = .ok (.iconst 3, 1) := by decide +kernel
theorem dL_isRidden_182 : decode cL_isRidden 182 = .ok (.if_icmp .lt 14, 3) := by decide +kernel
theorem dL_isRidden_185 : decode cL_isRidden 185 = .ok (.aload_n 0, 1) := by decide +kernel
theorem dL_isRidden_186 : decode cL_isRidden 186 = .ok (.invokestatic 291, 3) := by decide +kernel
theorem dL_isRidden_189 : decode cL_isRidden 189 = .ok (.ifCond .eq 7, 3) := by decide +kernel
theorem dL_isRidden_192 : decode cL_isRidden 192 = .ok (.iconst 1, 1) := by decide +kernel
theorem dL_isRidden_193 : decode cL_isRidden 193 = .ok (.goto 4, 3) := by decide +kernel
theorem dL_isRidden_196 : decode cL_isRidden 196 = .ok (.iconst 0, 1) := by decide +kernel
theorem dL_isRidden_197 : decode cL_isRidden 197 = .ok (.istore 7, 2) := by decide +kernel
theorem dL_isRidden_199 : decode cL_isRidden 199 = .ok (.iconst 0, 1) := by decide +kernel
theorem dL_isRidden_200 : decode cL_isRidden 200 = .ok (.istore 8, 2) := by decide +kernel
theorem dL_isRidden_202 : decode cL_isRidden 202 = .ok (.iload 8, 2) := by decide +kernel
theorem dL_isRidden_204 : decode cL_isRidden 204 = .ok (.iload_n 3, 1) := by decide +kernel
theorem dL_isRidden_205 : decode cL_isRidden 205 = .ok (.if_icmp .ge 28, 3) := by decide +kernel
theorem dL_isRidden_208 : decode cL_isRidden 208 = .ok (.iload 7, 2) := by decide +kernel
theorem dL_isRidden_210 : decode cL_isRidden 210 = .ok (.ifCond .eq 14, 3) := by decide +kernel
theorem dL_isRidden_213 : decode cL_isRidden 213 = .ok (.aload_n 0, 1) := by decide +kernel
theorem dL_isRidden_214 : decode cL_isRidden 214 = .ok (.invokestatic 159, 3) := by decide +kernel
theorem dL_isRidden_217 : decode cL_isRidden 217 = .ok (.ifCond .lt 7, 3) := by decide +kernel
theorem dL_isRidden_220 : decode cL_isRidden 220 = .ok (.iconst 1, 1) := by decide +kernel
theorem dL_isRidden_221 : decode cL_isRidden 221 = .ok (.goto 4, 3) := by decide +kernel
theorem dL_isRidden_224 : decode cL_isRidden 224 = .ok (.iconst 0, 1) := by decide +kernel
theorem dL_isRidden_225 : decode cL_isRidden 225 = .ok (.istore 7, 2) := by decide +kernel
theorem dL_isRidden_227 : decode cL_isRidden 227 = .ok (.iinc 8 1, 3) := by decide +kernel
theorem dL_isRidden_230 : decode cL_isRidden 230 = .ok (.goto (-28), 3) := by decide +kernel
theorem dL_isRidden_233 : decode cL_isRidden 233 = .ok (.iload 7, 2) := by decide +kernel
theorem dL_isRidden_235 : decode cL_isRidden 235 = .ok (.ifCond .eq 17, 3) := by decide +kernel
theorem dL_isRidden_238 : decode cL_isRidden 238 = .ok (.aload_n 0, 1) := by decide +kernel
theorem dL_isRidden_239 : decode cL_isRidden 239 = .ok (.invokestatic 287, 3) := by decide +kernel
theorem dL_isRidden_242 : decode cL_isRidden 242 = .ok (.lload 4, 2) := by decide +kernel
theorem dL_isRidden_244 : decode cL_isRidden 244 = .ok (.lcmp, 1) := by decide +kernel
theorem dL_isRidden_245 : decode cL_isRidden 245 = .ok (.ifCond .ne 7, 3) := by decide +kernel
theorem dL_isRidden_248 : decode cL_isRidden 248 = .ok (.iconst 1, 1) := by decide +kernel
theorem dL_isRidden_249 : decode cL_isRidden 249 = .ok (.goto 4, 3) := by decide +kernel
theorem dL_isRidden_252 : decode cL_isRidden 252 = .ok (.iconst 0, 1) := by decide +kernel
theorem dL_isRidden_253 : decode cL_isRidden 253 = .ok (.ireturn, 1) := by decide +kernel
theorem dL_isDecided_0 : decode cL_isDecided 0 = .ok (.aload_n 0, 1) := by decide +kernel
theorem dL_isDecided_1 : decode cL_isDecided 1 = .ok (.invokestatic 287, 3) := by decide +kernel
theorem dL_isDecided_4 : decode cL_isDecided 4 = .ok (.lstore_n 2, 1) := by decide +kernel
theorem dL_isDecided_5 : decode cL_isDecided 5 = .ok (.aload_n 0, 1) := by decide +kernel
theorem dL_isDecided_6 : decode cL_isDecided 6 = .ok (.iload_n 1, 1) := by decide +kernel
theorem dL_isDecided_7 : decode cL_isDecided 7 = .ok (.invokevirtual 212, 3) := by decide +kernel
theorem dL_isDecided_10 : decode cL_isDecided 10 = .ok (.istore 4, 2) := by decide +kernel
theorem dL_isDecided_12 : decode cL_isDecided 12 = .ok (.iconst 0, 1) := by decide +kernel
theorem dL_isDecided_13 : decode cL_isDecided 13 = .ok (.istore 5, 2) := by decide +kernel
theorem dL_isDecided_15 : decode cL_isDecided 15 = .ok (.iconst 0, 1) := by decide +kernel
theorem dL_isDecided_16 : decode cL_isDecided 16 = .ok (.istore 6, 2) := by decide +kernel
theorem dL_isDecided_18 : decode cL_isDecided 18 = .ok (.iconst 1, 1) := by decide +kernel
theorem dL_isDecided_19 : decode cL_isDecided 19 = .ok (.istore 7, 2) := by decide +kernel
theorem dL_isDecided_21 : decode cL_isDecided 21 = .ok (.iconst 0, 1) := by decide +kernel
theorem dL_isDecided_22 : decode cL_isDecided 22 = .ok (.istore 8, 2) := by decide +kernel
theorem dL_isDecided_24 : decode cL_isDecided 24 = .ok (.iload 8, 2) := by decide +kernel
theorem dL_isDecided_26 : decode cL_isDecided 26 = .ok (.iconst 4, 1) := by decide +kernel
theorem dL_isDecided_27 : decode cL_isDecided 27 = .ok (.if_icmp .ge 20, 3) := by decide +kernel
theorem dL_isDecided_30 : decode cL_isDecided 30 = .ok (.iload 6, 2) := by decide +kernel
theorem dL_isDecided_32 : decode cL_isDecided 32 = .ok (.aload_n 0, 1) := by decide +kernel
theorem dL_isDecided_33 : decode cL_isDecided 33 = .ok (.iload 8, 2) := by decide +kernel
theorem dL_isDecided_35 : decode cL_isDecided 35 = .ok (.invokevirtual 218, 3) := by decide +kernel
theorem dL_isDecided_38 : decode cL_isDecided 38 = .ok (.iadd, 1) := by decide +kernel
theorem dL_isDecided_39 : decode cL_isDecided 39 = .ok (.istore 6, 2) := by decide +kernel
theorem dL_isDecided_41 : decode cL_isDecided 41 = .ok (.iinc 8 1, 3) := by decide +kernel
theorem dL_isDecided_44 : decode cL_isDecided 44 = .ok (.goto (-20), 3) := by decide +kernel
theorem dL_isDecided_47 : decode cL_isDecided 47 = .ok (.iload 7, 2) := by decide +kernel
theorem dL_isDecided_49 : decode cL_isDecided 49 = .ok (.ifCond .eq 151, 3) := by decide +kernel
theorem dL_isDecided_52 : decode cL_isDecided 52 = .ok (.iload 5, 2) := by decide +kernel
theorem dL_isDecided_54 : decode cL_isDecided 54 = .ok (.iload 4, 2) := by decide +kernel
theorem dL_isDecided_56 : decode cL_isDecided 56 = .ok (.if_icmp .ge 144, 3) := by decide +kernel
theorem dL_isDecided_59 : decode cL_isDecided 59 = .ok (.aload_n 0, 1) := by decide +kernel
theorem dL_isDecided_60 : decode cL_isDecided 60 = .ok (.iload_n 1, 1) := by decide +kernel
theorem dL_isDecided_61 : decode cL_isDecided 61 = .ok (.invokevirtual 200, 3) := by decide +kernel
theorem dL_isDecided_64 : decode cL_isDecided 64 = .ok (.ifCond .eq 136, 3) := by decide +kernel
theorem dL_isDecided_67 : decode cL_isDecided 67 = .ok (.aload_n 0, 1) := by decide +kernel
theorem dL_isDecided_68 : decode cL_isDecided 68 = .ok (.invokevirtual 224, 3) := by decide +kernel
theorem dL_isDecided_71 : decode cL_isDecided 71 = .ok (.ifCond .eq 129, 3) := by decide +kernel
theorem dL_isDecided_74 : decode cL_isDecided 74 = .ok (.aload_n 0, 1) := by decide +kernel
theorem dL_isDecided_75 : decode cL_isDecided 75 = .ok (.iload_n 1, 1) := by decide +kernel
theorem dL_isDecided_76 : decode cL_isDecided 76 = .ok (.iconst 0, 1) := by decide +kernel
theorem dL_isDecided_77 : decode cL_isDecided 77 = .ok (.invokevirtual 63, 3) := by decide +kernel
theorem dL_isDecided_80 : decode cL_isDecided 80 = .ok (.istore 8, 2) := by decide +kernel
theorem dL_isDecided_82 : decode cL_isDecided 82 = .ok (.iconst 2, 1) := by decide +kernel
theorem dL_isDecided_83 : decode cL_isDecided 83 = .ok (.aload_n 0, 1) := by decide +kernel
theorem dL_isDecided_84 : decode cL_isDecided 84 = .ok (.iload_n 1, 1) := by decide +kernel
theorem dL_isDecided_85 : decode cL_isDecided 85 = .ok (.iconst 0, 1) := by decide +kernel
theorem dL_isDecided_86 : decode cL_isDecided 86 = .ok (.invokevirtual 66, 3) := by decide +kernel
theorem dL_isDecided_89 : decode cL_isDecided 89 = .ok (.imul, 1) := by decide +kernel
theorem dL_isDecided_90 : decode cL_isDecided 90 = .ok (.iload 6, 2) := by decide +kernel
theorem dL_isDecided_92 : decode cL_isDecided 92 = .ok (.if_icmp .le 7, 3) := by decide +kernel
theorem dL_isDecided_95 : decode cL_isDecided 95 = .ok (.iconst 1, 1) := by decide +kernel
theorem dL_isDecided_96 : decode cL_isDecided 96 = .ok (.goto 4, 3) := by decide +kernel
theorem dL_isDecided_99 : decode cL_isDecided 99 = .ok (.iconst 0, 1) := by decide +kernel
theorem dL_isDecided_100 : decode cL_isDecided 100 = .ok (.istore 9, 2) := by decide +kernel
theorem dL_isDecided_102 : decode cL_isDecided 102 = .ok (.aload_n 0, 1) := by decide +kernel
theorem dL_isDecided_103 : decode cL_isDecided 103 = .ok (.iload_n 1, 1) := by decide +kernel
theorem dL_isDecided_104 : decode cL_isDecided 104 = .ok (.invokevirtual 190, 3) := by decide +kernel
theorem dL_isDecided_107 : decode cL_isDecided 107 = .ok (.lstore 10, 2) := by decide +kernel
theorem dL_isDecided_109 : decode cL_isDecided 109 = .ok (.aload_n 0, 1) := by decide +kernel
theorem dL_isDecided_110 : decode cL_isDecided 110 = .ok (.iload_n 1, 1) := by decide +kernel
theorem dL_isDecided_111 : decode cL_isDecided 111 = .ok (.iconst 1, 1) := by decide +kernel
theorem dL_isDecided_112 : decode cL_isDecided 112 = .ok (.invokestatic 268, 3) := by decide +kernel
theorem dL_isDecided_115 : decode cL_isDecided 115 = .ok (.istore 12, 2) := by decide +kernel
theorem dL_isDecided_117 : decode cL_isDecided 117 = .ok (.aload_n 0, 1) := by decide +kernel
theorem dL_isDecided_118 : decode cL_isDecided 118 = .ok (.iload_n 1, 1) := by decide +kernel
theorem dL_isDecided_119 : decode cL_isDecided 119 = .ok (.invokestatic 139, 3) := by decide +kernel
theorem dL_isDecided_122 : decode cL_isDecided 122 = .ok (.iload 9, 2) := by decide +kernel
theorem dL_isDecided_124 : decode cL_isDecided 124 = .ok (.ifCond .eq 7, 3) := by decide +kernel
theorem dL_isDecided_127 : decode cL_isDecided 127 = .ok (.iconst 1, 1) := by decide +kernel
theorem dL_isDecided_128 : decode cL_isDecided 128 = .ok (.goto 4, 3) := by decide +kernel
theorem dL_isDecided_131 : decode cL_isDecided 131 = .ok (.iconst 0, 1) := by decide +kernel
theorem dL_isDecided_132 : decode cL_isDecided 132 = .ok (.if_icmp .ne 59, 3) := by decide +kernel
theorem dL_isDecided_135 : decode cL_isDecided 135 = .ok (.aload_n 0, 1) := by decide +kernel
theorem dL_isDecided_136 : decode cL_isDecided 136 = .ok (.iload_n 1, 1) := by decide +kernel
theorem dL_isDecided_137 : decode cL_isDecided 137 = .ok (.invokevirtual 190, 3) := by decide +kernel
theorem dL_isDecided_140 : decode cL_isDecided 140 = .ok (.iload 9, 2) := by decide +kernel
theorem dL_isDecided_142 : decode cL_isDecided 142 = .ok (.ifCond .eq 13, 3) := by decide +kernel
theorem dL_isDecided_145 : decode cL_isDecided 145 = .ok (.lload 10, 2) := by decide +kernel
theorem dL_isDecided_147 : decode cL_isDecided 147 = .ok (.lconst 1, 1) := by decide +kernel
theorem dL_isDecided_148 : decode cL_isDecided 148 = .ok (.iload 8, 2) := by decide +kernel
theorem dL_isDecided_150 : decode cL_isDecided 150 = .ok (.lshl, 1) := by decide +kernel
theorem dL_isDecided_151 : decode cL_isDecided 151 = .ok (.lxor, 1) := by decide +kernel
theorem dL_isDecided_152 : decode cL_isDecided 152 = .ok (.goto 5, 3) := by decide +kernel
theorem dL_isDecided_155 : decode cL_isDecided 155 = .ok (.lload 10, 2) := by decide +kernel
theorem dL_isDecided_157 : decode cL_isDecided 157 = .ok (.lcmp, 1) := by decide +kernel
theorem dL_isDecided_158 : decode cL_isDecided 158 = .ok (.ifCond .ne 33, 3) := by decide +kernel
theorem dL_isDecided_161 : decode cL_isDecided 161 = .ok (.aload_n 0, 1) := by decide +kernel
theorem dL_isDecided_162 : decode cL_isDecided 162 = .ok (.iload_n 1, 1) := by decide +kernel
theorem dL_isDecided_163 : decode cL_isDecided 163 = .ok (.iconst 0, 1) := by decide +kernel
theorem dL_isDecided_164 : decode cL_isDecided 164 = .ok (.invokestatic 268, 3) := by decide +kernel
theorem dL_isDecided_167 : decode cL_isDecided 167 = .ok (.iload 12, 2) := by decide +kernel
theorem dL_isDecided_169 : decode cL_isDecided 169 = .ok (.if_icmp .ne 22, 3) := by decide +kernel
theorem dL_isDecided_172 : decode cL_isDecided 172 = .ok (.aload_n 0, 1) := by decide +kernel
theorem dL_isDecided_173 : decode cL_isDecided 173 = .ok (.iload_n 1, 1) := by decide +kernel
theorem dL_isDecided_174 : decode cL_isDecided 174 = .ok (.invokevirtual 212, 3) := by decide +kernel
theorem dL_isDecided_177 : decode cL_isDecided 177 = .ok (.iload 4, 2) := by decide +kernel
theorem dL_isDecided_179 : decode cL_isDecided 179 = .ok (.iload 5, 2) := by decide +kernel
theorem dL_isDecided_181 : decode cL_isDecided 181 = .ok (.isub, 1) := by decide +kernel
theorem dL_isDecided_182 : decode cL_isDecided 182 = .ok (.iconst 1, 1) := by decide +kernel
theorem dL_isDecided_183 : decode cL_isDecided 183 = .ok (.isub, 1) := by decide +kernel
theorem dL_isDecided_184 : decode cL_isDecided 184 = .ok (.if_icmp .ne 7, 3) := by decide +kernel
theorem dL_isDecided_187 : decode cL_isDecided 187 = .ok (.iconst 1, 1) := by decide +kernel
theorem dL_isDecided_188 : decode cL_isDecided 188 = .ok (.goto 4, 3) := by decide +kernel
theorem dL_isDecided_191 : decode cL_isDecided 191 = .ok (.iconst 0, 1) := by decide +kernel
theorem dL_isDecided_192 : decode cL_isDecided 192 = .ok (.istore 7, 2) := by decide +kernel
theorem dL_isDecided_194 : decode cL_isDecided 194 = .ok (.iinc 5 1, 3) := by decide +kernel
theorem dL_isDecided_197 : decode cL_isDecided 197 = .ok (.goto (-150), 3) := by decide +kernel
theorem dL_isDecided_200 : decode cL_isDecided 200 = .ok (.aload_n 0, 1) := by decide +kernel
theorem dL_isDecided_201 : decode cL_isDecided 201 = .ok (.iload_n 1, 1) := by decide +kernel
theorem dL_isDecided_202 : decode cL_isDecided 202 = .ok (.invokevirtual 200, 3) := by decide +kernel
theorem dL_isDecided_205 : decode cL_isDecided 205 = .ok (.ifCond .eq 14, 3) := by decide +kernel
theorem dL_isDecided_208 : decode cL_isDecided 208 = .ok (.aload_n 0, 1) := by decide +kernel
theorem dL_isDecided_209 : decode cL_isDecided 209 = .ok (.invokevirtual 224, 3) := by decide +kernel
theorem dL_isDecided_212 : decode cL_isDecided 212 = .ok (.ifCond .eq 7, 3) := by decide +kernel
theorem dL_isDecided_215 : decode cL_isDecided 215 = .ok (.iconst 1, 1) := by decide +kernel
theorem dL_isDecided_216 : decode cL_isDecided 216 = .ok (.goto 4, 3) := by decide +kernel
theorem dL_isDecided_219 : decode cL_isDecided 219 = .ok (.iconst 0, 1) := by decide +kernel
theorem dL_isDecided_220 : decode cL_isDecided 220 = .ok (.istore 8, 2) := by decide +kernel
theorem dL_isDecided_222 : decode cL_isDecided 222 = .ok (.aload_n 0, 1) := by decide +kernel
theorem dL_isDecided_223 : decode cL_isDecided 223 = .ok (.iload_n 1, 1) := by decide +kernel
theorem dL_isDecided_224 : decode cL_isDecided 224 = .ok (.invokevirtual 206, 3) := by decide +kernel
theorem dL_isDecided_227 : decode cL_isDecided 227 = .ok (.aload_n 0, 1) := by decide +kernel
theorem dL_isDecided_228 : decode cL_isDecided 228 = .ok (.iload_n 1, 1) := by decide +kernel
theorem dL_isDecided_229 : decode cL_isDecided 229 = .ok (.invokevirtual 209, 3) := by decide +kernel
theorem dL_isDecided_232 : decode cL_isDecided 232 = .ok (.if_icmp .le 7, 3) := by decide +kernel
theorem dL_isDecided_235 : decode cL_isDecided 235 = .ok (.iconst 1, 1) := by decide +kernel
theorem dL_isDecided_236 : decode cL_isDecided 236 = .ok (.goto 4, 3) := by decide +kernel
theorem dL_isDecided_239 : decode cL_isDecided 239 = .ok (.iconst 0, 1) := by decide +kernel
theorem dL_isDecided_240 : decode cL_isDecided 240 = .ok (.istore 9, 2) := by decide +kernel
theorem dL_isDecided_242 : decode cL_isDecided 242 = .ok (.aload_n 0, 1) := by decide +kernel
theorem dL_isDecided_243 : decode cL_isDecided 243 = .ok (.iload_n 1, 1) := by decide +kernel
theorem dL_isDecided_244 : decode cL_isDecided 244 = .ok (.invokevirtual 194, 3) := by decide +kernel
theorem dL_isDecided_247 : decode cL_isDecided 247 = .ok (.istore 10, 2) := by decide +kernel
theorem dL_isDecided_249 : decode cL_isDecided 249 = .ok (.aload_n 0, 1) := by decide +kernel
theorem dL_isDecided_250 : decode cL_isDecided 250 = .ok (.iload_n 1, 1) := by decide +kernel
theorem dL_isDecided_251 : decode cL_isDecided 251 = .ok (.invokestatic 133, 3) := by decide +kernel
theorem dL_isDecided_254 : decode cL_isDecided 254 = .ok (.istore 11, 2) := by decide +kernel
theorem dL_isDecided_256 : decode cL_isDecided 256 = .ok (.iload 7, 2) := by decide +kernel
theorem dL_isDecided_258 : decode cL_isDecided 258 = .ok (.ifCond .eq 88, 3) := by decide +kernel
theorem dL_isDecided_261 : decode cL_isDecided 261 = .ok (.iload 11, 2) := by decide +kernel
theorem dL_isDecided_263 : decode cL_isDecided 263 = .ok (.ldc 10, 2) := by decide +kernel
theorem dL_isDecided_265 : decode cL_isDecided 265 = .ok (.if_icmp .eq 7, 3) := by decide +kernel
theorem dL_isDecided_268 : decode cL_isDecided 268 = .ok (.iconst 1, 1) := by decide +kernel
theorem dL_isDecided_269 : decode cL_isDecided 269 = .ok (.goto 4, 3) := by decide +kernel
theorem dL_isDecided_272 : decode cL_isDecided 272 = .ok (.iconst 0, 1) := by decide +kernel
theorem dL_isDecided_273 : decode cL_isDecided 273 = .ok (.iload 8, 2) := by decide +kernel
theorem dL_isDecided_275 : decode cL_isDecided 275 = .ok (.if_icmp .ne 71, 3) := by decide +kernel
theorem dL_isDecided_278 : decode cL_isDecided 278 = .ok (.iload 8, 2) := by decide +kernel
theorem dL_isDecided_280 : decode cL_isDecided 280 = .ok (.ifCond .eq 62, 3) := by decide +kernel
theorem dL_isDecided_283 : decode cL_isDecided 283 = .ok (.iload 11, 2) := by decide +kernel
theorem dL_isDecided_285 : decode cL_isDecided 285 = .ok (.iload 9, 2) := by decide +kernel
theorem dL_isDecided_287 : decode cL_isDecided 287 = .ok (.ifCond .eq 7, 3) := by decide +kernel
theorem dL_isDecided_290 : decode cL_isDecided 290 = .ok (.iconst 1, 1) := by decide +kernel
theorem dL_isDecided_291 : decode cL_isDecided 291 = .ok (.goto 4, 3) := by decide +kernel
theorem dL_isDecided_294 : decode cL_isDecided 294 = .ok (.iconst 0, 1) := by decide +kernel
theorem dL_isDecided_295 : decode cL_isDecided 295 = .ok (.if_icmp .ne 51, 3) := by decide +kernel
theorem dL_isDecided_298 : decode cL_isDecided 298 = .ok (.aload_n 0, 1) := by decide +kernel
theorem dL_isDecided_299 : decode cL_isDecided 299 = .ok (.iload_n 1, 1) := by decide +kernel
theorem dL_isDecided_300 : decode cL_isDecided 300 = .ok (.invokevirtual 194, 3) := by decide +kernel
theorem dL_isDecided_303 : decode cL_isDecided 303 = .ok (.iload 10, 2) := by decide +kernel
theorem dL_isDecided_305 : decode cL_isDecided 305 = .ok (.iload 11, 2) := by decide +kernel
theorem dL_isDecided_307 : decode cL_isDecided 307 = .ok (.iadd, 1) := by decide +kernel
theorem dL_isDecided_308 : decode cL_isDecided 308 = .ok (.if_icmp .ne 38, 3) := by decide +kernel
theorem dL_isDecided_311 : decode cL_isDecided 311 = .ok (.aload_n 0, 1) := by decide +kernel
theorem dL_isDecided_312 : decode cL_isDecided 312 = .ok (.iload_n 1, 1) := by decide +kernel
theorem dL_isDecided_313 : decode cL_isDecided 313 = .ok (.invokevirtual 200, 3) := by decide +kernel
theorem dL_isDecided_316 : decode cL_isDecided 316 = .ok (.iload 9, 2) := by decide +kernel
theorem dL_isDecided_318 : decode cL_isDecided 318 = .ok (.ifCond .eq 13, 3) := by decide +kernel
theorem dL_isDecided_321 : decode cL_isDecided 321 = .ok (.iload 10, 2) := by decide +kernel
theorem dL_isDecided_323 : decode cL_isDecided 323 = .ok (.iconst 2, 1) := by decide +kernel
theorem dL_isDecided_324 : decode cL_isDecided 324 = .ok (.if_icmp .ge 7, 3) := by decide +kernel
theorem dL_isDecided_327 : decode cL_isDecided 327 = .ok (.iconst 1, 1) := by decide +kernel
theorem dL_isDecided_328 : decode cL_isDecided 328 = .ok (.goto 4, 3) := by decide +kernel
theorem dL_isDecided_331 : decode cL_isDecided 331 = .ok (.iconst 0, 1) := by decide +kernel
theorem dL_isDecided_332 : decode cL_isDecided 332 = .ok (.if_icmp .ne 14, 3) := by decide +kernel
theorem dL_isDecided_335 : decode cL_isDecided 335 = .ok (.aload_n 0, 1) := by decide +kernel
theorem dL_isDecided_336 : decode cL_isDecided 336 = .ok (.invokestatic 291, 3) := by decide +kernel
theorem dL_isDecided_339 : decode cL_isDecided 339 = .ok (.ifCond .eq 7, 3) := by decide +kernel
theorem dL_isDecided_342 : decode cL_isDecided 342 = .ok (.iconst 1, 1) := by decide +kernel
theorem dL_isDecided_343 : decode cL_isDecided 343 = .ok (.goto 4, 3) := by decide +kernel
theorem dL_isDecided_346 : decode cL_isDecided 346 = .ok (.iconst 0, 1) := by decide +kernel
theorem dL_isDecided_347 : decode cL_isDecided 347 = .ok (.istore 7, 2) := by decide +kernel
theorem dL_isDecided_349 : decode cL_isDecided 349 = .ok (.iload 5, 2) := by decide +kernel
theorem dL_isDecided_351 : decode cL_isDecided 351 = .ok (.iload 8, 2) := by decide +kernel
theorem dL_isDecided_353 : decode cL_isDecided 353 = .ok (.ifCond .eq 7, 3) := by decide +kernel
theorem dL_isDecided_356 : decode cL_isDecided 356 = .ok (.iconst 1, 1) := by decide +kernel
theorem dL_isDecided_357 : decode cL_isDecided 357 = .ok (.goto 4, 3) := by decide +kernel
theorem dL_isDecided_360 : decode cL_isDecided 360 = .ok (.iconst 0, 1) := by decide +kernel
theorem dL_isDecided_361 : decode cL_isDecided 361 = .ok (.iadd, 1) := by decide +kernel
theorem dL_isDecided_362 : decode cL_isDecided 362 = .ok (.istore 5, 2) := by decide +kernel
theorem dL_isDecided_364 : decode cL_isDecided 364 = .ok (.iconst 0, 1) := by decide +kernel
theorem dL_isDecided_365 : decode cL_isDecided 365 = .ok (.istore 12, 2) := by decide +kernel
theorem dL_isDecided_367 : decode cL_isDecided 367 = .ok (.iload 12, 2) := by decide +kernel
theorem dL_isDecided_369 : decode cL_isDecided 369 = .ok (.iload 5, 2) := by decide +kernel
theorem dL_isDecided_371 : decode cL_isDecided 371 = .ok (.if_icmp .ge 28, 3) := by decide +kernel
theorem dL_isDecided_374 : decode cL_isDecided 374 = .ok (.iload 7, 2) := by decide +kernel
theorem dL_isDecided_376 : decode cL_isDecided 376 = .ok (.ifCond .eq 14, 3) := by decide +kernel
theorem dL_isDecided_379 : decode cL_isDecided 379 = .ok (.aload_n 0, 1) := by decide +kernel
theorem dL_isDecided_380 : decode cL_isDecided 380 = .ok (.invokestatic 159, 3) := by decide +kernel
theorem dL_isDecided_383 : decode cL_isDecided 383 = .ok (.ifCond .lt 7, 3) := by decide +kernel
theorem dL_isDecided_386 : decode cL_isDecided 386 = .ok (.iconst 1, 1) := by decide +kernel
theorem dL_isDecided_387 : decode cL_isDecided 387 = .ok (.goto 4, 3) := by decide +kernel
theorem dL_isDecided_390 : decode cL_isDecided 390 = .ok (.iconst 0, 1) := by decide +kernel
theorem dL_isDecided_391 : decode cL_isDecided 391 = .ok (.istore 7, 2) := by decide +kernel
theorem dL_isDecided_393 : decode cL_isDecided 393 = .ok (.iinc 12 1, 3) := by decide +kernel
theorem dL_isDecided_396 : decode cL_isDecided 396 = .ok (.goto (-29), 3) := by decide +kernel
theorem dL_isDecided_399 : decode cL_isDecided 399 = .ok (.iload 7, 2) := by decide +kernel
theorem dL_isDecided_401 : decode cL_isDecided 401 = .ok (.ifCond .eq 16, 3) := by decide +kernel
theorem dL_isDecided_404 : decode cL_isDecided 404 = .ok (.aload_n 0, 1) := by decide +kernel
theorem dL_isDecided_405 : decode cL_isDecided 405 = .ok (.invokestatic 287, 3) := by decide +kernel
theorem dL_isDecided_408 : decode cL_isDecided 408 = .ok (.lload_n 2, 1) := by decide +kernel
theorem dL_isDecided_409 : decode cL_isDecided 409 = .ok (.lcmp, 1) := by decide +kernel
theorem dL_isDecided_410 : decode cL_isDecided 410 = .ok (.ifCond .ne 7, 3) := by decide +kernel
theorem dL_isDecided_413 : decode cL_isDecided 413 = .ok (.iconst 1, 1) := by decide +kernel
theorem dL_isDecided_414 : decode cL_isDecided 414 = .ok (.goto 4, 3) := by decide +kernel
theorem dL_isDecided_417 : decode cL_isDecided 417 = .ok (.iconst 0, 1) := by decide +kernel
theorem dL_isDecided_418 : decode cL_isDecided 418 = .ok (.ireturn, 1) := by decide +kernel
theorem dL_isFit_0 : decode cL_isFit 0 = .ok (.aload_n 0, 1) := by decide +kernel
theorem dL_isFit_1 : decode cL_isFit 1 = .ok (.invokestatic 295, 3) := by decide +kernel
theorem dL_isFit_4 : decode cL_isFit 4 = .ok (.ifCond .eq 14, 3) := by decide +kernel
theorem dL_isFit_7 : decode cL_isFit 7 = .ok (.aload_n 0, 1) := by decide +kernel
theorem dL_isFit_8 : decode cL_isFit 8 = .ok (.invokestatic 291, 3) := by decide +kernel
theorem dL_isFit_11 : decode cL_isFit 11 = .ok (.ifCond .eq 7, 3) := by decide +kernel
theorem dL_isFit_14 : decode cL_isFit 14 = .ok (.iconst 1, 1) := by decide +kernel
theorem dL_isFit_15 : decode cL_isFit 15 = .ok (.goto 4, 3) := by decide +kernel
theorem dL_isFit_18 : decode cL_isFit 18 = .ok (.iconst 0, 1) := by decide +kernel
theorem dL_isFit_19 : decode cL_isFit 19 = .ok (.istore_n 1, 1) := by decide +kernel
theorem dL_isFit_20 : decode cL_isFit 20 = .ok (.iconst 0, 1) := by decide +kernel
theorem dL_isFit_21 : decode cL_isFit 21 = .ok (.istore_n 2, 1) := by decide +kernel
theorem dL_isFit_22 : decode cL_isFit 22 = .ok (.iload_n 1, 1) := by decide +kernel
theorem dL_isFit_23 : decode cL_isFit 23 = .ok (.ifCond .eq 39, 3) := by decide +kernel
theorem dL_isFit_26 : decode cL_isFit 26 = .ok (.iload_n 2, 1) := by decide +kernel
theorem dL_isFit_27 : decode cL_isFit 27 = .ok (.aload_n 0, 1) := by decide +kernel
theorem dL_isFit_28 : decode cL_isFit 28 = .ok (.invokevirtual 187, 3) := by decide +kernel
theorem dL_isFit_31 : decode cL_isFit 31 = .ok (.if_icmp .ge 31, 3) := by decide +kernel
theorem dL_isFit_34 : decode cL_isFit 34 = .ok (.aload_n 0, 1) := by decide +kernel
theorem dL_isFit_35 : decode cL_isFit 35 = .ok (.iload_n 2, 1) := by decide +kernel
theorem dL_isFit_36 : decode cL_isFit 36 = .ok (.invokestatic 298, 3) := by decide +kernel
theorem dL_isFit_39 : decode cL_isFit 39 = .ok (.ifCond .eq 15, 3) := by decide +kernel
theorem dL_isFit_42 : decode cL_isFit 42 = .ok (.aload_n 0, 1) := by decide +kernel
theorem dL_isFit_43 : decode cL_isFit 43 = .ok (.iload_n 2, 1) := by decide +kernel
theorem dL_isFit_44 : decode cL_isFit 44 = .ok (.invokestatic 301, 3) := by decide +kernel
theorem dL_isFit_47 : decode cL_isFit 47 = .ok (.ifCond .eq 7, 3) := by decide +kernel
theorem dL_isFit_50 : decode cL_isFit 50 = .ok (.iconst 1, 1) := by decide +kernel
theorem dL_isFit_51 : decode cL_isFit 51 = .ok (.goto 4, 3) := by decide +kernel
theorem dL_isFit_54 : decode cL_isFit 54 = .ok (.iconst 0, 1) := by decide +kernel
theorem dL_isFit_55 : decode cL_isFit 55 = .ok (.istore_n 1, 1) := by decide +kernel
theorem dL_isFit_56 : decode cL_isFit 56 = .ok (.iinc 2 1, 3) := by decide +kernel
theorem dL_isFit_59 : decode cL_isFit 59 = .ok (.goto (-37), 3) := by decide +kernel
theorem dL_isFit_62 : decode cL_isFit 62 = .ok (.iload_n 1, 1) := by decide +kernel
theorem dL_isFit_63 : decode cL_isFit 63 = .ok (.ireturn, 1) := by decide +kernel
theorem dL_law_0 : decode cL_law 0 = .ok (.new 12, 3) := by decide +kernel
theorem dL_law_3 : decode cL_law 3 = .ok (.dup, 1) := by decide +kernel
theorem dL_law_4 : decode cL_law 4 = .ok (.invokespecial 304, 3) := by decide +kernel
theorem dL_law_7 : decode cL_law 7 = .ok (.astore_n 1, 1) := by decide +kernel
theorem dL_law_8 : decode cL_law 8 = .ok (.iconst 0, 1) := by decide +kernel
theorem dL_law_9 : decode cL_law 9 = .ok (.istore_n 2, 1) := by decide +kernel
theorem dL_law_10 : decode cL_law 10 = .ok (.iload_n 2, 1) := by decide +kernel
theorem dL_law_11 : decode cL_law 11 = .ok (.bipush 6, 2) := by decide +kernel
theorem dL_law_13 : decode cL_law 13 = .ok (.if_icmp .ge 45, 3) := by decide +kernel
theorem dL_law_16 : decode cL_law 16 = .ok (.aload_n 1, 1) := by decide +kernel
theorem dL_law_17 : decode cL_law 17 = .ok (.aload_n 0, 1) := by decide +kernel
theorem dL_law_18 : decode cL_law 18 = .ok (.iload_n 2, 1) := by decide +kernel
theorem dL_law_19 : decode cL_law 19 = .ok (.invokestatic 305, 3) := by decide +kernel
theorem dL_law_22 : decode cL_law 22 = .ok (.iconst 4, 1) := by decide +kernel
theorem dL_law_23 : decode cL_law 23 = .ok (.ishr, 1) := by decide +kernel
theorem dL_law_24 : decode cL_law 24 = .ok (.iconst 3, 1) := by decide +kernel
theorem dL_law_25 : decode cL_law 25 = .ok (.iand, 1) := by decide +kernel
theorem dL_law_26 : decode cL_law 26 = .ok (.iconst 1, 1) := by decide +kernel
theorem dL_law_27 : decode cL_law 27 = .ok (.aload_n 0, 1) := by decide +kernel
theorem dL_law_28 : decode cL_law 28 = .ok (.iload_n 2, 1) := by decide +kernel
theorem dL_law_29 : decode cL_law 29 = .ok (.invokestatic 305, 3) := by decide +kernel
theorem dL_law_32 : decode cL_law 32 = .ok (.bipush 6, 2) := by decide +kernel
theorem dL_law_34 : decode cL_law 34 = .ok (.ishr, 1) := by decide +kernel
theorem dL_law_35 : decode cL_law 35 = .ok (.bipush 63, 2) := by decide +kernel
theorem dL_law_37 : decode cL_law 37 = .ok (.iand, 1) := by decide +kernel
theorem dL_law_38 : decode cL_law 38 = .ok (.bipush 7, 2) := by decide +kernel
theorem dL_law_40 : decode cL_law 40 = .ok (.irem, 1) := by decide +kernel
theorem dL_law_41 : decode cL_law 41 = .ok (.iadd, 1) := by decide +kernel
theorem dL_law_42 : decode cL_law 42 = .ok (.invokestatic 116, 3) := by decide +kernel
theorem dL_law_45 : decode cL_law 45 = .ok (.pop, 1) := by decide +kernel
theorem dL_law_46 : decode cL_law 46 = .ok (.aload_n 1, 1) := by decide +kernel
theorem dL_law_47 : decode cL_law 47 = .ok (.iload_n 2, 1) := by decide +kernel
theorem dL_law_48 : decode cL_law 48 = .ok (.invokestatic 122, 3) := by decide +kernel
theorem dL_law_51 : decode cL_law 51 = .ok (.pop, 1) := by decide +kernel
theorem dL_law_52 : decode cL_law 52 = .ok (.iinc 2 1, 3) := by decide +kernel
theorem dL_law_55 : decode cL_law 55 = .ok (.goto (-45), 3) := by decide +kernel
theorem dL_law_58 : decode cL_law 58 = .ok (.iconst 0, 1) := by decide +kernel
theorem dL_law_59 : decode cL_law 59 = .ok (.istore_n 2, 1) := by decide +kernel
theorem dL_law_60 : decode cL_law 60 = .ok (.iload_n 2, 1) := by decide +kernel
theorem dL_law_61 : decode cL_law 61 = .ok (.iconst 2, 1) := by decide +kernel
theorem dL_law_62 : decode cL_law 62 = .ok (.if_icmp .ge 66, 3) := by decide +kernel
theorem dL_law_65 : decode cL_law 65 = .ok (.aload_n 1, 1) := by decide +kernel
theorem dL_law_66 : decode cL_law 66 = .ok (.iload_n 2, 1) := by decide +kernel
theorem dL_law_67 : decode cL_law 67 = .ok (.aload_n 0, 1) := by decide +kernel
theorem dL_law_68 : decode cL_law 68 = .ok (.iload_n 2, 1) := by decide +kernel
theorem dL_law_69 : decode cL_law 69 = .ok (.invokestatic 305, 3) := by decide +kernel
theorem dL_law_72 : decode cL_law 72 = .ok (.iconst 5, 1) := by decide +kernel
theorem dL_law_73 : decode cL_law 73 = .ok (.ishr, 1) := by decide +kernel
theorem dL_law_74 : decode cL_law 74 = .ok (.bipush 31, 2) := by decide +kernel
theorem dL_law_76 : decode cL_law 76 = .ok (.iand, 1) := by decide +kernel
theorem dL_law_77 : decode cL_law 77 = .ok (.bipush 31, 2) := by decide +kernel
theorem dL_law_79 : decode cL_law 79 = .ok (.aload_n 0, 1) := by decide +kernel
theorem dL_law_80 : decode cL_law 80 = .ok (.iload_n 2, 1) := by decide +kernel
theorem dL_law_81 : decode cL_law 81 = .ok (.iconst 1, 1) := by decide +kernel
theorem dL_law_82 : decode cL_law 82 = .ok (.iadd, 1) := by decide +kernel
theorem dL_law_83 : decode cL_law 83 = .ok (.invokestatic 305, 3) := by decide +kernel
theorem dL_law_86 : decode cL_law 86 = .ok (.iconst 4, 1) := by decide +kernel
theorem dL_law_87 : decode cL_law 87 = .ok (.ishr, 1) := by decide +kernel
theorem dL_law_88 : decode cL_law 88 = .ok (.bipush 31, 2) := by decide +kernel
theorem dL_law_90 : decode cL_law 90 = .ok (.iand, 1) := by decide +kernel
theorem dL_law_91 : decode cL_law 91 = .ok (.iadd, 1) := by decide +kernel
theorem dL_law_92 : decode cL_law 92 = .ok (.invokestatic 126, 3) := by decide +kernel
theorem dL_law_95 : decode cL_law 95 = .ok (.pop, 1) := by decide +kernel
theorem dL_law_96 : decode cL_law 96 = .ok (.aload_n 1, 1) := by decide +kernel
theorem dL_law_97 : decode cL_law 97 = .ok (.iload_n 2, 1) := by decide +kernel
theorem dL_law_98 : decode cL_law 98 = .ok (.iload_n 2, 1) := by decide +kernel
theorem dL_law_99 : decode cL_law 99 = .ok (.iconst 1, 1) := by decide +kernel
theorem dL_law_100 : decode cL_law 100 = .ok (.iadd, 1) := by decide +kernel
theorem dL_law_101 : decode cL_law 101 = .ok (.aload_n 0, 1) := by decide +kernel
theorem dL_law_102 : decode cL_law 102 = .ok (.iload_n 2, 1) := by decide +kernel
theorem dL_law_103 : decode cL_law 103 = .ok (.invokestatic 305, 3) := by decide +kernel
theorem dL_law_106 : decode cL_law 106 = .ok (.iconst 3, 1) := by decide +kernel
theorem dL_law_107 : decode cL_law 107 = .ok (.ishr, 1) := by decide +kernel
theorem dL_law_108 : decode cL_law 108 = .ok (.bipush 63, 2) := by decide +kernel
theorem dL_law_110 : decode cL_law 110 = .ok (.iand, 1) := by decide +kernel
theorem dL_law_111 : decode cL_law 111 = .ok (.invokestatic 135, 3) := by decide +kernel
theorem dL_law_114 : decode cL_law 114 = .ok (.pop, 1) := by decide +kernel
theorem dL_law_115 : decode cL_law 115 = .ok (.aload_n 1, 1) := by decide +kernel
theorem dL_law_116 : decode cL_law 116 = .ok (.iload_n 2, 1) := by decide +kernel
theorem dL_law_117 : decode cL_law 117 = .ok (.iconst 2, 1) := by decide +kernel
theorem dL_law_118 : decode cL_law 118 = .ok (.invokestatic 129, 3) := by decide +kernel
theorem dL_law_121 : decode cL_law 121 = .ok (.pop, 1) := by decide +kernel
theorem dL_law_122 : decode cL_law 122 = .ok (.iinc 2 1, 3) := by decide +kernel
theorem dL_law_125 : decode cL_law 125 = .ok (.goto (-65), 3) := by decide +kernel
theorem dL_law_128 : decode cL_law 128 = .ok (.aload_n 0, 1) := by decide +kernel
theorem dL_law_129 : decode cL_law 129 = .ok (.arraylength, 1) := by decide +kernel
theorem dL_law_130 : decode cL_law 130 = .ok (.bipush 36, 2) := by decide +kernel
theorem dL_law_132 : decode cL_law 132 = .ok (.if_icmp .ge 8, 3) := by decide +kernel
theorem dL_law_135 : decode cL_law 135 = .ok (.aload_n 0, 1) := by decide +kernel
theorem dL_law_136 : decode cL_law 136 = .ok (.arraylength, 1) := by decide +kernel
theorem dL_law_137 : decode cL_law 137 = .ok (.goto 5, 3) := by decide +kernel
theorem dL_law_140 : decode cL_law 140 = .ok (.bipush 36, 2) := by decide +kernel
theorem dL_law_142 : decode cL_law 142 = .ok (.istore_n 2, 1) := by decide +kernel
theorem dL_law_143 : decode cL_law 143 = .ok (.iconst 0, 1) := by decide +kernel
theorem dL_law_144 : decode cL_law 144 = .ok (.istore_n 3, 1) := by decide +kernel
theorem dL_law_145 : decode cL_law 145 = .ok (.iload_n 3, 1) := by decide +kernel
theorem dL_law_146 : decode cL_law 146 = .ok (.iload_n 2, 1) := by decide +kernel
theorem dL_law_147 : decode cL_law 147 = .ok (.if_icmp .ge 41, 3) := by decide +kernel
theorem dL_law_150 : decode cL_law 150 = .ok (.aload_n 1, 1) := by decide +kernel
theorem dL_law_151 : decode cL_law 151 = .ok (.invokestatic 287, 3) := by decide +kernel
theorem dL_law_154 : decode cL_law 154 = .ok (.lstore 4, 2) := by decide +kernel
theorem dL_law_156 : decode cL_law 156 = .ok (.aload_n 1, 1) := by decide +kernel
theorem dL_law_157 : decode cL_law 157 = .ok (.aload_n 0, 1) := by decide +kernel
theorem dL_law_158 : decode cL_law 158 = .ok (.iload_n 3, 1) := by decide +kernel
theorem dL_law_159 : decode cL_law 159 = .ok (.invokestatic 305, 3) := by decide +kernel
theorem dL_law_162 : decode cL_law 162 = .ok (.invokestatic 309, 3) := by decide +kernel
theorem dL_law_165 : decode cL_law 165 = .ok (.ldc 10, 2) := by decide +kernel
theorem dL_law_167 : decode cL_law 167 = .ok (.if_icmp .ne 15, 3) := by decide +kernel
theorem dL_law_170 : decode cL_law 170 = .ok (.aload_n 1, 1) := by decide +kernel
theorem dL_law_171 : decode cL_law 171 = .ok (.invokestatic 287, 3) := by decide +kernel
theorem dL_law_174 : decode cL_law 174 = .ok (.lload 4, 2) := by decide +kernel
theorem dL_law_176 : decode cL_law 176 = .ok (.lcmp, 1) := by decide +kernel
theorem dL_law_177 : decode cL_law 177 = .ok (.ifCond .eq 5, 3) := by decide +kernel
theorem dL_law_180 : decode cL_law 180 = .ok (.iconst 0, 1) := by decide +kernel
theorem dL_law_181 : decode cL_law 181 = .ok (.ireturn, 1) := by decide +kernel
theorem dL_law_182 : decode cL_law 182 = .ok (.iinc 3 1, 3) := by decide +kernel
theorem dL_law_185 : decode cL_law 185 = .ok (.goto (-40), 3) := by decide +kernel
theorem dL_law_188 : decode cL_law 188 = .ok (.aload_n 1, 1) := by decide +kernel
theorem dL_law_189 : decode cL_law 189 = .ok (.invokestatic 312, 3) := by decide +kernel
theorem dL_law_192 : decode cL_law 192 = .ok (.istore_n 3, 1) := by decide +kernel
theorem dL_law_193 : decode cL_law 193 = .ok (.aload_n 1, 1) := by decide +kernel
theorem dL_law_194 : decode cL_law 194 = .ok (.invokestatic 151, 3) := by decide +kernel
theorem dL_law_197 : decode cL_law 197 = .ok (.pop, 1) := by decide +kernel
theorem dL_law_198 : decode cL_law 198 = .ok (.aload_n 1, 1) := by decide +kernel
theorem dL_law_199 : decode cL_law 199 = .ok (.invokestatic 287, 3) := by decide +kernel
theorem dL_law_202 : decode cL_law 202 = .ok (.lstore 4, 2) := by decide +kernel
theorem dL_law_204 : decode cL_law 204 = .ok (.aload_n 1, 1) := by decide +kernel
theorem dL_law_205 : decode cL_law 205 = .ok (.invokevirtual 154, 3) := by decide +kernel
theorem dL_law_208 : decode cL_law 208 = .ok (.istore 6, 2) := by decide +kernel
theorem dL_law_210 : decode cL_law 210 = .ok (.iconst 0, 1) := by decide +kernel
theorem dL_law_211 : decode cL_law 211 = .ok (.istore 7, 2) := by decide +kernel
theorem dL_law_213 : decode cL_law 213 = .ok (.iload_n 3, 1) := by decide +kernel
theorem dL_law_214 : decode cL_law 214 = .ok (.ifCond .eq 80, 3) := by decide +kernel
theorem dL_law_217 : decode cL_law 217 = .ok (.iload 7, 2) := by decide +kernel
theorem dL_law_219 : decode cL_law 219 = .ok (.getstatic 143, 3) := by decide +kernel
theorem dL_law_222 : decode cL_law 222 = .ok (.arraylength, 1) := by decide +kernel
theorem dL_law_223 : decode cL_law 223 = .ok (.if_icmp .ge 71, 3) := by decide +kernel
theorem dL_law_226 : decode cL_law 226 = .ok (.aload_n 1, 1) := by decide +kernel
theorem dL_law_227 : decode cL_law 227 = .ok (.getstatic 143, 3) := by decide +kernel
theorem dL_law_230 : decode cL_law 230 = .ok (.iload 7, 2) := by decide +kernel
theorem dL_law_232 : decode cL_law 232 = .ok (.aaload, 1) := by decide +kernel
theorem dL_law_233 : decode cL_law 233 = .ok (.invokestatic 147, 3) := by decide +kernel
theorem dL_law_236 : decode cL_law 236 = .ok (.invokestatic 151, 3) := by decide +kernel
theorem dL_law_239 : decode cL_law 239 = .ok (.istore 8, 2) := by decide +kernel
theorem dL_law_241 : decode cL_law 241 = .ok (.iload 8, 2) := by decide +kernel
theorem dL_law_243 : decode cL_law 243 = .ok (.ldc 10, 2) := by decide +kernel
theorem dL_law_245 : decode cL_law 245 = .ok (.if_icmp .ne 13, 3) := by decide +kernel
theorem dL_law_248 : decode cL_law 248 = .ok (.aload_n 1, 1) := by decide +kernel
theorem dL_law_249 : decode cL_law 249 = .ok (.invokestatic 315, 3) := by decide +kernel
theorem dL_law_252 : decode cL_law 252 = .ok (.ifCond .lt 34, 3) := by decide +kernel
theorem dL_law_255 : decode cL_law 255 = .ok (.goto 17, 3) := by decide +kernel
theorem dL_law_258 : decode cL_law 258 = .ok (.aload_n 1, 1) := by decide +kernel
theorem dL_law_259 : decode cL_law 259 = .ok (.invokestatic 291, 3) := by decide +kernel
theorem dL_law_262 : decode cL_law 262 = .ok (.ifCond .eq 24, 3) := by decide +kernel
theorem dL_law_265 : decode cL_law 265 = .ok (.aload_n 1, 1) := by decide +kernel
theorem dL_law_266 : decode cL_law 266 = .ok (.invokestatic 159, 3) := by decide +kernel
theorem dL_law_269 : decode cL_law 269 = .ok (.ifCond .lt 17, 3) := by decide +kernel
theorem dL_law_272 : decode cL_law 272 = .ok (.aload_n 1, 1) := by decide +kernel
theorem dL_law_273 : decode cL_law 273 = .ok (.invokestatic 287, 3) := by decide +kernel
theorem dL_law_276 : decode cL_law 276 = .ok (.lload 4, 2) := by decide +kernel
theorem dL_law_278 : decode cL_law 278 = .ok (.lcmp, 1) := by decide +kernel
theorem dL_law_279 : decode cL_law 279 = .ok (.ifCond .ne 7, 3) := by decide +kernel
theorem dL_law_282 : decode cL_law 282 = .ok (.iconst 1, 1) := by decide +kernel
theorem dL_law_283 : decode cL_law 283 = .ok (.goto 4, 3) := by decide +kernel
theorem dL_law_286 : decode cL_law 286 = .ok (.iconst 0, 1) := by decide +kernel
theorem dL_law_287 : decode cL_law 287 = .ok (.istore_n 3, 1) := by decide +kernel
theorem dL_law_288 : decode cL_law 288 = .ok (.iinc 7 1, 3) := by decide +kernel
theorem dL_law_291 : decode cL_law 291 = .ok (.goto (-78), 3) := by decide +kernel
theorem dL_law_294 : decode cL_law 294 = .ok (.iconst 0, 1) := by decide +kernel
theorem dL_law_295 : decode cL_law 295 = .ok (.istore 7, 2) := by decide +kernel
theorem dL_law_297 : decode cL_law 297 = .ok (.iload_n 3, 1) := by decide +kernel
theorem dL_law_298 : decode cL_law 298 = .ok (.ifCond .eq 102, 3) := by decide +kernel
theorem dL_law_301 : decode cL_law 301 = .ok (.iload 7, 2) := by decide +kernel
theorem dL_law_303 : decode cL_law 303 = .ok (.iconst 2, 1) := by decide +kernel
theorem dL_law_304 : decode cL_law 304 = .ok (.if_icmp .ge 96, 3) := by decide +kernel
theorem dL_law_307 : decode cL_law 307 = .ok (.aload_n 1, 1) := by decide +kernel
theorem dL_law_308 : decode cL_law 308 = .ok (.iload 7, 2) := by decide +kernel
theorem dL_law_310 : decode cL_law 310 = .ok (.bipush 7, 2) := by decide +kernel
theorem dL_law_312 : decode cL_law 312 = .ok (.invokestatic 116, 3) := by decide +kernel
theorem dL_law_315 : decode cL_law 315 = .ok (.pop, 1) := by decide +kernel
theorem dL_law_316 : decode cL_law 316 = .ok (.aload_n 1, 1) := by decide +kernel
theorem dL_law_317 : decode cL_law 317 = .ok (.aload_n 1, 1) := by decide +kernel
theorem dL_law_318 : decode cL_law 318 = .ok (.invokevirtual 176, 3) := by decide +kernel
theorem dL_law_321 : decode cL_law 321 = .ok (.iconst 1, 1) := by decide +kernel
theorem dL_law_322 : decode cL_law 322 = .ok (.isub, 1) := by decide +kernel
theorem dL_law_323 : decode cL_law 323 = .ok (.invokestatic 122, 3) := by decide +kernel
theorem dL_law_326 : decode cL_law 326 = .ok (.pop, 1) := by decide +kernel
theorem dL_law_327 : decode cL_law 327 = .ok (.aload_n 1, 1) := by decide +kernel
theorem dL_law_328 : decode cL_law 328 = .ok (.aload_n 1, 1) := by decide +kernel
theorem dL_law_329 : decode cL_law 329 = .ok (.invokevirtual 176, 3) := by decide +kernel
theorem dL_law_332 : decode cL_law 332 = .ok (.iconst 1, 1) := by decide +kernel
theorem dL_law_333 : decode cL_law 333 = .ok (.isub, 1) := by decide +kernel
theorem dL_law_334 : decode cL_law 334 = .ok (.iconst 3, 1) := by decide +kernel
theorem dL_law_335 : decode cL_law 335 = .ok (.iload 7, 2) := by decide +kernel
theorem dL_law_337 : decode cL_law 337 = .ok (.imul, 1) := by decide +kernel
theorem dL_law_338 : decode cL_law 338 = .ok (.bipush 40, 2) := by decide +kernel
theorem dL_law_340 : decode cL_law 340 = .ok (.invokestatic 126, 3) := by decide +kernel
theorem dL_law_343 : decode cL_law 343 = .ok (.pop, 1) := by decide +kernel
theorem dL_law_344 : decode cL_law 344 = .ok (.aload_n 1, 1) := by decide +kernel
theorem dL_law_345 : decode cL_law 345 = .ok (.aload_n 1, 1) := by decide +kernel
theorem dL_law_346 : decode cL_law 346 = .ok (.invokevirtual 187, 3) := by decide +kernel
theorem dL_law_349 : decode cL_law 349 = .ok (.iconst 1, 1) := by decide +kernel
theorem dL_law_350 : decode cL_law 350 = .ok (.isub, 1) := by decide +kernel
theorem dL_law_351 : decode cL_law 351 = .ok (.aload_n 1, 1) := by decide +kernel
theorem dL_law_352 : decode cL_law 352 = .ok (.invokevirtual 176, 3) := by decide +kernel
theorem dL_law_355 : decode cL_law 355 = .ok (.iconst 1, 1) := by decide +kernel
theorem dL_law_356 : decode cL_law 356 = .ok (.isub, 1) := by decide +kernel
theorem dL_law_357 : decode cL_law 357 = .ok (.bipush 9, 2) := by decide +kernel
theorem dL_law_359 : decode cL_law 359 = .ok (.invokestatic 135, 3) := by decide +kernel
theorem dL_law_362 : decode cL_law 362 = .ok (.pop, 1) := by decide +kernel
theorem dL_law_363 : decode cL_law 363 = .ok (.aload_n 1, 1) := by decide +kernel
theorem dL_law_364 : decode cL_law 364 = .ok (.aload_n 1, 1) := by decide +kernel
theorem dL_law_365 : decode cL_law 365 = .ok (.invokevirtual 187, 3) := by decide +kernel
theorem dL_law_368 : decode cL_law 368 = .ok (.iconst 1, 1) := by decide +kernel
theorem dL_law_369 : decode cL_law 369 = .ok (.isub, 1) := by decide +kernel
theorem dL_law_370 : decode cL_law 370 = .ok (.aload_n 1, 1) := by decide +kernel
theorem dL_law_371 : decode cL_law 371 = .ok (.invokevirtual 176, 3) := by decide +kernel
theorem dL_law_374 : decode cL_law 374 = .ok (.iconst 1, 1) := by decide +kernel
theorem dL_law_375 : decode cL_law 375 = .ok (.isub, 1) := by decide +kernel
theorem dL_law_376 : decode cL_law 376 = .ok (.invokestatic 129, 3) := by decide +kernel
theorem dL_law_379 : decode cL_law 379 = .ok (.pop, 1) := by decide +kernel
theorem dL_law_380 : decode cL_law 380 = .ok (.aload_n 1, 1) := by decide +kernel
theorem dL_law_381 : decode cL_law 381 = .ok (.iconst 1, 1) := by decide +kernel
theorem dL_law_382 : decode cL_law 382 = .ok (.iload 7, 2) := by decide +kernel
theorem dL_law_384 : decode cL_law 384 = .ok (.iadd, 1) := by decide +kernel
theorem dL_law_385 : decode cL_law 385 = .ok (.invokestatic 119, 3) := by decide +kernel
theorem dL_law_388 : decode cL_law 388 = .ok (.pop, 1) := by decide +kernel
theorem dL_law_389 : decode cL_law 389 = .ok (.aload_n 1, 1) := by decide +kernel
theorem dL_law_390 : decode cL_law 390 = .ok (.invokestatic 312, 3) := by decide +kernel
theorem dL_law_393 : decode cL_law 393 = .ok (.istore_n 3, 1) := by decide +kernel
theorem dL_law_394 : decode cL_law 394 = .ok (.iinc 7 1, 3) := by decide +kernel
theorem dL_law_397 : decode cL_law 397 = .ok (.goto (-100), 3) := by decide +kernel
theorem dL_law_400 : decode cL_law 400 = .ok (.iload_n 3, 1) := by decide +kernel
theorem dL_law_401 : decode cL_law 401 = .ok (.ifCond .eq 35, 3) := by decide +kernel
theorem dL_law_404 : decode cL_law 404 = .ok (.aload_n 1, 1) := by decide +kernel
theorem dL_law_405 : decode cL_law 405 = .ok (.invokestatic 157, 3) := by decide +kernel
theorem dL_law_408 : decode cL_law 408 = .ok (.iload 6, 2) := by decide +kernel
theorem dL_law_410 : decode cL_law 410 = .ok (.if_icmp .ne 26, 3) := by decide +kernel
theorem dL_law_413 : decode cL_law 413 = .ok (.aload_n 1, 1) := by decide +kernel
theorem dL_law_414 : decode cL_law 414 = .ok (.invokestatic 287, 3) := by decide +kernel
theorem dL_law_417 : decode cL_law 417 = .ok (.lload 4, 2) := by decide +kernel
theorem dL_law_419 : decode cL_law 419 = .ok (.lcmp, 1) := by decide +kernel
theorem dL_law_420 : decode cL_law 420 = .ok (.ifCond .ne 16, 3) := by decide +kernel
theorem dL_law_423 : decode cL_law 423 = .ok (.aload_n 1, 1) := by decide +kernel
theorem dL_law_424 : decode cL_law 424 = .ok (.invokestatic 159, 3) := by decide +kernel
theorem dL_law_427 : decode cL_law 427 = .ok (.ldc 10, 2) := by decide +kernel
theorem dL_law_429 : decode cL_law 429 = .ok (.if_icmp .ne 7, 3) := by decide +kernel
theorem dL_law_432 : decode cL_law 432 = .ok (.iconst 1, 1) := by decide +kernel
theorem dL_law_433 : decode cL_law 433 = .ok (.goto 4, 3) := by decide +kernel
theorem dL_law_436 : decode cL_law 436 = .ok (.iconst 0, 1) := by decide +kernel
theorem dL_law_437 : decode cL_law 437 = .ok (.ireturn, 1) := by decide +kernel
