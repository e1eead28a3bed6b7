theorem dL_below_0 : decode cL_below 0 = .ok (.iload_n 0, 1) := by decide +kernel
theorem dL_below_1 : decode cL_below 1 = .ok (.ldc 7, 2) := by decide +kernel
theorem dL_below_3 : decode cL_below 3 = .ok (.iand, 1) := by decide +kernel
theorem dL_below_4 : decode cL_below 4 = .ok (.iload_n 1, 1) := by decide +kernel
theorem dL_below_5 : decode cL_below 5 = .ok (.irem, 1) := by decide +kernel
theorem dL_below_6 : decode cL_below 6 = .ok (.ireturn, 1) := by decide +kernel
theorem dL_cell_0 : decode cL_cell 0 = .ok (.iload_n 1, 1) := by decide +kernel
theorem dL_cell_1 : decode cL_cell 1 = .ok (.aload_n 0, 1) := by decide +kernel
theorem dL_cell_2 : decode cL_cell 2 = .ok (.arraylength, 1) := by decide +kernel
theorem dL_cell_3 : decode cL_cell 3 = .ok (.if_icmp .ge 9, 3) := by decide +kernel
theorem dL_cell_6 : decode cL_cell 6 = .ok (.aload_n 0, 1) := by decide +kernel
theorem dL_cell_7 : decode cL_cell 7 = .ok (.iload_n 1, 1) := by decide +kernel
theorem dL_cell_8 : decode cL_cell 8 = .ok (.iaload, 1) := by decide +kernel
theorem dL_cell_9 : decode cL_cell 9 = .ok (.goto 9, 3) := by decide +kernel
theorem dL_cell_12 : decode cL_cell 12 = .ok (.ldc 8, 2) := by decide +kernel
theorem dL_cell_14 : decode cL_cell 14 = .ok (.iload_n 1, 1) := by decide +kernel
theorem dL_cell_15 : decode cL_cell 15 = .ok (.iconst 3, 1) := by decide +kernel
theorem dL_cell_16 : decode cL_cell 16 = .ok (.iadd, 1) := by decide +kernel
theorem dL_cell_17 : decode cL_cell 17 = .ok (.imul, 1) := by decide +kernel
theorem dL_cell_18 : decode cL_cell 18 = .ok (.ireturn, 1) := by decide +kernel
theorem dL_law_0 : decode cL_law 0 = .ok (.new 9, 3) := by decide +kernel
theorem dL_law_3 : decode cL_law 3 = .ok (.dup, 1) := by decide +kernel
theorem dL_law_4 : decode cL_law 4 = .ok (.invokespecial 11, 3) := by decide +kernel
theorem dL_law_7 : decode cL_law 7 = .ok (.astore_n 1, 1) := by decide +kernel
theorem dL_law_8 : decode cL_law 8 = .ok (.iconst 0, 1) := by decide +kernel
theorem dL_law_9 : decode cL_law 9 = .ok (.istore_n 2, 1) := by decide +kernel
theorem dL_law_10 : decode cL_law 10 = .ok (.iload_n 2, 1) := by decide +kernel
theorem dL_law_11 : decode cL_law 11 = .ok (.iconst 2, 1) := by decide +kernel
theorem dL_law_12 : decode cL_law 12 = .ok (.if_icmp .ge 40, 3) := by decide +kernel
theorem dL_law_15 : decode cL_law 15 = .ok (.aload_n 1, 1) := by decide +kernel
theorem dL_law_16 : decode cL_law 16 = .ok (.bipush 10, 2) := by decide +kernel
theorem dL_law_18 : decode cL_law 18 = .ok (.aload_n 0, 1) := by decide +kernel
theorem dL_law_19 : decode cL_law 19 = .ok (.iload_n 2, 1) := by decide +kernel
theorem dL_law_20 : decode cL_law 20 = .ok (.invokestatic 12, 3) := by decide +kernel
theorem dL_law_23 : decode cL_law 23 = .ok (.bipush 51, 2) := by decide +kernel
theorem dL_law_25 : decode cL_law 25 = .ok (.invokestatic 18, 3) := by decide +kernel
theorem dL_law_28 : decode cL_law 28 = .ok (.iadd, 1) := by decide +kernel
theorem dL_law_29 : decode cL_law 29 = .ok (.invokevirtual 22, 3) := by decide +kernel
theorem dL_law_32 : decode cL_law 32 = .ok (.iload_n 2, 1) := by decide +kernel
theorem dL_law_33 : decode cL_law 33 = .ok (.if_icmp .ne 11, 3) := by decide +kernel
theorem dL_law_36 : decode cL_law 36 = .ok (.aload_n 1, 1) := by decide +kernel
theorem dL_law_37 : decode cL_law 37 = .ok (.invokevirtual 26, 3) := by decide +kernel
theorem dL_law_40 : decode cL_law 40 = .ok (.iload_n 2, 1) := by decide +kernel
theorem dL_law_41 : decode cL_law 41 = .ok (.if_icmp .eq 5, 3) := by decide +kernel
theorem dL_law_44 : decode cL_law 44 = .ok (.iconst 0, 1) := by decide +kernel
theorem dL_law_45 : decode cL_law 45 = .ok (.ireturn, 1) := by decide +kernel
theorem dL_law_46 : decode cL_law 46 = .ok (.iinc 2 1, 3) := by decide +kernel
theorem dL_law_49 : decode cL_law 49 = .ok (.goto (-39), 3) := by decide +kernel
theorem dL_law_52 : decode cL_law 52 = .ok (.iconst 2, 1) := by decide +kernel
theorem dL_law_53 : decode cL_law 53 = .ok (.aload_n 0, 1) := by decide +kernel
theorem dL_law_54 : decode cL_law 54 = .ok (.iconst 2, 1) := by decide +kernel
theorem dL_law_55 : decode cL_law 55 = .ok (.invokestatic 12, 3) := by decide +kernel
theorem dL_law_58 : decode cL_law 58 = .ok (.bipush 7, 2) := by decide +kernel
theorem dL_law_60 : decode cL_law 60 = .ok (.invokestatic 18, 3) := by decide +kernel
theorem dL_law_63 : decode cL_law 63 = .ok (.iadd, 1) := by decide +kernel
theorem dL_law_64 : decode cL_law 64 = .ok (.istore_n 2, 1) := by decide +kernel
theorem dL_law_65 : decode cL_law 65 = .ok (.iconst 0, 1) := by decide +kernel
theorem dL_law_66 : decode cL_law 66 = .ok (.istore_n 3, 1) := by decide +kernel
theorem dL_law_67 : decode cL_law 67 = .ok (.iload_n 3, 1) := by decide +kernel
theorem dL_law_68 : decode cL_law 68 = .ok (.iload_n 2, 1) := by decide +kernel
theorem dL_law_69 : decode cL_law 69 = .ok (.if_icmp .ge 64, 3) := by decide +kernel
theorem dL_law_72 : decode cL_law 72 = .ok (.aload_n 0, 1) := by decide +kernel
theorem dL_law_73 : decode cL_law 73 = .ok (.iload_n 3, 1) := by decide +kernel
theorem dL_law_74 : decode cL_law 74 = .ok (.iconst 3, 1) := by decide +kernel
theorem dL_law_75 : decode cL_law 75 = .ok (.iadd, 1) := by decide +kernel
theorem dL_law_76 : decode cL_law 76 = .ok (.invokestatic 12, 3) := by decide +kernel
theorem dL_law_79 : decode cL_law 79 = .ok (.istore 4, 2) := by decide +kernel
theorem dL_law_81 : decode cL_law 81 = .ok (.aload_n 1, 1) := by decide +kernel
theorem dL_law_82 : decode cL_law 82 = .ok (.iload 4, 2) := by decide +kernel
theorem dL_law_84 : decode cL_law 84 = .ok (.iconst 2, 1) := by decide +kernel
theorem dL_law_85 : decode cL_law 85 = .ok (.invokestatic 18, 3) := by decide +kernel
theorem dL_law_88 : decode cL_law 88 = .ok (.iload 4, 2) := by decide +kernel
theorem dL_law_90 : decode cL_law 90 = .ok (.iconst 2, 1) := by decide +kernel
theorem dL_law_91 : decode cL_law 91 = .ok (.ishr, 1) := by decide +kernel
theorem dL_law_92 : decode cL_law 92 = .ok (.bipush 20, 2) := by decide +kernel
theorem dL_law_94 : decode cL_law 94 = .ok (.invokestatic 18, 3) := by decide +kernel
theorem dL_law_97 : decode cL_law 97 = .ok (.iconst 1, 1) := by decide +kernel
theorem dL_law_98 : decode cL_law 98 = .ok (.iload 4, 2) := by decide +kernel
theorem dL_law_100 : decode cL_law 100 = .ok (.iconst 4, 1) := by decide +kernel
theorem dL_law_101 : decode cL_law 101 = .ok (.ishr, 1) := by decide +kernel
theorem dL_law_102 : decode cL_law 102 = .ok (.iconst 5, 1) := by decide +kernel
theorem dL_law_103 : decode cL_law 103 = .ok (.invokestatic 18, 3) := by decide +kernel
theorem dL_law_106 : decode cL_law 106 = .ok (.iadd, 1) := by decide +kernel
theorem dL_law_107 : decode cL_law 107 = .ok (.iload 4, 2) := by decide +kernel
theorem dL_law_109 : decode cL_law 109 = .ok (.iconst 5, 1) := by decide +kernel
theorem dL_law_110 : decode cL_law 110 = .ok (.ishr, 1) := by decide +kernel
theorem dL_law_111 : decode cL_law 111 = .ok (.bipush 7, 2) := by decide +kernel
theorem dL_law_113 : decode cL_law 113 = .ok (.invokestatic 18, 3) := by decide +kernel
theorem dL_law_116 : decode cL_law 116 = .ok (.iconst 3, 1) := by decide +kernel
theorem dL_law_117 : decode cL_law 117 = .ok (.isub, 1) := by decide +kernel
theorem dL_law_118 : decode cL_law 118 = .ok (.invokevirtual 30, 3) := by decide +kernel
theorem dL_law_121 : decode cL_law 121 = .ok (.iload_n 3, 1) := by decide +kernel
theorem dL_law_122 : decode cL_law 122 = .ok (.if_icmp .eq 5, 3) := by decide +kernel
theorem dL_law_125 : decode cL_law 125 = .ok (.iconst 0, 1) := by decide +kernel
theorem dL_law_126 : decode cL_law 126 = .ok (.ireturn, 1) := by decide +kernel
theorem dL_law_127 : decode cL_law 127 = .ok (.iinc 3 1, 3) := by decide +kernel
theorem dL_law_130 : decode cL_law 130 = .ok (.goto (-63), 3) := by decide +kernel
theorem dL_law_133 : decode cL_law 133 = .ok (.iconst 0, 1) := by decide +kernel
theorem dL_law_134 : decode cL_law 134 = .ok (.istore_n 3, 1) := by decide +kernel
theorem dL_law_135 : decode cL_law 135 = .ok (.iload_n 3, 1) := by decide +kernel
theorem dL_law_136 : decode cL_law 136 = .ok (.iconst 2, 1) := by decide +kernel
theorem dL_law_137 : decode cL_law 137 = .ok (.if_icmp .ge 97, 3) := by decide +kernel
theorem dL_law_140 : decode cL_law 140 = .ok (.iconst 0, 1) := by decide +kernel
theorem dL_law_141 : decode cL_law 141 = .ok (.istore 4, 2) := by decide +kernel
theorem dL_law_143 : decode cL_law 143 = .ok (.iload 4, 2) := by decide +kernel
theorem dL_law_145 : decode cL_law 145 = .ok (.iconst 3, 1) := by decide +kernel
theorem dL_law_146 : decode cL_law 146 = .ok (.if_icmp .ge 82, 3) := by decide +kernel
theorem dL_law_149 : decode cL_law 149 = .ok (.aload_n 0, 1) := by decide +kernel
theorem dL_law_150 : decode cL_law 150 = .ok (.iconst 3, 1) := by decide +kernel
theorem dL_law_151 : decode cL_law 151 = .ok (.iload_n 3, 1) := by decide +kernel
theorem dL_law_152 : decode cL_law 152 = .ok (.imul, 1) := by decide +kernel
theorem dL_law_153 : decode cL_law 153 = .ok (.iload 4, 2) := by decide +kernel
theorem dL_law_155 : decode cL_law 155 = .ok (.iadd, 1) := by decide +kernel
theorem dL_law_156 : decode cL_law 156 = .ok (.invokestatic 12, 3) := by decide +kernel
theorem dL_law_159 : decode cL_law 159 = .ok (.istore 5, 2) := by decide +kernel
theorem dL_law_161 : decode cL_law 161 = .ok (.aload_n 1, 1) := by decide +kernel
theorem dL_law_162 : decode cL_law 162 = .ok (.iload_n 3, 1) := by decide +kernel
theorem dL_law_163 : decode cL_law 163 = .ok (.iload 5, 2) := by decide +kernel
theorem dL_law_165 : decode cL_law 165 = .ok (.bipush 8, 2) := by decide +kernel
theorem dL_law_167 : decode cL_law 167 = .ok (.invokestatic 18, 3) := by decide +kernel
theorem dL_law_170 : decode cL_law 170 = .ok (.iconst 1, 1) := by decide +kernel
theorem dL_law_171 : decode cL_law 171 = .ok (.iload 5, 2) := by decide +kernel
theorem dL_law_173 : decode cL_law 173 = .ok (.iconst 3, 1) := by decide +kernel
theorem dL_law_174 : decode cL_law 174 = .ok (.ishr, 1) := by decide +kernel
theorem dL_law_175 : decode cL_law 175 = .ok (.sipush 1023, 3) := by decide +kernel
theorem dL_law_178 : decode cL_law 178 = .ok (.invokestatic 18, 3) := by decide +kernel
theorem dL_law_181 : decode cL_law 181 = .ok (.iadd, 1) := by decide +kernel
theorem dL_law_182 : decode cL_law 182 = .ok (.iload 4, 2) := by decide +kernel
theorem dL_law_184 : decode cL_law 184 = .ok (.ifCond .ne 17, 3) := by decide +kernel
theorem dL_law_187 : decode cL_law 187 = .ok (.bipush 16, 2) := by decide +kernel
theorem dL_law_189 : decode cL_law 189 = .ok (.iload 5, 2) := by decide +kernel
theorem dL_law_191 : decode cL_law 191 = .ok (.iconst 4, 1) := by decide +kernel
theorem dL_law_192 : decode cL_law 192 = .ok (.ishr, 1) := by decide +kernel
theorem dL_law_193 : decode cL_law 193 = .ok (.iconst 5, 1) := by decide +kernel
theorem dL_law_194 : decode cL_law 194 = .ok (.invokestatic 18, 3) := by decide +kernel
theorem dL_law_197 : decode cL_law 197 = .ok (.iadd, 1) := by decide +kernel
theorem dL_law_198 : decode cL_law 198 = .ok (.goto 12, 3) := by decide +kernel
theorem dL_law_201 : decode cL_law 201 = .ok (.iload 5, 2) := by decide +kernel
theorem dL_law_203 : decode cL_law 203 = .ok (.iconst 5, 1) := by decide +kernel
theorem dL_law_204 : decode cL_law 204 = .ok (.ishr, 1) := by decide +kernel
theorem dL_law_205 : decode cL_law 205 = .ok (.bipush 7, 2) := by decide +kernel
theorem dL_law_207 : decode cL_law 207 = .ok (.invokestatic 18, 3) := by decide +kernel
theorem dL_law_210 : decode cL_law 210 = .ok (.invokevirtual 34, 3) := by decide +kernel
theorem dL_law_213 : decode cL_law 213 = .ok (.iload 4, 2) := by decide +kernel
theorem dL_law_215 : decode cL_law 215 = .ok (.iconst 1, 1) := by decide +kernel
theorem dL_law_216 : decode cL_law 216 = .ok (.iadd, 1) := by decide +kernel
theorem dL_law_217 : decode cL_law 217 = .ok (.if_icmp .eq 5, 3) := by decide +kernel
theorem dL_law_220 : decode cL_law 220 = .ok (.iconst 0, 1) := by decide +kernel
theorem dL_law_221 : decode cL_law 221 = .ok (.ireturn, 1) := by decide +kernel
theorem dL_law_222 : decode cL_law 222 = .ok (.iinc 4 1, 3) := by decide +kernel
theorem dL_law_225 : decode cL_law 225 = .ok (.goto (-82), 3) := by decide +kernel
theorem dL_law_228 : decode cL_law 228 = .ok (.iinc 3 1, 3) := by decide +kernel
theorem dL_law_231 : decode cL_law 231 = .ok (.goto (-96), 3) := by decide +kernel
theorem dL_law_234 : decode cL_law 234 = .ok (.bipush 10, 2) := by decide +kernel
theorem dL_law_236 : decode cL_law 236 = .ok (.newarray .boolean, 2) := by decide +kernel
theorem dL_law_238 : decode cL_law 238 = .ok (.astore_n 3, 1) := by decide +kernel
theorem dL_law_239 : decode cL_law 239 = .ok (.sipush 3000, 3) := by decide +kernel
theorem dL_law_242 : decode cL_law 242 = .ok (.istore 4, 2) := by decide +kernel
theorem dL_law_244 : decode cL_law 244 = .ok (.iconst 0, 1) := by decide +kernel
theorem dL_law_245 : decode cL_law 245 = .ok (.istore 5, 2) := by decide +kernel
theorem dL_law_247 : decode cL_law 247 = .ok (.iload 5, 2) := by decide +kernel
theorem dL_law_249 : decode cL_law 249 = .ok (.bipush 60, 2) := by decide +kernel
theorem dL_law_251 : decode cL_law 251 = .ok (.if_icmp .ge 686, 3) := by decide +kernel
theorem dL_law_254 : decode cL_law 254 = .ok (.aload_n 0, 1) := by decide +kernel
theorem dL_law_255 : decode cL_law 255 = .ok (.iload 5, 2) := by decide +kernel
theorem dL_law_257 : decode cL_law 257 = .ok (.bipush 16, 2) := by decide +kernel
theorem dL_law_259 : decode cL_law 259 = .ok (.irem, 1) := by decide +kernel
theorem dL_law_260 : decode cL_law 260 = .ok (.invokestatic 12, 3) := by decide +kernel
theorem dL_law_263 : decode cL_law 263 = .ok (.bipush 31, 2) := by decide +kernel
theorem dL_law_265 : decode cL_law 265 = .ok (.iload 5, 2) := by decide +kernel
theorem dL_law_267 : decode cL_law 267 = .ok (.imul, 1) := by decide +kernel
theorem dL_law_268 : decode cL_law 268 = .ok (.iadd, 1) := by decide +kernel
theorem dL_law_269 : decode cL_law 269 = .ok (.istore 6, 2) := by decide +kernel
theorem dL_law_271 : decode cL_law 271 = .ok (.aload_n 0, 1) := by decide +kernel
theorem dL_law_272 : decode cL_law 272 = .ok (.bipush 7, 2) := by decide +kernel
theorem dL_law_274 : decode cL_law 274 = .ok (.iload 5, 2) := by decide +kernel
theorem dL_law_276 : decode cL_law 276 = .ok (.imul, 1) := by decide +kernel
theorem dL_law_277 : decode cL_law 277 = .ok (.iconst 3, 1) := by decide +kernel
theorem dL_law_278 : decode cL_law 278 = .ok (.iadd, 1) := by decide +kernel
theorem dL_law_279 : decode cL_law 279 = .ok (.bipush 16, 2) := by decide +kernel
theorem dL_law_281 : decode cL_law 281 = .ok (.irem, 1) := by decide +kernel
theorem dL_law_282 : decode cL_law 282 = .ok (.invokestatic 12, 3) := by decide +kernel
theorem dL_law_285 : decode cL_law 285 = .ok (.iconst 5, 1) := by decide +kernel
theorem dL_law_286 : decode cL_law 286 = .ok (.iload 5, 2) := by decide +kernel
theorem dL_law_288 : decode cL_law 288 = .ok (.imul, 1) := by decide +kernel
theorem dL_law_289 : decode cL_law 289 = .ok (.iadd, 1) := by decide +kernel
theorem dL_law_290 : decode cL_law 290 = .ok (.istore 7, 2) := by decide +kernel
theorem dL_law_292 : decode cL_law 292 = .ok (.iload 7, 2) := by decide +kernel
theorem dL_law_294 : decode cL_law 294 = .ok (.iload_n 2, 1) := by decide +kernel
theorem dL_law_295 : decode cL_law 295 = .ok (.invokestatic 18, 3) := by decide +kernel
theorem dL_law_298 : decode cL_law 298 = .ok (.istore 8, 2) := by decide +kernel
theorem dL_law_300 : decode cL_law 300 = .ok (.iload 7, 2) := by decide +kernel
theorem dL_law_302 : decode cL_law 302 = .ok (.iconst 2, 1) := by decide +kernel
theorem dL_law_303 : decode cL_law 303 = .ok (.ishr, 1) := by decide +kernel
theorem dL_law_304 : decode cL_law 304 = .ok (.iconst 2, 1) := by decide +kernel
theorem dL_law_305 : decode cL_law 305 = .ok (.invokestatic 18, 3) := by decide +kernel
theorem dL_law_308 : decode cL_law 308 = .ok (.istore 9, 2) := by decide +kernel
theorem dL_law_310 : decode cL_law 310 = .ok (.aload_n 1, 1) := by decide +kernel
theorem dL_law_311 : decode cL_law 311 = .ok (.bipush 15, 2) := by decide +kernel
theorem dL_law_313 : decode cL_law 313 = .ok (.invokevirtual 37, 3) := by decide +kernel
theorem dL_law_316 : decode cL_law 316 = .ok (.iconst 1, 1) := by decide +kernel
theorem dL_law_317 : decode cL_law 317 = .ok (.if_icmp .ne 7, 3) := by decide +kernel
theorem dL_law_320 : decode cL_law 320 = .ok (.iconst 1, 1) := by decide +kernel
theorem dL_law_321 : decode cL_law 321 = .ok (.goto 4, 3) := by decide +kernel
theorem dL_law_324 : decode cL_law 324 = .ok (.iconst 0, 1) := by decide +kernel
theorem dL_law_325 : decode cL_law 325 = .ok (.istore 10, 2) := by decide +kernel
theorem dL_law_327 : decode cL_law 327 = .ok (.iload 6, 2) := by decide +kernel
theorem dL_law_329 : decode cL_law 329 = .ok (.bipush 17, 2) := by decide +kernel
theorem dL_law_331 : decode cL_law 331 = .ok (.invokestatic 18, 3) := by decide +kernel
theorem dL_law_334 : decode cL_law 334 = .ok (.tableswitch 528 0 12 #[66, 66, 109, 109, 165, 216, 239, 311, 376, 425, 425, 477, 504], 66) := by decide +kernel
theorem dL_law_400 : decode cL_law 400 = .ok (.iload 10, 2) := by decide +kernel
theorem dL_law_402 : decode cL_law 402 = .ok (.ifCond .ne 481, 3) := by decide +kernel
theorem dL_law_405 : decode cL_law 405 = .ok (.aload_n 1, 1) := by decide +kernel
theorem dL_law_406 : decode cL_law 406 = .ok (.iload 8, 2) := by decide +kernel
theorem dL_law_408 : decode cL_law 408 = .ok (.iload 6, 2) := by decide +kernel
theorem dL_law_410 : decode cL_law 410 = .ok (.iconst 4, 1) := by decide +kernel
theorem dL_law_411 : decode cL_law 411 = .ok (.ishr, 1) := by decide +kernel
theorem dL_law_412 : decode cL_law 412 = .ok (.iconst 5, 1) := by decide +kernel
theorem dL_law_413 : decode cL_law 413 = .ok (.invokestatic 18, 3) := by decide +kernel
theorem dL_law_416 : decode cL_law 416 = .ok (.invokevirtual 40, 3) := by decide +kernel
theorem dL_law_419 : decode cL_law 419 = .ok (.iconst 4, 1) := by decide +kernel
theorem dL_law_420 : decode cL_law 420 = .ok (.if_icmp .gt 21, 3) := by decide +kernel
theorem dL_law_423 : decode cL_law 423 = .ok (.aload_n 1, 1) := by decide +kernel
theorem dL_law_424 : decode cL_law 424 = .ok (.iload 8, 2) := by decide +kernel
theorem dL_law_426 : decode cL_law 426 = .ok (.iconst 4, 1) := by decide +kernel
theorem dL_law_427 : decode cL_law 427 = .ok (.invokevirtual 43, 3) := by decide +kernel
theorem dL_law_430 : decode cL_law 430 = .ok (.iload 6, 2) := by decide +kernel
theorem dL_law_432 : decode cL_law 432 = .ok (.iconst 4, 1) := by decide +kernel
theorem dL_law_433 : decode cL_law 433 = .ok (.ishr, 1) := by decide +kernel
theorem dL_law_434 : decode cL_law 434 = .ok (.iconst 5, 1) := by decide +kernel
theorem dL_law_435 : decode cL_law 435 = .ok (.invokestatic 18, 3) := by decide +kernel
theorem dL_law_438 : decode cL_law 438 = .ok (.if_icmp .eq 445, 3) := by decide +kernel
theorem dL_law_441 : decode cL_law 441 = .ok (.iconst 0, 1) := by decide +kernel
theorem dL_law_442 : decode cL_law 442 = .ok (.ireturn, 1) := by decide +kernel
theorem dL_law_443 : decode cL_law 443 = .ok (.iload 10, 2) := by decide +kernel
theorem dL_law_445 : decode cL_law 445 = .ok (.ifCond .ne 438, 3) := by decide +kernel
theorem dL_law_448 : decode cL_law 448 = .ok (.aload_n 1, 1) := by decide +kernel
theorem dL_law_449 : decode cL_law 449 = .ok (.iload 9, 2) := by decide +kernel
theorem dL_law_451 : decode cL_law 451 = .ok (.iconst 4, 1) := by decide +kernel
theorem dL_law_452 : decode cL_law 452 = .ok (.invokevirtual 46, 3) := by decide +kernel
theorem dL_law_455 : decode cL_law 455 = .ok (.ifCond .ne 428, 3) := by decide +kernel
theorem dL_law_458 : decode cL_law 458 = .ok (.aload_n 1, 1) := by decide +kernel
theorem dL_law_459 : decode cL_law 459 = .ok (.iload 9, 2) := by decide +kernel
theorem dL_law_461 : decode cL_law 461 = .ok (.iload 6, 2) := by decide +kernel
theorem dL_law_463 : decode cL_law 463 = .ok (.iconst 4, 1) := by decide +kernel
theorem dL_law_464 : decode cL_law 464 = .ok (.ishr, 1) := by decide +kernel
theorem dL_law_465 : decode cL_law 465 = .ok (.bipush 11, 2) := by decide +kernel
theorem dL_law_467 : decode cL_law 467 = .ok (.invokestatic 18, 3) := by decide +kernel
theorem dL_law_470 : decode cL_law 470 = .ok (.invokevirtual 49, 3) := by decide +kernel
theorem dL_law_473 : decode cL_law 473 = .ok (.bipush 10, 2) := by decide +kernel
theorem dL_law_475 : decode cL_law 475 = .ok (.if_icmp .gt 22, 3) := by decide +kernel
theorem dL_law_478 : decode cL_law 478 = .ok (.aload_n 1, 1) := by decide +kernel
theorem dL_law_479 : decode cL_law 479 = .ok (.iload 9, 2) := by decide +kernel
theorem dL_law_481 : decode cL_law 481 = .ok (.iconst 1, 1) := by decide +kernel
theorem dL_law_482 : decode cL_law 482 = .ok (.invokevirtual 46, 3) := by decide +kernel
theorem dL_law_485 : decode cL_law 485 = .ok (.iload 6, 2) := by decide +kernel
theorem dL_law_487 : decode cL_law 487 = .ok (.iconst 4, 1) := by decide +kernel
theorem dL_law_488 : decode cL_law 488 = .ok (.ishr, 1) := by decide +kernel
theorem dL_law_489 : decode cL_law 489 = .ok (.bipush 11, 2) := by decide +kernel
theorem dL_law_491 : decode cL_law 491 = .ok (.invokestatic 18, 3) := by decide +kernel
theorem dL_law_494 : decode cL_law 494 = .ok (.if_icmp .eq 389, 3) := by decide +kernel
theorem dL_law_497 : decode cL_law 497 = .ok (.iconst 0, 1) := by decide +kernel
theorem dL_law_498 : decode cL_law 498 = .ok (.ireturn, 1) := by decide +kernel
theorem dL_law_499 : decode cL_law 499 = .ok (.aload_n 1, 1) := by decide +kernel
theorem dL_law_500 : decode cL_law 500 = .ok (.iload 9, 2) := by decide +kernel
theorem dL_law_502 : decode cL_law 502 = .ok (.iconst 4, 1) := by decide +kernel
theorem dL_law_503 : decode cL_law 503 = .ok (.invokevirtual 46, 3) := by decide +kernel
theorem dL_law_506 : decode cL_law 506 = .ok (.iconst 1, 1) := by decide +kernel
theorem dL_law_507 : decode cL_law 507 = .ok (.if_icmp .ne 376, 3) := by decide +kernel
theorem dL_law_510 : decode cL_law 510 = .ok (.aload_n 1, 1) := by decide +kernel
theorem dL_law_511 : decode cL_law 511 = .ok (.iconst 5, 1) := by decide +kernel
theorem dL_law_512 : decode cL_law 512 = .ok (.invokevirtual 37, 3) := by decide +kernel
theorem dL_law_515 : decode cL_law 515 = .ok (.sipush 300, 3) := by decide +kernel
theorem dL_law_518 : decode cL_law 518 = .ok (.if_icmp .lt 365, 3) := by decide +kernel
theorem dL_law_521 : decode cL_law 521 = .ok (.aload_n 1, 1) := by decide +kernel
theorem dL_law_522 : decode cL_law 522 = .ok (.iload 9, 2) := by decide +kernel
theorem dL_law_524 : decode cL_law 524 = .ok (.invokevirtual 52, 3) := by decide +kernel
theorem dL_law_527 : decode cL_law 527 = .ok (.aload_n 1, 1) := by decide +kernel
theorem dL_law_528 : decode cL_law 528 = .ok (.iload 9, 2) := by decide +kernel
theorem dL_law_530 : decode cL_law 530 = .ok (.bipush 6, 2) := by decide +kernel
theorem dL_law_532 : decode cL_law 532 = .ok (.invokevirtual 46, 3) := by decide +kernel
theorem dL_law_535 : decode cL_law 535 = .ok (.if_icmp .ne 13, 3) := by decide +kernel
theorem dL_law_538 : decode cL_law 538 = .ok (.aload_n 1, 1) := by decide +kernel
theorem dL_law_539 : decode cL_law 539 = .ok (.iload 9, 2) := by decide +kernel
theorem dL_law_541 : decode cL_law 541 = .ok (.iconst 4, 1) := by decide +kernel
theorem dL_law_542 : decode cL_law 542 = .ok (.invokevirtual 46, 3) := by decide +kernel
theorem dL_law_545 : decode cL_law 545 = .ok (.ifCond .eq 338, 3) := by decide +kernel
theorem dL_law_548 : decode cL_law 548 = .ok (.iconst 0, 1) := by decide +kernel
theorem dL_law_549 : decode cL_law 549 = .ok (.ireturn, 1) := by decide +kernel
theorem dL_law_550 : decode cL_law 550 = .ok (.aload_n 1, 1) := by decide +kernel
theorem dL_law_551 : decode cL_law 551 = .ok (.iload 8, 2) := by decide +kernel
theorem dL_law_553 : decode cL_law 553 = .ok (.iconst 1, 1) := by decide +kernel
theorem dL_law_554 : decode cL_law 554 = .ok (.invokevirtual 55, 3) := by decide +kernel
theorem dL_law_557 : decode cL_law 557 = .ok (.ifCond .eq 326, 3) := by decide +kernel
theorem dL_law_560 : decode cL_law 560 = .ok (.aload_n 1, 1) := by decide +kernel
theorem dL_law_561 : decode cL_law 561 = .ok (.iload 8, 2) := by decide +kernel
theorem dL_law_563 : decode cL_law 563 = .ok (.bipush 9, 2) := by decide +kernel
theorem dL_law_565 : decode cL_law 565 = .ok (.invokevirtual 43, 3) := by decide +kernel
theorem dL_law_568 : decode cL_law 568 = .ok (.ifCond .ne 315, 3) := by decide +kernel
theorem dL_law_571 : decode cL_law 571 = .ok (.iconst 0, 1) := by decide +kernel
theorem dL_law_572 : decode cL_law 572 = .ok (.ireturn, 1) := by decide +kernel
theorem dL_law_573 : decode cL_law 573 = .ok (.aload_n 3, 1) := by decide +kernel
theorem dL_law_574 : decode cL_law 574 = .ok (.iload 8, 2) := by decide +kernel
theorem dL_law_576 : decode cL_law 576 = .ok (.iload 6, 2) := by decide +kernel
theorem dL_law_578 : decode cL_law 578 = .ok (.iconst 5, 1) := by decide +kernel
theorem dL_law_579 : decode cL_law 579 = .ok (.ishr, 1) := by decide +kernel
theorem dL_law_580 : decode cL_law 580 = .ok (.iconst 2, 1) := by decide +kernel
theorem dL_law_581 : decode cL_law 581 = .ok (.invokestatic 18, 3) := by decide +kernel
theorem dL_law_584 : decode cL_law 584 = .ok (.ifCond .ne 7, 3) := by decide +kernel
theorem dL_law_587 : decode cL_law 587 = .ok (.iconst 1, 1) := by decide +kernel
theorem dL_law_588 : decode cL_law 588 = .ok (.goto 4, 3) := by decide +kernel
theorem dL_law_591 : decode cL_law 591 = .ok (.iconst 0, 1) := by decide +kernel
theorem dL_law_592 : decode cL_law 592 = .ok (.bastore, 1) := by decide +kernel
theorem dL_law_593 : decode cL_law 593 = .ok (.aload_n 1, 1) := by decide +kernel
theorem dL_law_594 : decode cL_law 594 = .ok (.iload 8, 2) := by decide +kernel
theorem dL_law_596 : decode cL_law 596 = .ok (.bipush 6, 2) := by decide +kernel
theorem dL_law_598 : decode cL_law 598 = .ok (.invokevirtual 43, 3) := by decide +kernel
theorem dL_law_601 : decode cL_law 601 = .ok (.iconst 1, 1) := by decide +kernel
theorem dL_law_602 : decode cL_law 602 = .ok (.if_icmp .ne 7, 3) := by decide +kernel
theorem dL_law_605 : decode cL_law 605 = .ok (.iconst 1, 1) := by decide +kernel
theorem dL_law_606 : decode cL_law 606 = .ok (.goto 4, 3) := by decide +kernel
theorem dL_law_609 : decode cL_law 609 = .ok (.iconst 0, 1) := by decide +kernel
theorem dL_law_610 : decode cL_law 610 = .ok (.istore 11, 2) := by decide +kernel
theorem dL_law_612 : decode cL_law 612 = .ok (.aload_n 1, 1) := by decide +kernel
theorem dL_law_613 : decode cL_law 613 = .ok (.iload 8, 2) := by decide +kernel
theorem dL_law_615 : decode cL_law 615 = .ok (.iload 6, 2) := by decide +kernel
theorem dL_law_617 : decode cL_law 617 = .ok (.iconst 4, 1) := by decide +kernel
theorem dL_law_618 : decode cL_law 618 = .ok (.ishr, 1) := by decide +kernel
theorem dL_law_619 : decode cL_law 619 = .ok (.iconst 4, 1) := by decide +kernel
theorem dL_law_620 : decode cL_law 620 = .ok (.invokestatic 18, 3) := by decide +kernel
theorem dL_law_623 : decode cL_law 623 = .ok (.ifCond .ne 7, 3) := by decide +kernel
theorem dL_law_626 : decode cL_law 626 = .ok (.iconst 1, 1) := by decide +kernel
theorem dL_law_627 : decode cL_law 627 = .ok (.goto 4, 3) := by decide +kernel
theorem dL_law_630 : decode cL_law 630 = .ok (.iconst 0, 1) := by decide +kernel
theorem dL_law_631 : decode cL_law 631 = .ok (.aload_n 3, 1) := by decide +kernel
theorem dL_law_632 : decode cL_law 632 = .ok (.iload 8, 2) := by decide +kernel
theorem dL_law_634 : decode cL_law 634 = .ok (.baload, 1) := by decide +kernel
theorem dL_law_635 : decode cL_law 635 = .ok (.invokevirtual 59, 3) := by decide +kernel
theorem dL_law_638 : decode cL_law 638 = .ok (.iload 11, 2) := by decide +kernel
theorem dL_law_640 : decode cL_law 640 = .ok (.if_icmp .eq 243, 3) := by decide +kernel
theorem dL_law_643 : decode cL_law 643 = .ok (.iconst 0, 1) := by decide +kernel
theorem dL_law_644 : decode cL_law 644 = .ok (.ireturn, 1) := by decide +kernel
theorem dL_law_645 : decode cL_law 645 = .ok (.iload 7, 2) := by decide +kernel
theorem dL_law_647 : decode cL_law 647 = .ok (.iconst 4, 1) := by decide +kernel
theorem dL_law_648 : decode cL_law 648 = .ok (.ishr, 1) := by decide +kernel
theorem dL_law_649 : decode cL_law 649 = .ok (.iconst 3, 1) := by decide +kernel
theorem dL_law_650 : decode cL_law 650 = .ok (.invokestatic 18, 3) := by decide +kernel
theorem dL_law_653 : decode cL_law 653 = .ok (.ifCond .ne 7, 3) := by decide +kernel
theorem dL_law_656 : decode cL_law 656 = .ok (.iconst 1, 1) := by decide +kernel
theorem dL_law_657 : decode cL_law 657 = .ok (.goto 4, 3) := by decide +kernel
theorem dL_law_660 : decode cL_law 660 = .ok (.iconst 0, 1) := by decide +kernel
theorem dL_law_661 : decode cL_law 661 = .ok (.istore 12, 2) := by decide +kernel
theorem dL_law_663 : decode cL_law 663 = .ok (.aload_n 1, 1) := by decide +kernel
theorem dL_law_664 : decode cL_law 664 = .ok (.iload 12, 2) := by decide +kernel
theorem dL_law_666 : decode cL_law 666 = .ok (.invokevirtual 63, 3) := by decide +kernel
theorem dL_law_669 : decode cL_law 669 = .ok (.iload 10, 2) := by decide +kernel
theorem dL_law_671 : decode cL_law 671 = .ok (.if_icmp .ne 37, 3) := by decide +kernel
theorem dL_law_674 : decode cL_law 674 = .ok (.iload 12, 2) := by decide +kernel
theorem dL_law_676 : decode cL_law 676 = .ok (.ifCond .eq 207, 3) := by decide +kernel
theorem dL_law_679 : decode cL_law 679 = .ok (.aload_n 1, 1) := by decide +kernel
theorem dL_law_680 : decode cL_law 680 = .ok (.bipush 14, 2) := by decide +kernel
theorem dL_law_682 : decode cL_law 682 = .ok (.invokevirtual 37, 3) := by decide +kernel
theorem dL_law_685 : decode cL_law 685 = .ok (.ifCond .ne 23, 3) := by decide +kernel
theorem dL_law_688 : decode cL_law 688 = .ok (.aload_n 1, 1) := by decide +kernel
theorem dL_law_689 : decode cL_law 689 = .ok (.iload 8, 2) := by decide +kernel
theorem dL_law_691 : decode cL_law 691 = .ok (.iconst 4, 1) := by decide +kernel
theorem dL_law_692 : decode cL_law 692 = .ok (.invokevirtual 43, 3) := by decide +kernel
theorem dL_law_695 : decode cL_law 695 = .ok (.ifCond .ne 13, 3) := by decide +kernel
theorem dL_law_698 : decode cL_law 698 = .ok (.aload_n 1, 1) := by decide +kernel
theorem dL_law_699 : decode cL_law 699 = .ok (.iload 9, 2) := by decide +kernel
theorem dL_law_701 : decode cL_law 701 = .ok (.iconst 1, 1) := by decide +kernel
theorem dL_law_702 : decode cL_law 702 = .ok (.invokevirtual 46, 3) := by decide +kernel
theorem dL_law_705 : decode cL_law 705 = .ok (.ifCond .eq 178, 3) := by decide +kernel
theorem dL_law_708 : decode cL_law 708 = .ok (.iconst 0, 1) := by decide +kernel
theorem dL_law_709 : decode cL_law 709 = .ok (.ireturn, 1) := by decide +kernel
theorem dL_law_710 : decode cL_law 710 = .ok (.iload 4, 2) := by decide +kernel
theorem dL_law_712 : decode cL_law 712 = .ok (.iconst 1, 1) := by decide +kernel
theorem dL_law_713 : decode cL_law 713 = .ok (.iload 7, 2) := by decide +kernel
theorem dL_law_715 : decode cL_law 715 = .ok (.iconst 5, 1) := by decide +kernel
theorem dL_law_716 : decode cL_law 716 = .ok (.imul, 1) := by decide +kernel
theorem dL_law_717 : decode cL_law 717 = .ok (.iload 6, 2) := by decide +kernel
theorem dL_law_719 : decode cL_law 719 = .ok (.iadd, 1) := by decide +kernel
theorem dL_law_720 : decode cL_law 720 = .ok (.sipush 2000, 3) := by decide +kernel
theorem dL_law_723 : decode cL_law 723 = .ok (.invokestatic 18, 3) := by decide +kernel
theorem dL_law_726 : decode cL_law 726 = .ok (.iadd, 1) := by decide +kernel
theorem dL_law_727 : decode cL_law 727 = .ok (.iadd, 1) := by decide +kernel
theorem dL_law_728 : decode cL_law 728 = .ok (.istore 4, 2) := by decide +kernel
theorem dL_law_730 : decode cL_law 730 = .ok (.aload_n 1, 1) := by decide +kernel
theorem dL_law_731 : decode cL_law 731 = .ok (.iconst 1, 1) := by decide +kernel
theorem dL_law_732 : decode cL_law 732 = .ok (.iload 7, 2) := by decide +kernel
theorem dL_law_734 : decode cL_law 734 = .ok (.iconst 5, 1) := by decide +kernel
theorem dL_law_735 : decode cL_law 735 = .ok (.imul, 1) := by decide +kernel
theorem dL_law_736 : decode cL_law 736 = .ok (.iload 6, 2) := by decide +kernel
theorem dL_law_738 : decode cL_law 738 = .ok (.iadd, 1) := by decide +kernel
theorem dL_law_739 : decode cL_law 739 = .ok (.sipush 2000, 3) := by decide +kernel
theorem dL_law_742 : decode cL_law 742 = .ok (.invokestatic 18, 3) := by decide +kernel
theorem dL_law_745 : decode cL_law 745 = .ok (.iadd, 1) := by decide +kernel
theorem dL_law_746 : decode cL_law 746 = .ok (.invokevirtual 67, 3) := by decide +kernel
theorem dL_law_749 : decode cL_law 749 = .ok (.aload_n 1, 1) := by decide +kernel
theorem dL_law_750 : decode cL_law 750 = .ok (.iconst 5, 1) := by decide +kernel
theorem dL_law_751 : decode cL_law 751 = .ok (.invokevirtual 37, 3) := by decide +kernel
theorem dL_law_754 : decode cL_law 754 = .ok (.if_icmp .eq 129, 3) := by decide +kernel
theorem dL_law_757 : decode cL_law 757 = .ok (.iconst 0, 1) := by decide +kernel
theorem dL_law_758 : decode cL_law 758 = .ok (.ireturn, 1) := by decide +kernel
theorem dL_law_759 : decode cL_law 759 = .ok (.aload_n 1, 1) := by decide +kernel
theorem dL_law_760 : decode cL_law 760 = .ok (.iconst 4, 1) := by decide +kernel
theorem dL_law_761 : decode cL_law 761 = .ok (.invokevirtual 37, 3) := by decide +kernel
theorem dL_law_764 : decode cL_law 764 = .ok (.bipush 20, 2) := by decide +kernel
theorem dL_law_766 : decode cL_law 766 = .ok (.if_icmp .ge 117, 3) := by decide +kernel
theorem dL_law_769 : decode cL_law 769 = .ok (.aload_n 1, 1) := by decide +kernel
theorem dL_law_770 : decode cL_law 770 = .ok (.iload 9, 2) := by decide +kernel
theorem dL_law_772 : decode cL_law 772 = .ok (.iload 6, 2) := by decide +kernel
theorem dL_law_774 : decode cL_law 774 = .ok (.iconst 4, 1) := by decide +kernel
theorem dL_law_775 : decode cL_law 775 = .ok (.ishr, 1) := by decide +kernel
theorem dL_law_776 : decode cL_law 776 = .ok (.bipush 10, 2) := by decide +kernel
theorem dL_law_778 : decode cL_law 778 = .ok (.invokestatic 18, 3) := by decide +kernel
theorem dL_law_781 : decode cL_law 781 = .ok (.invokevirtual 70, 3) := by decide +kernel
theorem dL_law_784 : decode cL_law 784 = .ok (.aload_n 1, 1) := by decide +kernel
theorem dL_law_785 : decode cL_law 785 = .ok (.iconst 4, 1) := by decide +kernel
theorem dL_law_786 : decode cL_law 786 = .ok (.invokevirtual 37, 3) := by decide +kernel
theorem dL_law_789 : decode cL_law 789 = .ok (.iconst 1, 1) := by decide +kernel
theorem dL_law_790 : decode cL_law 790 = .ok (.isub, 1) := by decide +kernel
theorem dL_law_791 : decode cL_law 791 = .ok (.if_icmp .ne 18, 3) := by decide +kernel
theorem dL_law_794 : decode cL_law 794 = .ok (.aload_n 1, 1) := by decide +kernel
theorem dL_law_795 : decode cL_law 795 = .ok (.aload_n 1, 1) := by decide +kernel
theorem dL_law_796 : decode cL_law 796 = .ok (.iconst 4, 1) := by decide +kernel
theorem dL_law_797 : decode cL_law 797 = .ok (.invokevirtual 37, 3) := by decide +kernel
theorem dL_law_800 : decode cL_law 800 = .ok (.iconst 1, 1) := by decide +kernel
theorem dL_law_801 : decode cL_law 801 = .ok (.isub, 1) := by decide +kernel
theorem dL_law_802 : decode cL_law 802 = .ok (.invokevirtual 73, 3) := by decide +kernel
theorem dL_law_805 : decode cL_law 805 = .ok (.iconst 3, 1) := by decide +kernel
theorem dL_law_806 : decode cL_law 806 = .ok (.if_icmp .eq 77, 3) := by decide +kernel
theorem dL_law_809 : decode cL_law 809 = .ok (.iconst 0, 1) := by decide +kernel
theorem dL_law_810 : decode cL_law 810 = .ok (.ireturn, 1) := by decide +kernel
theorem dL_law_811 : decode cL_law 811 = .ok (.aload_n 1, 1) := by decide +kernel
theorem dL_law_812 : decode cL_law 812 = .ok (.iload 6, 2) := by decide +kernel
theorem dL_law_814 : decode cL_law 814 = .ok (.iconst 4, 1) := by decide +kernel
theorem dL_law_815 : decode cL_law 815 = .ok (.ishr, 1) := by decide +kernel
theorem dL_law_816 : decode cL_law 816 = .ok (.bipush 9, 2) := by decide +kernel
theorem dL_law_818 : decode cL_law 818 = .ok (.invokestatic 18, 3) := by decide +kernel
theorem dL_law_821 : decode cL_law 821 = .ok (.iconst 4, 1) := by decide +kernel
theorem dL_law_822 : decode cL_law 822 = .ok (.isub, 1) := by decide +kernel
theorem dL_law_823 : decode cL_law 823 = .ok (.iload 7, 2) := by decide +kernel
theorem dL_law_825 : decode cL_law 825 = .ok (.iconst 3, 1) := by decide +kernel
theorem dL_law_826 : decode cL_law 826 = .ok (.invokestatic 18, 3) := by decide +kernel
theorem dL_law_829 : decode cL_law 829 = .ok (.invokevirtual 76, 3) := by decide +kernel
theorem dL_law_832 : decode cL_law 832 = .ok (.iconst 4, 1) := by decide +kernel
theorem dL_law_833 : decode cL_law 833 = .ok (.if_icmp .le 50, 3) := by decide +kernel
theorem dL_law_836 : decode cL_law 836 = .ok (.iconst 0, 1) := by decide +kernel
theorem dL_law_837 : decode cL_law 837 = .ok (.ireturn, 1) := by decide +kernel
theorem dL_law_838 : decode cL_law 838 = .ok (.aload_n 1, 1) := by decide +kernel
theorem dL_law_839 : decode cL_law 839 = .ok (.iload 8, 2) := by decide +kernel
theorem dL_law_841 : decode cL_law 841 = .ok (.iload 9, 2) := by decide +kernel
theorem dL_law_843 : decode cL_law 843 = .ok (.iconst 1, 1) := by decide +kernel
theorem dL_law_844 : decode cL_law 844 = .ok (.iload 6, 2) := by decide +kernel
theorem dL_law_846 : decode cL_law 846 = .ok (.iconst 4, 1) := by decide +kernel
theorem dL_law_847 : decode cL_law 847 = .ok (.ishr, 1) := by decide +kernel
theorem dL_law_848 : decode cL_law 848 = .ok (.bipush 60, 2) := by decide +kernel
theorem dL_law_850 : decode cL_law 850 = .ok (.invokestatic 18, 3) := by decide +kernel
theorem dL_law_853 : decode cL_law 853 = .ok (.iadd, 1) := by decide +kernel
theorem dL_law_854 : decode cL_law 854 = .ok (.invokestatic 79, 3) := by decide +kernel
theorem dL_law_857 : decode cL_law 857 = .ok (.ifCond .ne 26, 3) := by decide +kernel
theorem dL_law_860 : decode cL_law 860 = .ok (.iconst 0, 1) := by decide +kernel
theorem dL_law_861 : decode cL_law 861 = .ok (.ireturn, 1) := by decide +kernel
theorem dL_law_862 : decode cL_law 862 = .ok (.aload_n 1, 1) := by decide +kernel
theorem dL_law_863 : decode cL_law 863 = .ok (.iload_n 2, 1) := by decide +kernel
theorem dL_law_864 : decode cL_law 864 = .ok (.aload_n 3, 1) := by decide +kernel
theorem dL_law_865 : decode cL_law 865 = .ok (.iconst 1, 1) := by decide +kernel
theorem dL_law_866 : decode cL_law 866 = .ok (.iload 6, 2) := by decide +kernel
theorem dL_law_868 : decode cL_law 868 = .ok (.iconst 4, 1) := by decide +kernel
theorem dL_law_869 : decode cL_law 869 = .ok (.ishr, 1) := by decide +kernel
theorem dL_law_870 : decode cL_law 870 = .ok (.iconst 5, 1) := by decide +kernel
theorem dL_law_871 : decode cL_law 871 = .ok (.invokestatic 18, 3) := by decide +kernel
theorem dL_law_874 : decode cL_law 874 = .ok (.iadd, 1) := by decide +kernel
theorem dL_law_875 : decode cL_law 875 = .ok (.invokestatic 83, 3) := by decide +kernel
theorem dL_law_878 : decode cL_law 878 = .ok (.ifCond .ne 5, 3) := by decide +kernel
theorem dL_law_881 : decode cL_law 881 = .ok (.iconst 0, 1) := by decide +kernel
theorem dL_law_882 : decode cL_law 882 = .ok (.ireturn, 1) := by decide +kernel
theorem dL_law_883 : decode cL_law 883 = .ok (.aload_n 1, 1) := by decide +kernel
theorem dL_law_884 : decode cL_law 884 = .ok (.iconst 5, 1) := by decide +kernel
theorem dL_law_885 : decode cL_law 885 = .ok (.invokevirtual 37, 3) := by decide +kernel
theorem dL_law_888 : decode cL_law 888 = .ok (.aload_n 1, 1) := by decide +kernel
theorem dL_law_889 : decode cL_law 889 = .ok (.bipush 6, 2) := by decide +kernel
theorem dL_law_891 : decode cL_law 891 = .ok (.invokevirtual 37, 3) := by decide +kernel
theorem dL_law_894 : decode cL_law 894 = .ok (.iadd, 1) := by decide +kernel
theorem dL_law_895 : decode cL_law 895 = .ok (.aload_n 1, 1) := by decide +kernel
theorem dL_law_896 : decode cL_law 896 = .ok (.bipush 7, 2) := by decide +kernel
theorem dL_law_898 : decode cL_law 898 = .ok (.invokevirtual 37, 3) := by decide +kernel
theorem dL_law_901 : decode cL_law 901 = .ok (.iadd, 1) := by decide +kernel
theorem dL_law_902 : decode cL_law 902 = .ok (.aload_n 1, 1) := by decide +kernel
theorem dL_law_903 : decode cL_law 903 = .ok (.bipush 8, 2) := by decide +kernel
theorem dL_law_905 : decode cL_law 905 = .ok (.invokevirtual 37, 3) := by decide +kernel
theorem dL_law_908 : decode cL_law 908 = .ok (.iadd, 1) := by decide +kernel
theorem dL_law_909 : decode cL_law 909 = .ok (.iload 4, 2) := by decide +kernel
theorem dL_law_911 : decode cL_law 911 = .ok (.if_icmp .ne 18, 3) := by decide +kernel
theorem dL_law_914 : decode cL_law 914 = .ok (.aload_n 1, 1) := by decide +kernel
theorem dL_law_915 : decode cL_law 915 = .ok (.bipush 9, 2) := by decide +kernel
theorem dL_law_917 : decode cL_law 917 = .ok (.invokevirtual 37, 3) := by decide +kernel
theorem dL_law_920 : decode cL_law 920 = .ok (.aload_n 1, 1) := by decide +kernel
theorem dL_law_921 : decode cL_law 921 = .ok (.bipush 7, 2) := by decide +kernel
theorem dL_law_923 : decode cL_law 923 = .ok (.invokevirtual 37, 3) := by decide +kernel
theorem dL_law_926 : decode cL_law 926 = .ok (.if_icmp .le 5, 3) := by decide +kernel
theorem dL_law_929 : decode cL_law 929 = .ok (.iconst 0, 1) := by decide +kernel
theorem dL_law_930 : decode cL_law 930 = .ok (.ireturn, 1) := by decide +kernel
theorem dL_law_931 : decode cL_law 931 = .ok (.iinc 5 1, 3) := by decide +kernel
theorem dL_law_934 : decode cL_law 934 = .ok (.goto (-687), 3) := by decide +kernel
theorem dL_law_937 : decode cL_law 937 = .ok (.aload_n 1, 1) := by decide +kernel
theorem dL_law_938 : decode cL_law 938 = .ok (.invokevirtual 87, 3) := by decide +kernel
theorem dL_law_941 : decode cL_law 941 = .ok (.lstore 5, 2) := by decide +kernel
theorem dL_law_943 : decode cL_law 943 = .ok (.aload_n 1, 1) := by decide +kernel
theorem dL_law_944 : decode cL_law 944 = .ok (.iconst 0, 1) := by decide +kernel
theorem dL_law_945 : decode cL_law 945 = .ok (.bipush 9, 2) := by decide +kernel
theorem dL_law_947 : decode cL_law 947 = .ok (.invokevirtual 91, 3) := by decide +kernel
theorem dL_law_950 : decode cL_law 950 = .ok (.bipush 60, 2) := by decide +kernel
theorem dL_law_952 : decode cL_law 952 = .ok (.if_icmp .gt 39, 3) := by decide +kernel
theorem dL_law_955 : decode cL_law 955 = .ok (.aload_n 1, 1) := by decide +kernel
theorem dL_law_956 : decode cL_law 956 = .ok (.iconst 0, 1) := by decide +kernel
theorem dL_law_957 : decode cL_law 957 = .ok (.bipush 9, 2) := by decide +kernel
theorem dL_law_959 : decode cL_law 959 = .ok (.invokevirtual 94, 3) := by decide +kernel
theorem dL_law_962 : decode cL_law 962 = .ok (.bipush 30, 2) := by decide +kernel
theorem dL_law_964 : decode cL_law 964 = .ok (.if_icmp .gt 27, 3) := by decide +kernel
theorem dL_law_967 : decode cL_law 967 = .ok (.aload_n 1, 1) := by decide +kernel
theorem dL_law_968 : decode cL_law 968 = .ok (.bipush 60, 2) := by decide +kernel
theorem dL_law_970 : decode cL_law 970 = .ok (.iconst 1, 1) := by decide +kernel
theorem dL_law_971 : decode cL_law 971 = .ok (.invokevirtual 97, 3) := by decide +kernel
theorem dL_law_974 : decode cL_law 974 = .ok (.sipush 9000, 3) := by decide +kernel
theorem dL_law_977 : decode cL_law 977 = .ok (.if_icmp .gt 14, 3) := by decide +kernel
theorem dL_law_980 : decode cL_law 980 = .ok (.aload_n 1, 1) := by decide +kernel
theorem dL_law_981 : decode cL_law 981 = .ok (.invokevirtual 100, 3) := by decide +kernel
theorem dL_law_984 : decode cL_law 984 = .ok (.ldc2_w 104, 3) := by decide +kernel
theorem dL_law_987 : decode cL_law 987 = .ok (.dcmp .l, 1) := by decide +kernel
theorem dL_law_988 : decode cL_law 988 = .ok (.ifCond .le 5, 3) := by decide +kernel
theorem dL_law_991 : decode cL_law 991 = .ok (.iconst 0, 1) := by decide +kernel
theorem dL_law_992 : decode cL_law 992 = .ok (.ireturn, 1) := by decide +kernel
theorem dL_law_993 : decode cL_law 993 = .ok (.aload_n 1, 1) := by decide +kernel
theorem dL_law_994 : decode cL_law 994 = .ok (.invokevirtual 87, 3) := by decide +kernel
theorem dL_law_997 : decode cL_law 997 = .ok (.lload 5, 2) := by decide +kernel
theorem dL_law_999 : decode cL_law 999 = .ok (.lcmp, 1) := by decide +kernel
theorem dL_law_1000 : decode cL_law 1000 = .ok (.ifCond .ne 7, 3) := by decide +kernel
theorem dL_law_1003 : decode cL_law 1003 = .ok (.iconst 1, 1) := by decide +kernel
theorem dL_law_1004 : decode cL_law 1004 = .ok (.goto 4, 3) := by decide +kernel
theorem dL_law_1007 : decode cL_law 1007 = .ok (.iconst 0, 1) := by decide +kernel
theorem dL_law_1008 : decode cL_law 1008 = .ok (.ireturn, 1) := by decide +kernel
theorem dL_isLeast_0 : decode cL_isLeast 0 = .ok (.aload_n 0, 1) := by decide +kernel
theorem dL_isLeast_1 : decode cL_isLeast 1 = .ok (.iload_n 1, 1) := by decide +kernel
theorem dL_isLeast_2 : decode cL_isLeast 2 = .ok (.iload_n 3, 1) := by decide +kernel
theorem dL_isLeast_3 : decode cL_isLeast 3 = .ok (.invokevirtual 106, 3) := by decide +kernel
theorem dL_isLeast_6 : decode cL_isLeast 6 = .ok (.istore 4, 2) := by decide +kernel
theorem dL_isLeast_8 : decode cL_isLeast 8 = .ok (.aload_n 0, 1) := by decide +kernel
theorem dL_isLeast_9 : decode cL_isLeast 9 = .ok (.iload_n 1, 1) := by decide +kernel
theorem dL_isLeast_10 : decode cL_isLeast 10 = .ok (.iconst 0, 1) := by decide +kernel
theorem dL_isLeast_11 : decode cL_isLeast 11 = .ok (.invokevirtual 43, 3) := by decide +kernel
theorem dL_isLeast_14 : decode cL_isLeast 14 = .ok (.istore 5, 2) := by decide +kernel
theorem dL_isLeast_16 : decode cL_isLeast 16 = .ok (.iload 4, 2) := by decide +kernel
theorem dL_isLeast_18 : decode cL_isLeast 18 = .ok (.ifCond .ge 19, 3) := by decide +kernel
theorem dL_isLeast_21 : decode cL_isLeast 21 = .ok (.aload_n 0, 1) := by decide +kernel
theorem dL_isLeast_22 : decode cL_isLeast 22 = .ok (.iload_n 1, 1) := by decide +kernel
theorem dL_isLeast_23 : decode cL_isLeast 23 = .ok (.iload_n 3, 1) := by decide +kernel
theorem dL_isLeast_24 : decode cL_isLeast 24 = .ok (.invokevirtual 94, 3) := by decide +kernel
theorem dL_isLeast_27 : decode cL_isLeast 27 = .ok (.iconst (-1), 1) := by decide +kernel
theorem dL_isLeast_28 : decode cL_isLeast 28 = .ok (.if_icmp .ne 7, 3) := by decide +kernel
theorem dL_isLeast_31 : decode cL_isLeast 31 = .ok (.iconst 1, 1) := by decide +kernel
theorem dL_isLeast_32 : decode cL_isLeast 32 = .ok (.goto 4, 3) := by decide +kernel
theorem dL_isLeast_35 : decode cL_isLeast 35 = .ok (.iconst 0, 1) := by decide +kernel
theorem dL_isLeast_36 : decode cL_isLeast 36 = .ok (.ireturn, 1) := by decide +kernel
theorem dL_isLeast_37 : decode cL_isLeast 37 = .ok (.bipush 20, 2) := by decide +kernel
theorem dL_isLeast_39 : decode cL_isLeast 39 = .ok (.istore 6, 2) := by decide +kernel
theorem dL_isLeast_41 : decode cL_isLeast 41 = .ok (.iconst 0, 1) := by decide +kernel
theorem dL_isLeast_42 : decode cL_isLeast 42 = .ok (.istore 7, 2) := by decide +kernel
theorem dL_isLeast_44 : decode cL_isLeast 44 = .ok (.iload 7, 2) := by decide +kernel
theorem dL_isLeast_46 : decode cL_isLeast 46 = .ok (.aload_n 0, 1) := by decide +kernel
theorem dL_isLeast_47 : decode cL_isLeast 47 = .ok (.iconst 2, 1) := by decide +kernel
theorem dL_isLeast_48 : decode cL_isLeast 48 = .ok (.invokevirtual 37, 3) := by decide +kernel
theorem dL_isLeast_51 : decode cL_isLeast 51 = .ok (.if_icmp .ge 45, 3) := by decide +kernel
theorem dL_isLeast_54 : decode cL_isLeast 54 = .ok (.iload 6, 2) := by decide +kernel
theorem dL_isLeast_56 : decode cL_isLeast 56 = .ok (.aload_n 0, 1) := by decide +kernel
theorem dL_isLeast_57 : decode cL_isLeast 57 = .ok (.iload 7, 2) := by decide +kernel
theorem dL_isLeast_59 : decode cL_isLeast 59 = .ok (.iconst 0, 1) := by decide +kernel
theorem dL_isLeast_60 : decode cL_isLeast 60 = .ok (.invokevirtual 43, 3) := by decide +kernel
theorem dL_isLeast_63 : decode cL_isLeast 63 = .ok (.iload 5, 2) := by decide +kernel
theorem dL_isLeast_65 : decode cL_isLeast 65 = .ok (.if_icmp .ne 21, 3) := by decide +kernel
theorem dL_isLeast_68 : decode cL_isLeast 68 = .ok (.aload_n 0, 1) := by decide +kernel
theorem dL_isLeast_69 : decode cL_isLeast 69 = .ok (.iload 7, 2) := by decide +kernel
theorem dL_isLeast_71 : decode cL_isLeast 71 = .ok (.iconst 2, 1) := by decide +kernel
theorem dL_isLeast_72 : decode cL_isLeast 72 = .ok (.invokevirtual 43, 3) := by decide +kernel
theorem dL_isLeast_75 : decode cL_isLeast 75 = .ok (.aload_n 0, 1) := by decide +kernel
theorem dL_isLeast_76 : decode cL_isLeast 76 = .ok (.iload 7, 2) := by decide +kernel
theorem dL_isLeast_78 : decode cL_isLeast 78 = .ok (.iconst 4, 1) := by decide +kernel
theorem dL_isLeast_79 : decode cL_isLeast 79 = .ok (.invokevirtual 43, 3) := by decide +kernel
theorem dL_isLeast_82 : decode cL_isLeast 82 = .ok (.imul, 1) := by decide +kernel
theorem dL_isLeast_83 : decode cL_isLeast 83 = .ok (.goto 4, 3) := by decide +kernel
theorem dL_isLeast_86 : decode cL_isLeast 86 = .ok (.iconst 0, 1) := by decide +kernel
theorem dL_isLeast_87 : decode cL_isLeast 87 = .ok (.iadd, 1) := by decide +kernel
theorem dL_isLeast_88 : decode cL_isLeast 88 = .ok (.istore 6, 2) := by decide +kernel
theorem dL_isLeast_90 : decode cL_isLeast 90 = .ok (.iinc 7 1, 3) := by decide +kernel
theorem dL_isLeast_93 : decode cL_isLeast 93 = .ok (.goto (-49), 3) := by decide +kernel
theorem dL_isLeast_96 : decode cL_isLeast 96 = .ok (.aload_n 0, 1) := by decide +kernel
theorem dL_isLeast_97 : decode cL_isLeast 97 = .ok (.iload_n 1, 1) := by decide +kernel
theorem dL_isLeast_98 : decode cL_isLeast 98 = .ok (.bipush 8, 2) := by decide +kernel
theorem dL_isLeast_100 : decode cL_isLeast 100 = .ok (.invokevirtual 43, 3) := by decide +kernel
theorem dL_isLeast_103 : decode cL_isLeast 103 = .ok (.iload_n 3, 1) := by decide +kernel
theorem dL_isLeast_104 : decode cL_isLeast 104 = .ok (.if_icmp .lt 7, 3) := by decide +kernel
theorem dL_isLeast_107 : decode cL_isLeast 107 = .ok (.iconst 1, 1) := by decide +kernel
theorem dL_isLeast_108 : decode cL_isLeast 108 = .ok (.goto 4, 3) := by decide +kernel
theorem dL_isLeast_111 : decode cL_isLeast 111 = .ok (.iconst 0, 1) := by decide +kernel
theorem dL_isLeast_112 : decode cL_isLeast 112 = .ok (.istore 7, 2) := by decide +kernel
theorem dL_isLeast_114 : decode cL_isLeast 114 = .ok (.aload_n 0, 1) := by decide +kernel
theorem dL_isLeast_115 : decode cL_isLeast 115 = .ok (.iload 5, 2) := by decide +kernel
theorem dL_isLeast_117 : decode cL_isLeast 117 = .ok (.iconst 4, 1) := by decide +kernel
theorem dL_isLeast_118 : decode cL_isLeast 118 = .ok (.invokevirtual 46, 3) := by decide +kernel
theorem dL_isLeast_121 : decode cL_isLeast 121 = .ok (.iconst 1, 1) := by decide +kernel
theorem dL_isLeast_122 : decode cL_isLeast 122 = .ok (.if_icmp .ne 7, 3) := by decide +kernel
theorem dL_isLeast_125 : decode cL_isLeast 125 = .ok (.iconst 1, 1) := by decide +kernel
theorem dL_isLeast_126 : decode cL_isLeast 126 = .ok (.goto 4, 3) := by decide +kernel
theorem dL_isLeast_129 : decode cL_isLeast 129 = .ok (.iconst 0, 1) := by decide +kernel
theorem dL_isLeast_130 : decode cL_isLeast 130 = .ok (.istore 8, 2) := by decide +kernel
theorem dL_isLeast_132 : decode cL_isLeast 132 = .ok (.iload 4, 2) := by decide +kernel
theorem dL_isLeast_134 : decode cL_isLeast 134 = .ok (.ifCond .le 103, 3) := by decide +kernel
theorem dL_isLeast_137 : decode cL_isLeast 137 = .ok (.aload_n 0, 1) := by decide +kernel
theorem dL_isLeast_138 : decode cL_isLeast 138 = .ok (.iload 5, 2) := by decide +kernel
theorem dL_isLeast_140 : decode cL_isLeast 140 = .ok (.iconst 0, 1) := by decide +kernel
theorem dL_isLeast_141 : decode cL_isLeast 141 = .ok (.invokevirtual 46, 3) := by decide +kernel
theorem dL_isLeast_144 : decode cL_isLeast 144 = .ok (.bipush 10, 2) := by decide +kernel
theorem dL_isLeast_146 : decode cL_isLeast 146 = .ok (.imul, 1) := by decide +kernel
theorem dL_isLeast_147 : decode cL_isLeast 147 = .ok (.iload 4, 2) := by decide +kernel
theorem dL_isLeast_149 : decode cL_isLeast 149 = .ok (.imul, 1) := by decide +kernel
theorem dL_isLeast_150 : decode cL_isLeast 150 = .ok (.iload 6, 2) := by decide +kernel
theorem dL_isLeast_152 : decode cL_isLeast 152 = .ok (.idiv, 1) := by decide +kernel
theorem dL_isLeast_153 : decode cL_isLeast 153 = .ok (.aload_n 0, 1) := by decide +kernel
theorem dL_isLeast_154 : decode cL_isLeast 154 = .ok (.iload_n 1, 1) := by decide +kernel
theorem dL_isLeast_155 : decode cL_isLeast 155 = .ok (.iconst 4, 1) := by decide +kernel
theorem dL_isLeast_156 : decode cL_isLeast 156 = .ok (.invokevirtual 43, 3) := by decide +kernel
theorem dL_isLeast_159 : decode cL_isLeast 159 = .ok (.imul, 1) := by decide +kernel
theorem dL_isLeast_160 : decode cL_isLeast 160 = .ok (.iconst 4, 1) := by decide +kernel
theorem dL_isLeast_161 : decode cL_isLeast 161 = .ok (.idiv, 1) := by decide +kernel
theorem dL_isLeast_162 : decode cL_isLeast 162 = .ok (.iload_n 3, 1) := by decide +kernel
theorem dL_isLeast_163 : decode cL_isLeast 163 = .ok (.if_icmp .lt 74, 3) := by decide +kernel
theorem dL_isLeast_166 : decode cL_isLeast 166 = .ok (.aload_n 0, 1) := by decide +kernel
theorem dL_isLeast_167 : decode cL_isLeast 167 = .ok (.iload 5, 2) := by decide +kernel
theorem dL_isLeast_169 : decode cL_isLeast 169 = .ok (.iconst 0, 1) := by decide +kernel
theorem dL_isLeast_170 : decode cL_isLeast 170 = .ok (.invokevirtual 46, 3) := by decide +kernel
theorem dL_isLeast_173 : decode cL_isLeast 173 = .ok (.bipush 10, 2) := by decide +kernel
theorem dL_isLeast_175 : decode cL_isLeast 175 = .ok (.imul, 1) := by decide +kernel
theorem dL_isLeast_176 : decode cL_isLeast 176 = .ok (.iload 4, 2) := by decide +kernel
theorem dL_isLeast_178 : decode cL_isLeast 178 = .ok (.iconst 1, 1) := by decide +kernel
theorem dL_isLeast_179 : decode cL_isLeast 179 = .ok (.isub, 1) := by decide +kernel
theorem dL_isLeast_180 : decode cL_isLeast 180 = .ok (.imul, 1) := by decide +kernel
theorem dL_isLeast_181 : decode cL_isLeast 181 = .ok (.iload 6, 2) := by decide +kernel
theorem dL_isLeast_183 : decode cL_isLeast 183 = .ok (.idiv, 1) := by decide +kernel
theorem dL_isLeast_184 : decode cL_isLeast 184 = .ok (.aload_n 0, 1) := by decide +kernel
theorem dL_isLeast_185 : decode cL_isLeast 185 = .ok (.iload_n 1, 1) := by decide +kernel
theorem dL_isLeast_186 : decode cL_isLeast 186 = .ok (.iconst 4, 1) := by decide +kernel
theorem dL_isLeast_187 : decode cL_isLeast 187 = .ok (.invokevirtual 43, 3) := by decide +kernel
theorem dL_isLeast_190 : decode cL_isLeast 190 = .ok (.imul, 1) := by decide +kernel
theorem dL_isLeast_191 : decode cL_isLeast 191 = .ok (.iconst 4, 1) := by decide +kernel
theorem dL_isLeast_192 : decode cL_isLeast 192 = .ok (.idiv, 1) := by decide +kernel
theorem dL_isLeast_193 : decode cL_isLeast 193 = .ok (.iload_n 3, 1) := by decide +kernel
theorem dL_isLeast_194 : decode cL_isLeast 194 = .ok (.if_icmp .ge 43, 3) := by decide +kernel
theorem dL_isLeast_197 : decode cL_isLeast 197 = .ok (.aload_n 0, 1) := by decide +kernel
theorem dL_isLeast_198 : decode cL_isLeast 198 = .ok (.iload_n 1, 1) := by decide +kernel
theorem dL_isLeast_199 : decode cL_isLeast 199 = .ok (.iload_n 3, 1) := by decide +kernel
theorem dL_isLeast_200 : decode cL_isLeast 200 = .ok (.invokevirtual 94, 3) := by decide +kernel
theorem dL_isLeast_203 : decode cL_isLeast 203 = .ok (.ifCond .ne 7, 3) := by decide +kernel
theorem dL_isLeast_206 : decode cL_isLeast 206 = .ok (.iconst 1, 1) := by decide +kernel
theorem dL_isLeast_207 : decode cL_isLeast 207 = .ok (.goto 4, 3) := by decide +kernel
theorem dL_isLeast_210 : decode cL_isLeast 210 = .ok (.iconst 0, 1) := by decide +kernel
theorem dL_isLeast_211 : decode cL_isLeast 211 = .ok (.iload 7, 2) := by decide +kernel
theorem dL_isLeast_213 : decode cL_isLeast 213 = .ok (.ifCond .eq 12, 3) := by decide +kernel
theorem dL_isLeast_216 : decode cL_isLeast 216 = .ok (.iload 8, 2) := by decide +kernel
theorem dL_isLeast_218 : decode cL_isLeast 218 = .ok (.ifCond .ne 7, 3) := by decide +kernel
theorem dL_isLeast_221 : decode cL_isLeast 221 = .ok (.iconst 1, 1) := by decide +kernel
theorem dL_isLeast_222 : decode cL_isLeast 222 = .ok (.goto 4, 3) := by decide +kernel
theorem dL_isLeast_225 : decode cL_isLeast 225 = .ok (.iconst 0, 1) := by decide +kernel
theorem dL_isLeast_226 : decode cL_isLeast 226 = .ok (.if_icmp .ne 11, 3) := by decide +kernel
theorem dL_isLeast_229 : decode cL_isLeast 229 = .ok (.iload_n 2, 1) := by decide +kernel
theorem dL_isLeast_230 : decode cL_isLeast 230 = .ok (.ifCond .lt 7, 3) := by decide +kernel
theorem dL_isLeast_233 : decode cL_isLeast 233 = .ok (.iconst 1, 1) := by decide +kernel
theorem dL_isLeast_234 : decode cL_isLeast 234 = .ok (.goto 4, 3) := by decide +kernel
theorem dL_isLeast_237 : decode cL_isLeast 237 = .ok (.iconst 0, 1) := by decide +kernel
theorem dL_isLeast_238 : decode cL_isLeast 238 = .ok (.ireturn, 1) := by decide +kernel
theorem dL_isPassed_0 : decode cL_isPassed 0 = .ok (.aload_n 0, 1) := by decide +kernel
theorem dL_isPassed_1 : decode cL_isPassed 1 = .ok (.bipush 9, 2) := by decide +kernel
theorem dL_isPassed_3 : decode cL_isPassed 3 = .ok (.invokevirtual 37, 3) := by decide +kernel
theorem dL_isPassed_6 : decode cL_isPassed 6 = .ok (.istore 4, 2) := by decide +kernel
theorem dL_isPassed_8 : decode cL_isPassed 8 = .ok (.aload_n 0, 1) := by decide +kernel
theorem dL_isPassed_9 : decode cL_isPassed 9 = .ok (.iload_n 3, 1) := by decide +kernel
theorem dL_isPassed_10 : decode cL_isPassed 10 = .ok (.iconst 0, 1) := by decide +kernel
theorem dL_isPassed_11 : decode cL_isPassed 11 = .ok (.invokevirtual 97, 3) := by decide +kernel
theorem dL_isPassed_14 : decode cL_isPassed 14 = .ok (.istore 5, 2) := by decide +kernel
theorem dL_isPassed_16 : decode cL_isPassed 16 = .ok (.aload_n 0, 1) := by decide +kernel
theorem dL_isPassed_17 : decode cL_isPassed 17 = .ok (.iload_n 3, 1) := by decide +kernel
theorem dL_isPassed_18 : decode cL_isPassed 18 = .ok (.iconst 1, 1) := by decide +kernel
theorem dL_isPassed_19 : decode cL_isPassed 19 = .ok (.invokevirtual 97, 3) := by decide +kernel
theorem dL_isPassed_22 : decode cL_isPassed 22 = .ok (.istore 6, 2) := by decide +kernel
theorem dL_isPassed_24 : decode cL_isPassed 24 = .ok (.iload_n 1, 1) := by decide +kernel
theorem dL_isPassed_25 : decode cL_isPassed 25 = .ok (.newarray .int, 2) := by decide +kernel
theorem dL_isPassed_27 : decode cL_isPassed 27 = .ok (.astore 7, 2) := by decide +kernel
theorem dL_isPassed_29 : decode cL_isPassed 29 = .ok (.iconst 0, 1) := by decide +kernel
theorem dL_isPassed_30 : decode cL_isPassed 30 = .ok (.istore 8, 2) := by decide +kernel
theorem dL_isPassed_32 : decode cL_isPassed 32 = .ok (.iload 8, 2) := by decide +kernel
theorem dL_isPassed_34 : decode cL_isPassed 34 = .ok (.iload_n 1, 1) := by decide +kernel
theorem dL_isPassed_35 : decode cL_isPassed 35 = .ok (.if_icmp .ge 21, 3) := by decide +kernel
theorem dL_isPassed_38 : decode cL_isPassed 38 = .ok (.aload 7, 2) := by decide +kernel
theorem dL_isPassed_40 : decode cL_isPassed 40 = .ok (.iload 8, 2) := by decide +kernel
theorem dL_isPassed_42 : decode cL_isPassed 42 = .ok (.aload_n 0, 1) := by decide +kernel
theorem dL_isPassed_43 : decode cL_isPassed 43 = .ok (.iload 8, 2) := by decide +kernel
theorem dL_isPassed_45 : decode cL_isPassed 45 = .ok (.iload_n 3, 1) := by decide +kernel
theorem dL_isPassed_46 : decode cL_isPassed 46 = .ok (.invokevirtual 91, 3) := by decide +kernel
theorem dL_isPassed_49 : decode cL_isPassed 49 = .ok (.iastore, 1) := by decide +kernel
theorem dL_isPassed_50 : decode cL_isPassed 50 = .ok (.iinc 8 1, 3) := by decide +kernel
theorem dL_isPassed_53 : decode cL_isPassed 53 = .ok (.goto (-21), 3) := by decide +kernel
theorem dL_isPassed_56 : decode cL_isPassed 56 = .ok (.sipush 9000, 3) := by decide +kernel
theorem dL_isPassed_59 : decode cL_isPassed 59 = .ok (.istore 8, 2) := by decide +kernel
theorem dL_isPassed_61 : decode cL_isPassed 61 = .ok (.iconst 0, 1) := by decide +kernel
theorem dL_isPassed_62 : decode cL_isPassed 62 = .ok (.istore 9, 2) := by decide +kernel
theorem dL_isPassed_64 : decode cL_isPassed 64 = .ok (.iload 9, 2) := by decide +kernel
theorem dL_isPassed_66 : decode cL_isPassed 66 = .ok (.iload_n 3, 1) := by decide +kernel
theorem dL_isPassed_67 : decode cL_isPassed 67 = .ok (.if_icmp .ge 587, 3) := by decide +kernel
theorem dL_isPassed_70 : decode cL_isPassed 70 = .ok (.iload_n 1, 1) := by decide +kernel
theorem dL_isPassed_71 : decode cL_isPassed 71 = .ok (.newarray .int, 2) := by decide +kernel
theorem dL_isPassed_73 : decode cL_isPassed 73 = .ok (.astore 10, 2) := by decide +kernel
theorem dL_isPassed_75 : decode cL_isPassed 75 = .ok (.iload_n 1, 1) := by decide +kernel
theorem dL_isPassed_76 : decode cL_isPassed 76 = .ok (.newarray .int, 2) := by decide +kernel
theorem dL_isPassed_78 : decode cL_isPassed 78 = .ok (.astore 11, 2) := by decide +kernel
theorem dL_isPassed_80 : decode cL_isPassed 80 = .ok (.iconst 2, 1) := by decide +kernel
theorem dL_isPassed_81 : decode cL_isPassed 81 = .ok (.newarray .int, 2) := by decide +kernel
theorem dL_isPassed_83 : decode cL_isPassed 83 = .ok (.dup, 1) := by decide +kernel
theorem dL_isPassed_84 : decode cL_isPassed 84 = .ok (.iconst 0, 1) := by decide +kernel
theorem dL_isPassed_85 : decode cL_isPassed 85 = .ok (.aload_n 0, 1) := by decide +kernel
theorem dL_isPassed_86 : decode cL_isPassed 86 = .ok (.iconst 0, 1) := by decide +kernel
theorem dL_isPassed_87 : decode cL_isPassed 87 = .ok (.iconst 2, 1) := by decide +kernel
theorem dL_isPassed_88 : decode cL_isPassed 88 = .ok (.invokevirtual 46, 3) := by decide +kernel
theorem dL_isPassed_91 : decode cL_isPassed 91 = .ok (.iastore, 1) := by decide +kernel
theorem dL_isPassed_92 : decode cL_isPassed 92 = .ok (.dup, 1) := by decide +kernel
theorem dL_isPassed_93 : decode cL_isPassed 93 = .ok (.iconst 1, 1) := by decide +kernel
theorem dL_isPassed_94 : decode cL_isPassed 94 = .ok (.aload_n 0, 1) := by decide +kernel
theorem dL_isPassed_95 : decode cL_isPassed 95 = .ok (.iconst 1, 1) := by decide +kernel
theorem dL_isPassed_96 : decode cL_isPassed 96 = .ok (.iconst 2, 1) := by decide +kernel
theorem dL_isPassed_97 : decode cL_isPassed 97 = .ok (.invokevirtual 46, 3) := by decide +kernel
theorem dL_isPassed_100 : decode cL_isPassed 100 = .ok (.iastore, 1) := by decide +kernel
theorem dL_isPassed_101 : decode cL_isPassed 101 = .ok (.astore 12, 2) := by decide +kernel
theorem dL_isPassed_103 : decode cL_isPassed 103 = .ok (.iconst 0, 1) := by decide +kernel
theorem dL_isPassed_104 : decode cL_isPassed 104 = .ok (.istore 13, 2) := by decide +kernel
theorem dL_isPassed_106 : decode cL_isPassed 106 = .ok (.iload 13, 2) := by decide +kernel
theorem dL_isPassed_108 : decode cL_isPassed 108 = .ok (.iload_n 1, 1) := by decide +kernel
theorem dL_isPassed_109 : decode cL_isPassed 109 = .ok (.if_icmp .ge 34, 3) := by decide +kernel
theorem dL_isPassed_112 : decode cL_isPassed 112 = .ok (.aload 10, 2) := by decide +kernel
theorem dL_isPassed_114 : decode cL_isPassed 114 = .ok (.iload 13, 2) := by decide +kernel
theorem dL_isPassed_116 : decode cL_isPassed 116 = .ok (.aload_n 0, 1) := by decide +kernel
theorem dL_isPassed_117 : decode cL_isPassed 117 = .ok (.iload 13, 2) := by decide +kernel
theorem dL_isPassed_119 : decode cL_isPassed 119 = .ok (.iconst 5, 1) := by decide +kernel
theorem dL_isPassed_120 : decode cL_isPassed 120 = .ok (.invokevirtual 43, 3) := by decide +kernel
theorem dL_isPassed_123 : decode cL_isPassed 123 = .ok (.iastore, 1) := by decide +kernel
theorem dL_isPassed_124 : decode cL_isPassed 124 = .ok (.aload 11, 2) := by decide +kernel
theorem dL_isPassed_126 : decode cL_isPassed 126 = .ok (.iload 13, 2) := by decide +kernel
theorem dL_isPassed_128 : decode cL_isPassed 128 = .ok (.aload_n 0, 1) := by decide +kernel
theorem dL_isPassed_129 : decode cL_isPassed 129 = .ok (.iload 13, 2) := by decide +kernel
theorem dL_isPassed_131 : decode cL_isPassed 131 = .ok (.bipush 10, 2) := by decide +kernel
theorem dL_isPassed_133 : decode cL_isPassed 133 = .ok (.invokevirtual 43, 3) := by decide +kernel
theorem dL_isPassed_136 : decode cL_isPassed 136 = .ok (.iastore, 1) := by decide +kernel
theorem dL_isPassed_137 : decode cL_isPassed 137 = .ok (.iinc 13 1, 3) := by decide +kernel
theorem dL_isPassed_140 : decode cL_isPassed 140 = .ok (.goto (-34), 3) := by decide +kernel
theorem dL_isPassed_143 : decode cL_isPassed 143 = .ok (.bipush 10, 2) := by decide +kernel
theorem dL_isPassed_145 : decode cL_isPassed 145 = .ok (.newarray .int, 2) := by decide +kernel
theorem dL_isPassed_147 : decode cL_isPassed 147 = .ok (.astore 13, 2) := by decide +kernel
theorem dL_isPassed_149 : decode cL_isPassed 149 = .ok (.iconst 1, 1) := by decide +kernel
theorem dL_isPassed_150 : decode cL_isPassed 150 = .ok (.istore 14, 2) := by decide +kernel
theorem dL_isPassed_152 : decode cL_isPassed 152 = .ok (.iload 14, 2) := by decide +kernel
theorem dL_isPassed_154 : decode cL_isPassed 154 = .ok (.bipush 9, 2) := by decide +kernel
theorem dL_isPassed_156 : decode cL_isPassed 156 = .ok (.if_icmp .ge 20, 3) := by decide +kernel
theorem dL_isPassed_159 : decode cL_isPassed 159 = .ok (.aload 13, 2) := by decide +kernel
theorem dL_isPassed_161 : decode cL_isPassed 161 = .ok (.iload 14, 2) := by decide +kernel
theorem dL_isPassed_163 : decode cL_isPassed 163 = .ok (.aload_n 0, 1) := by decide +kernel
theorem dL_isPassed_164 : decode cL_isPassed 164 = .ok (.iload 14, 2) := by decide +kernel
theorem dL_isPassed_166 : decode cL_isPassed 166 = .ok (.invokevirtual 109, 3) := by decide +kernel
theorem dL_isPassed_169 : decode cL_isPassed 169 = .ok (.iastore, 1) := by decide +kernel
theorem dL_isPassed_170 : decode cL_isPassed 170 = .ok (.iinc 14 1, 3) := by decide +kernel
theorem dL_isPassed_173 : decode cL_isPassed 173 = .ok (.goto (-21), 3) := by decide +kernel
theorem dL_isPassed_176 : decode cL_isPassed 176 = .ok (.aload_n 0, 1) := by decide +kernel
theorem dL_isPassed_177 : decode cL_isPassed 177 = .ok (.bipush 10, 2) := by decide +kernel
theorem dL_isPassed_179 : decode cL_isPassed 179 = .ok (.invokevirtual 37, 3) := by decide +kernel
theorem dL_isPassed_182 : decode cL_isPassed 182 = .ok (.istore 14, 2) := by decide +kernel
theorem dL_isPassed_184 : decode cL_isPassed 184 = .ok (.aload_n 0, 1) := by decide +kernel
theorem dL_isPassed_185 : decode cL_isPassed 185 = .ok (.iconst 1, 1) := by decide +kernel
theorem dL_isPassed_186 : decode cL_isPassed 186 = .ok (.invokevirtual 112, 3) := by decide +kernel
theorem dL_isPassed_189 : decode cL_isPassed 189 = .ok (.aload 13, 2) := by decide +kernel
theorem dL_isPassed_191 : decode cL_isPassed 191 = .ok (.iconst 1, 1) := by decide +kernel
theorem dL_isPassed_192 : decode cL_isPassed 192 = .ok (.iaload, 1) := by decide +kernel
theorem dL_isPassed_193 : decode cL_isPassed 193 = .ok (.if_icmp .eq 5, 3) := by decide +kernel
theorem dL_isPassed_196 : decode cL_isPassed 196 = .ok (.iconst 0, 1) := by decide +kernel
theorem dL_isPassed_197 : decode cL_isPassed 197 = .ok (.ireturn, 1) := by decide +kernel
theorem dL_isPassed_198 : decode cL_isPassed 198 = .ok (.iload 8, 2) := by decide +kernel
theorem dL_isPassed_200 : decode cL_isPassed 200 = .ok (.aload_n 0, 1) := by decide +kernel
theorem dL_isPassed_201 : decode cL_isPassed 201 = .ok (.iconst 5, 1) := by decide +kernel
theorem dL_isPassed_202 : decode cL_isPassed 202 = .ok (.invokevirtual 37, 3) := by decide +kernel
theorem dL_isPassed_205 : decode cL_isPassed 205 = .ok (.invokestatic 115, 3) := by decide +kernel
theorem dL_isPassed_208 : decode cL_isPassed 208 = .ok (.istore 8, 2) := by decide +kernel
theorem dL_isPassed_210 : decode cL_isPassed 210 = .ok (.iconst 1, 1) := by decide +kernel
theorem dL_isPassed_211 : decode cL_isPassed 211 = .ok (.istore 15, 2) := by decide +kernel
theorem dL_isPassed_213 : decode cL_isPassed 213 = .ok (.iconst 0, 1) := by decide +kernel
theorem dL_isPassed_214 : decode cL_isPassed 214 = .ok (.istore 16, 2) := by decide +kernel
theorem dL_isPassed_216 : decode cL_isPassed 216 = .ok (.iload 16, 2) := by decide +kernel
theorem dL_isPassed_218 : decode cL_isPassed 218 = .ok (.iload_n 1, 1) := by decide +kernel
theorem dL_isPassed_219 : decode cL_isPassed 219 = .ok (.if_icmp .ge 209, 3) := by decide +kernel
theorem dL_isPassed_222 : decode cL_isPassed 222 = .ok (.aload_n 0, 1) := by decide +kernel
theorem dL_isPassed_223 : decode cL_isPassed 223 = .ok (.iload 16, 2) := by decide +kernel
theorem dL_isPassed_225 : decode cL_isPassed 225 = .ok (.bipush 10, 2) := by decide +kernel
theorem dL_isPassed_227 : decode cL_isPassed 227 = .ok (.invokevirtual 43, 3) := by decide +kernel
theorem dL_isPassed_230 : decode cL_isPassed 230 = .ok (.aload 11, 2) := by decide +kernel
theorem dL_isPassed_232 : decode cL_isPassed 232 = .ok (.iload 16, 2) := by decide +kernel
theorem dL_isPassed_234 : decode cL_isPassed 234 = .ok (.iaload, 1) := by decide +kernel
theorem dL_isPassed_235 : decode cL_isPassed 235 = .ok (.isub, 1) := by decide +kernel
theorem dL_isPassed_236 : decode cL_isPassed 236 = .ok (.istore 17, 2) := by decide +kernel
theorem dL_isPassed_238 : decode cL_isPassed 238 = .ok (.aload_n 0, 1) := by decide +kernel
theorem dL_isPassed_239 : decode cL_isPassed 239 = .ok (.iload 16, 2) := by decide +kernel
theorem dL_isPassed_241 : decode cL_isPassed 241 = .ok (.bipush 6, 2) := by decide +kernel
theorem dL_isPassed_243 : decode cL_isPassed 243 = .ok (.invokevirtual 43, 3) := by decide +kernel
theorem dL_isPassed_246 : decode cL_isPassed 246 = .ok (.iconst 1, 1) := by decide +kernel
theorem dL_isPassed_247 : decode cL_isPassed 247 = .ok (.if_icmp .ne 7, 3) := by decide +kernel
theorem dL_isPassed_250 : decode cL_isPassed 250 = .ok (.iconst 1, 1) := by decide +kernel
theorem dL_isPassed_251 : decode cL_isPassed 251 = .ok (.goto 4, 3) := by decide +kernel
theorem dL_isPassed_254 : decode cL_isPassed 254 = .ok (.iconst 0, 1) := by decide +kernel
theorem dL_isPassed_255 : decode cL_isPassed 255 = .ok (.istore 18, 2) := by decide +kernel
theorem dL_isPassed_257 : decode cL_isPassed 257 = .ok (.aload_n 0, 1) := by decide +kernel
theorem dL_isPassed_258 : decode cL_isPassed 258 = .ok (.iload 16, 2) := by decide +kernel
theorem dL_isPassed_260 : decode cL_isPassed 260 = .ok (.iconst 5, 1) := by decide +kernel
theorem dL_isPassed_261 : decode cL_isPassed 261 = .ok (.invokevirtual 43, 3) := by decide +kernel
theorem dL_isPassed_264 : decode cL_isPassed 264 = .ok (.aload 10, 2) := by decide +kernel
theorem dL_isPassed_266 : decode cL_isPassed 266 = .ok (.iload 16, 2) := by decide +kernel
theorem dL_isPassed_268 : decode cL_isPassed 268 = .ok (.iaload, 1) := by decide +kernel
theorem dL_isPassed_269 : decode cL_isPassed 269 = .ok (.isub, 1) := by decide +kernel
theorem dL_isPassed_270 : decode cL_isPassed 270 = .ok (.invokestatic 120, 3) := by decide +kernel
theorem dL_isPassed_273 : decode cL_isPassed 273 = .ok (.iload 18, 2) := by decide +kernel
theorem dL_isPassed_275 : decode cL_isPassed 275 = .ok (.ifCond .eq 7, 3) := by decide +kernel
theorem dL_isPassed_278 : decode cL_isPassed 278 = .ok (.iconst 0, 1) := by decide +kernel
theorem dL_isPassed_279 : decode cL_isPassed 279 = .ok (.goto 4, 3) := by decide +kernel
theorem dL_isPassed_282 : decode cL_isPassed 282 = .ok (.iconst 1, 1) := by decide +kernel
theorem dL_isPassed_283 : decode cL_isPassed 283 = .ok (.if_icmp .gt 83, 3) := by decide +kernel
theorem dL_isPassed_286 : decode cL_isPassed 286 = .ok (.iload 18, 2) := by decide +kernel
theorem dL_isPassed_288 : decode cL_isPassed 288 = .ok (.ifCond .ne 33, 3) := by decide +kernel
theorem dL_isPassed_291 : decode cL_isPassed 291 = .ok (.aload 10, 2) := by decide +kernel
theorem dL_isPassed_293 : decode cL_isPassed 293 = .ok (.iload 16, 2) := by decide +kernel
theorem dL_isPassed_295 : decode cL_isPassed 295 = .ok (.iaload, 1) := by decide +kernel
theorem dL_isPassed_296 : decode cL_isPassed 296 = .ok (.aload_n 0, 1) := by decide +kernel
theorem dL_isPassed_297 : decode cL_isPassed 297 = .ok (.iload 16, 2) := by decide +kernel
theorem dL_isPassed_299 : decode cL_isPassed 299 = .ok (.iconst 4, 1) := by decide +kernel
theorem dL_isPassed_300 : decode cL_isPassed 300 = .ok (.invokevirtual 43, 3) := by decide +kernel
theorem dL_isPassed_303 : decode cL_isPassed 303 = .ok (.if_icmp .ne 18, 3) := by decide +kernel
theorem dL_isPassed_306 : decode cL_isPassed 306 = .ok (.aload_n 0, 1) := by decide +kernel
theorem dL_isPassed_307 : decode cL_isPassed 307 = .ok (.iload 16, 2) := by decide +kernel
theorem dL_isPassed_309 : decode cL_isPassed 309 = .ok (.iconst 5, 1) := by decide +kernel
theorem dL_isPassed_310 : decode cL_isPassed 310 = .ok (.invokevirtual 43, 3) := by decide +kernel
theorem dL_isPassed_313 : decode cL_isPassed 313 = .ok (.aload 10, 2) := by decide +kernel
theorem dL_isPassed_315 : decode cL_isPassed 315 = .ok (.iload 16, 2) := by decide +kernel
theorem dL_isPassed_317 : decode cL_isPassed 317 = .ok (.iaload, 1) := by decide +kernel
theorem dL_isPassed_318 : decode cL_isPassed 318 = .ok (.if_icmp .ne 48, 3) := by decide +kernel
theorem dL_isPassed_321 : decode cL_isPassed 321 = .ok (.aload_n 0, 1) := by decide +kernel
theorem dL_isPassed_322 : decode cL_isPassed 322 = .ok (.iload 16, 2) := by decide +kernel
theorem dL_isPassed_324 : decode cL_isPassed 324 = .ok (.bipush 8, 2) := by decide +kernel
theorem dL_isPassed_326 : decode cL_isPassed 326 = .ok (.invokevirtual 43, 3) := by decide +kernel
theorem dL_isPassed_329 : decode cL_isPassed 329 = .ok (.bipush 60, 2) := by decide +kernel
theorem dL_isPassed_331 : decode cL_isPassed 331 = .ok (.if_icmp .gt 35, 3) := by decide +kernel
theorem dL_isPassed_334 : decode cL_isPassed 334 = .ok (.iload 17, 2) := by decide +kernel
theorem dL_isPassed_336 : decode cL_isPassed 336 = .ok (.aload_n 0, 1) := by decide +kernel
theorem dL_isPassed_337 : decode cL_isPassed 337 = .ok (.iload 16, 2) := by decide +kernel
theorem dL_isPassed_339 : decode cL_isPassed 339 = .ok (.bipush 7, 2) := by decide +kernel
theorem dL_isPassed_341 : decode cL_isPassed 341 = .ok (.invokevirtual 43, 3) := by decide +kernel
theorem dL_isPassed_344 : decode cL_isPassed 344 = .ok (.if_icmp .gt 22, 3) := by decide +kernel
theorem dL_isPassed_347 : decode cL_isPassed 347 = .ok (.aload_n 0, 1) := by decide +kernel
theorem dL_isPassed_348 : decode cL_isPassed 348 = .ok (.iload 16, 2) := by decide +kernel
theorem dL_isPassed_350 : decode cL_isPassed 350 = .ok (.bipush 9, 2) := by decide +kernel
theorem dL_isPassed_352 : decode cL_isPassed 352 = .ok (.invokevirtual 43, 3) := by decide +kernel
theorem dL_isPassed_355 : decode cL_isPassed 355 = .ok (.iconst 1, 1) := by decide +kernel
theorem dL_isPassed_356 : decode cL_isPassed 356 = .ok (.if_icmp .ne 12, 3) := by decide +kernel
theorem dL_isPassed_359 : decode cL_isPassed 359 = .ok (.aload_n 2, 1) := by decide +kernel
theorem dL_isPassed_360 : decode cL_isPassed 360 = .ok (.iload 16, 2) := by decide +kernel
theorem dL_isPassed_362 : decode cL_isPassed 362 = .ok (.baload, 1) := by decide +kernel
theorem dL_isPassed_363 : decode cL_isPassed 363 = .ok (.ifCond .eq 5, 3) := by decide +kernel
theorem dL_isPassed_366 : decode cL_isPassed 366 = .ok (.iconst 0, 1) := by decide +kernel
theorem dL_isPassed_367 : decode cL_isPassed 367 = .ok (.ireturn, 1) := by decide +kernel
theorem dL_isPassed_368 : decode cL_isPassed 368 = .ok (.aload_n 0, 1) := by decide +kernel
theorem dL_isPassed_369 : decode cL_isPassed 369 = .ok (.aload_n 0, 1) := by decide +kernel
theorem dL_isPassed_370 : decode cL_isPassed 370 = .ok (.iload 16, 2) := by decide +kernel
theorem dL_isPassed_372 : decode cL_isPassed 372 = .ok (.iconst 0, 1) := by decide +kernel
theorem dL_isPassed_373 : decode cL_isPassed 373 = .ok (.invokevirtual 43, 3) := by decide +kernel
theorem dL_isPassed_376 : decode cL_isPassed 376 = .ok (.iconst 4, 1) := by decide +kernel
theorem dL_isPassed_377 : decode cL_isPassed 377 = .ok (.invokevirtual 46, 3) := by decide +kernel
theorem dL_isPassed_380 : decode cL_isPassed 380 = .ok (.ifCond .ne 27, 3) := by decide +kernel
theorem dL_isPassed_383 : decode cL_isPassed 383 = .ok (.aload 13, 2) := by decide +kernel
theorem dL_isPassed_385 : decode cL_isPassed 385 = .ok (.iconst 3, 1) := by decide +kernel
theorem dL_isPassed_386 : decode cL_isPassed 386 = .ok (.aload_n 0, 1) := by decide +kernel
theorem dL_isPassed_387 : decode cL_isPassed 387 = .ok (.iload 16, 2) := by decide +kernel
theorem dL_isPassed_389 : decode cL_isPassed 389 = .ok (.bipush 8, 2) := by decide +kernel
theorem dL_isPassed_391 : decode cL_isPassed 391 = .ok (.invokevirtual 43, 3) := by decide +kernel
theorem dL_isPassed_394 : decode cL_isPassed 394 = .ok (.bipush 10, 2) := by decide +kernel
theorem dL_isPassed_396 : decode cL_isPassed 396 = .ok (.idiv, 1) := by decide +kernel
theorem dL_isPassed_397 : decode cL_isPassed 397 = .ok (.iadd, 1) := by decide +kernel
theorem dL_isPassed_398 : decode cL_isPassed 398 = .ok (.dup2, 1) := by decide +kernel
theorem dL_isPassed_399 : decode cL_isPassed 399 = .ok (.iaload, 1) := by decide +kernel
theorem dL_isPassed_400 : decode cL_isPassed 400 = .ok (.iload 17, 2) := by decide +kernel
theorem dL_isPassed_402 : decode cL_isPassed 402 = .ok (.iadd, 1) := by decide +kernel
theorem dL_isPassed_403 : decode cL_isPassed 403 = .ok (.iastore, 1) := by decide +kernel
theorem dL_isPassed_404 : decode cL_isPassed 404 = .ok (.goto 18, 3) := by decide +kernel
theorem dL_isPassed_407 : decode cL_isPassed 407 = .ok (.iload 15, 2) := by decide +kernel
theorem dL_isPassed_409 : decode cL_isPassed 409 = .ok (.iload 17, 2) := by decide +kernel
theorem dL_isPassed_411 : decode cL_isPassed 411 = .ok (.ifCond .ne 7, 3) := by decide +kernel
theorem dL_isPassed_414 : decode cL_isPassed 414 = .ok (.iconst 1, 1) := by decide +kernel
theorem dL_isPassed_415 : decode cL_isPassed 415 = .ok (.goto 4, 3) := by decide +kernel
theorem dL_isPassed_418 : decode cL_isPassed 418 = .ok (.iconst 0, 1) := by decide +kernel
theorem dL_isPassed_419 : decode cL_isPassed 419 = .ok (.iand, 1) := by decide +kernel
theorem dL_isPassed_420 : decode cL_isPassed 420 = .ok (.istore 15, 2) := by decide +kernel
theorem dL_isPassed_422 : decode cL_isPassed 422 = .ok (.iinc 16 1, 3) := by decide +kernel
theorem dL_isPassed_425 : decode cL_isPassed 425 = .ok (.goto (-209), 3) := by decide +kernel
theorem dL_isPassed_428 : decode cL_isPassed 428 = .ok (.iconst 0, 1) := by decide +kernel
theorem dL_isPassed_429 : decode cL_isPassed 429 = .ok (.istore 16, 2) := by decide +kernel
theorem dL_isPassed_431 : decode cL_isPassed 431 = .ok (.iconst 1, 1) := by decide +kernel
theorem dL_isPassed_432 : decode cL_isPassed 432 = .ok (.istore 17, 2) := by decide +kernel
theorem dL_isPassed_434 : decode cL_isPassed 434 = .ok (.iload 17, 2) := by decide +kernel
theorem dL_isPassed_436 : decode cL_isPassed 436 = .ok (.bipush 9, 2) := by decide +kernel
theorem dL_isPassed_438 : decode cL_isPassed 438 = .ok (.if_icmp .ge 43, 3) := by decide +kernel
theorem dL_isPassed_441 : decode cL_isPassed 441 = .ok (.iload 16, 2) := by decide +kernel
theorem dL_isPassed_443 : decode cL_isPassed 443 = .ok (.aload_n 0, 1) := by decide +kernel
theorem dL_isPassed_444 : decode cL_isPassed 444 = .ok (.iload 17, 2) := by decide +kernel
theorem dL_isPassed_446 : decode cL_isPassed 446 = .ok (.invokevirtual 109, 3) := by decide +kernel
theorem dL_isPassed_449 : decode cL_isPassed 449 = .ok (.iadd, 1) := by decide +kernel
theorem dL_isPassed_450 : decode cL_isPassed 450 = .ok (.istore 16, 2) := by decide +kernel
theorem dL_isPassed_452 : decode cL_isPassed 452 = .ok (.iload 15, 2) := by decide +kernel
theorem dL_isPassed_454 : decode cL_isPassed 454 = .ok (.ifCond .eq 21, 3) := by decide +kernel
theorem dL_isPassed_457 : decode cL_isPassed 457 = .ok (.aload_n 0, 1) := by decide +kernel
theorem dL_isPassed_458 : decode cL_isPassed 458 = .ok (.iload 17, 2) := by decide +kernel
theorem dL_isPassed_460 : decode cL_isPassed 460 = .ok (.invokevirtual 109, 3) := by decide +kernel
theorem dL_isPassed_463 : decode cL_isPassed 463 = .ok (.aload 13, 2) := by decide +kernel
theorem dL_isPassed_465 : decode cL_isPassed 465 = .ok (.iload 17, 2) := by decide +kernel
theorem dL_isPassed_467 : decode cL_isPassed 467 = .ok (.iconst 1, 1) := by decide +kernel
theorem dL_isPassed_468 : decode cL_isPassed 468 = .ok (.iadd, 1) := by decide +kernel
theorem dL_isPassed_469 : decode cL_isPassed 469 = .ok (.iaload, 1) := by decide +kernel
theorem dL_isPassed_470 : decode cL_isPassed 470 = .ok (.if_icmp .eq 5, 3) := by decide +kernel
theorem dL_isPassed_473 : decode cL_isPassed 473 = .ok (.iconst 0, 1) := by decide +kernel
theorem dL_isPassed_474 : decode cL_isPassed 474 = .ok (.ireturn, 1) := by decide +kernel
theorem dL_isPassed_475 : decode cL_isPassed 475 = .ok (.iinc 17 1, 3) := by decide +kernel
theorem dL_isPassed_478 : decode cL_isPassed 478 = .ok (.goto (-44), 3) := by decide +kernel
theorem dL_isPassed_481 : decode cL_isPassed 481 = .ok (.iload 16, 2) := by decide +kernel
theorem dL_isPassed_483 : decode cL_isPassed 483 = .ok (.aload_n 0, 1) := by decide +kernel
theorem dL_isPassed_484 : decode cL_isPassed 484 = .ok (.bipush 6, 2) := by decide +kernel
theorem dL_isPassed_486 : decode cL_isPassed 486 = .ok (.invokevirtual 37, 3) := by decide +kernel
theorem dL_isPassed_489 : decode cL_isPassed 489 = .ok (.if_icmp .eq 5, 3) := by decide +kernel
theorem dL_isPassed_492 : decode cL_isPassed 492 = .ok (.iconst 0, 1) := by decide +kernel
theorem dL_isPassed_493 : decode cL_isPassed 493 = .ok (.ireturn, 1) := by decide +kernel
theorem dL_isPassed_494 : decode cL_isPassed 494 = .ok (.iconst 0, 1) := by decide +kernel
theorem dL_isPassed_495 : decode cL_isPassed 495 = .ok (.istore 17, 2) := by decide +kernel
theorem dL_isPassed_497 : decode cL_isPassed 497 = .ok (.iload 17, 2) := by decide +kernel
theorem dL_isPassed_499 : decode cL_isPassed 499 = .ok (.iconst 2, 1) := by decide +kernel
theorem dL_isPassed_500 : decode cL_isPassed 500 = .ok (.if_icmp .ge 135, 3) := by decide +kernel
theorem dL_isPassed_503 : decode cL_isPassed 503 = .ok (.aload_n 0, 1) := by decide +kernel
theorem dL_isPassed_504 : decode cL_isPassed 504 = .ok (.iload 17, 2) := by decide +kernel
theorem dL_isPassed_506 : decode cL_isPassed 506 = .ok (.iconst 4, 1) := by decide +kernel
theorem dL_isPassed_507 : decode cL_isPassed 507 = .ok (.invokevirtual 46, 3) := by decide +kernel
theorem dL_isPassed_510 : decode cL_isPassed 510 = .ok (.iconst 1, 1) := by decide +kernel
theorem dL_isPassed_511 : decode cL_isPassed 511 = .ok (.if_icmp .ne 7, 3) := by decide +kernel
theorem dL_isPassed_514 : decode cL_isPassed 514 = .ok (.iconst 1, 1) := by decide +kernel
theorem dL_isPassed_515 : decode cL_isPassed 515 = .ok (.goto 4, 3) := by decide +kernel
theorem dL_isPassed_518 : decode cL_isPassed 518 = .ok (.iconst 0, 1) := by decide +kernel
theorem dL_isPassed_519 : decode cL_isPassed 519 = .ok (.istore 18, 2) := by decide +kernel
theorem dL_isPassed_521 : decode cL_isPassed 521 = .ok (.iload 18, 2) := by decide +kernel
theorem dL_isPassed_523 : decode cL_isPassed 523 = .ok (.ifCond .eq 29, 3) := by decide +kernel
theorem dL_isPassed_526 : decode cL_isPassed 526 = .ok (.aload_n 0, 1) := by decide +kernel
theorem dL_isPassed_527 : decode cL_isPassed 527 = .ok (.iload 17, 2) := by decide +kernel
theorem dL_isPassed_529 : decode cL_isPassed 529 = .ok (.iconst 1, 1) := by decide +kernel
theorem dL_isPassed_530 : decode cL_isPassed 530 = .ok (.invokevirtual 46, 3) := by decide +kernel
theorem dL_isPassed_533 : decode cL_isPassed 533 = .ok (.aload_n 0, 1) := by decide +kernel
theorem dL_isPassed_534 : decode cL_isPassed 534 = .ok (.iload 17, 2) := by decide +kernel
theorem dL_isPassed_536 : decode cL_isPassed 536 = .ok (.iconst 2, 1) := by decide +kernel
theorem dL_isPassed_537 : decode cL_isPassed 537 = .ok (.invokevirtual 46, 3) := by decide +kernel
theorem dL_isPassed_540 : decode cL_isPassed 540 = .ok (.iadd, 1) := by decide +kernel
theorem dL_isPassed_541 : decode cL_isPassed 541 = .ok (.aload_n 0, 1) := by decide +kernel
theorem dL_isPassed_542 : decode cL_isPassed 542 = .ok (.iload 17, 2) := by decide +kernel
theorem dL_isPassed_544 : decode cL_isPassed 544 = .ok (.iconst 3, 1) := by decide +kernel
theorem dL_isPassed_545 : decode cL_isPassed 545 = .ok (.invokevirtual 46, 3) := by decide +kernel
theorem dL_isPassed_548 : decode cL_isPassed 548 = .ok (.iadd, 1) := by decide +kernel
theorem dL_isPassed_549 : decode cL_isPassed 549 = .ok (.ifCond .gt 49, 3) := by decide +kernel
theorem dL_isPassed_552 : decode cL_isPassed 552 = .ok (.iload 18, 2) := by decide +kernel
theorem dL_isPassed_554 : decode cL_isPassed 554 = .ok (.ifCond .ne 23, 3) := by decide +kernel
theorem dL_isPassed_557 : decode cL_isPassed 557 = .ok (.aload_n 0, 1) := by decide +kernel
theorem dL_isPassed_558 : decode cL_isPassed 558 = .ok (.iload 17, 2) := by decide +kernel
theorem dL_isPassed_560 : decode cL_isPassed 560 = .ok (.iconst 2, 1) := by decide +kernel
theorem dL_isPassed_561 : decode cL_isPassed 561 = .ok (.invokevirtual 46, 3) := by decide +kernel
theorem dL_isPassed_564 : decode cL_isPassed 564 = .ok (.aload 12, 2) := by decide +kernel
theorem dL_isPassed_566 : decode cL_isPassed 566 = .ok (.iload 17, 2) := by decide +kernel
theorem dL_isPassed_568 : decode cL_isPassed 568 = .ok (.iaload, 1) := by decide +kernel
theorem dL_isPassed_569 : decode cL_isPassed 569 = .ok (.isub, 1) := by decide +kernel
theorem dL_isPassed_570 : decode cL_isPassed 570 = .ok (.invokestatic 120, 3) := by decide +kernel
theorem dL_isPassed_573 : decode cL_isPassed 573 = .ok (.iconst 1, 1) := by decide +kernel
theorem dL_isPassed_574 : decode cL_isPassed 574 = .ok (.if_icmp .gt 24, 3) := by decide +kernel
theorem dL_isPassed_577 : decode cL_isPassed 577 = .ok (.aload_n 0, 1) := by decide +kernel
theorem dL_isPassed_578 : decode cL_isPassed 578 = .ok (.iconst 5, 1) := by decide +kernel
theorem dL_isPassed_579 : decode cL_isPassed 579 = .ok (.invokevirtual 37, 3) := by decide +kernel
theorem dL_isPassed_582 : decode cL_isPassed 582 = .ok (.sipush 300, 3) := by decide +kernel
theorem dL_isPassed_585 : decode cL_isPassed 585 = .ok (.if_icmp .ge 15, 3) := by decide +kernel
theorem dL_isPassed_588 : decode cL_isPassed 588 = .ok (.aload_n 0, 1) := by decide +kernel
theorem dL_isPassed_589 : decode cL_isPassed 589 = .ok (.iload 17, 2) := by decide +kernel
theorem dL_isPassed_591 : decode cL_isPassed 591 = .ok (.iconst 2, 1) := by decide +kernel
theorem dL_isPassed_592 : decode cL_isPassed 592 = .ok (.invokevirtual 46, 3) := by decide +kernel
theorem dL_isPassed_595 : decode cL_isPassed 595 = .ok (.ifCond .le 5, 3) := by decide +kernel
theorem dL_isPassed_598 : decode cL_isPassed 598 = .ok (.iconst 0, 1) := by decide +kernel
theorem dL_isPassed_599 : decode cL_isPassed 599 = .ok (.ireturn, 1) := by decide +kernel
theorem dL_isPassed_600 : decode cL_isPassed 600 = .ok (.iload 14, 2) := by decide +kernel
theorem dL_isPassed_602 : decode cL_isPassed 602 = .ok (.iload 18, 2) := by decide +kernel
theorem dL_isPassed_604 : decode cL_isPassed 604 = .ok (.ifCond .eq 7, 3) := by decide +kernel
theorem dL_isPassed_607 : decode cL_isPassed 607 = .ok (.iconst 0, 1) := by decide +kernel
theorem dL_isPassed_608 : decode cL_isPassed 608 = .ok (.goto 18, 3) := by decide +kernel
theorem dL_isPassed_611 : decode cL_isPassed 611 = .ok (.aload_n 0, 1) := by decide +kernel
theorem dL_isPassed_612 : decode cL_isPassed 612 = .ok (.iload 17, 2) := by decide +kernel
theorem dL_isPassed_614 : decode cL_isPassed 614 = .ok (.iconst 2, 1) := by decide +kernel
theorem dL_isPassed_615 : decode cL_isPassed 615 = .ok (.invokevirtual 46, 3) := by decide +kernel
theorem dL_isPassed_618 : decode cL_isPassed 618 = .ok (.aload_n 0, 1) := by decide +kernel
theorem dL_isPassed_619 : decode cL_isPassed 619 = .ok (.iload 17, 2) := by decide +kernel
theorem dL_isPassed_621 : decode cL_isPassed 621 = .ok (.iconst 2, 1) := by decide +kernel
theorem dL_isPassed_622 : decode cL_isPassed 622 = .ok (.invokevirtual 46, 3) := by decide +kernel
theorem dL_isPassed_625 : decode cL_isPassed 625 = .ok (.imul, 1) := by decide +kernel
theorem dL_isPassed_626 : decode cL_isPassed 626 = .ok (.iadd, 1) := by decide +kernel
theorem dL_isPassed_627 : decode cL_isPassed 627 = .ok (.istore 14, 2) := by decide +kernel
theorem dL_isPassed_629 : decode cL_isPassed 629 = .ok (.iinc 17 1, 3) := by decide +kernel
theorem dL_isPassed_632 : decode cL_isPassed 632 = .ok (.goto (-135), 3) := by decide +kernel
theorem dL_isPassed_635 : decode cL_isPassed 635 = .ok (.aload_n 0, 1) := by decide +kernel
theorem dL_isPassed_636 : decode cL_isPassed 636 = .ok (.bipush 10, 2) := by decide +kernel
theorem dL_isPassed_638 : decode cL_isPassed 638 = .ok (.invokevirtual 37, 3) := by decide +kernel
theorem dL_isPassed_641 : decode cL_isPassed 641 = .ok (.iload 14, 2) := by decide +kernel
theorem dL_isPassed_643 : decode cL_isPassed 643 = .ok (.if_icmp .ge 5, 3) := by decide +kernel
theorem dL_isPassed_646 : decode cL_isPassed 646 = .ok (.iconst 0, 1) := by decide +kernel
theorem dL_isPassed_647 : decode cL_isPassed 647 = .ok (.ireturn, 1) := by decide +kernel
theorem dL_isPassed_648 : decode cL_isPassed 648 = .ok (.iinc 9 1, 3) := by decide +kernel
theorem dL_isPassed_651 : decode cL_isPassed 651 = .ok (.goto (-587), 3) := by decide +kernel
theorem dL_isPassed_654 : decode cL_isPassed 654 = .ok (.iconst 0, 1) := by decide +kernel
theorem dL_isPassed_655 : decode cL_isPassed 655 = .ok (.istore 9, 2) := by decide +kernel
theorem dL_isPassed_657 : decode cL_isPassed 657 = .ok (.iload 9, 2) := by decide +kernel
theorem dL_isPassed_659 : decode cL_isPassed 659 = .ok (.iload_n 1, 1) := by decide +kernel
theorem dL_isPassed_660 : decode cL_isPassed 660 = .ok (.if_icmp .ge 27, 3) := by decide +kernel
theorem dL_isPassed_663 : decode cL_isPassed 663 = .ok (.aload_n 0, 1) := by decide +kernel
theorem dL_isPassed_664 : decode cL_isPassed 664 = .ok (.iload 9, 2) := by decide +kernel
theorem dL_isPassed_666 : decode cL_isPassed 666 = .ok (.bipush 8, 2) := by decide +kernel
theorem dL_isPassed_668 : decode cL_isPassed 668 = .ok (.invokevirtual 43, 3) := by decide +kernel
theorem dL_isPassed_671 : decode cL_isPassed 671 = .ok (.aload 7, 2) := by decide +kernel
theorem dL_isPassed_673 : decode cL_isPassed 673 = .ok (.iload 9, 2) := by decide +kernel
theorem dL_isPassed_675 : decode cL_isPassed 675 = .ok (.iaload, 1) := by decide +kernel
theorem dL_isPassed_676 : decode cL_isPassed 676 = .ok (.if_icmp .eq 5, 3) := by decide +kernel
theorem dL_isPassed_679 : decode cL_isPassed 679 = .ok (.iconst 0, 1) := by decide +kernel
theorem dL_isPassed_680 : decode cL_isPassed 680 = .ok (.ireturn, 1) := by decide +kernel
theorem dL_isPassed_681 : decode cL_isPassed 681 = .ok (.iinc 9 1, 3) := by decide +kernel
theorem dL_isPassed_684 : decode cL_isPassed 684 = .ok (.goto (-27), 3) := by decide +kernel
theorem dL_isPassed_687 : decode cL_isPassed 687 = .ok (.aload_n 0, 1) := by decide +kernel
theorem dL_isPassed_688 : decode cL_isPassed 688 = .ok (.bipush 9, 2) := by decide +kernel
theorem dL_isPassed_690 : decode cL_isPassed 690 = .ok (.invokevirtual 37, 3) := by decide +kernel
theorem dL_isPassed_693 : decode cL_isPassed 693 = .ok (.iload 4, 2) := by decide +kernel
theorem dL_isPassed_695 : decode cL_isPassed 695 = .ok (.isub, 1) := by decide +kernel
theorem dL_isPassed_696 : decode cL_isPassed 696 = .ok (.iload 5, 2) := by decide +kernel
theorem dL_isPassed_698 : decode cL_isPassed 698 = .ok (.if_icmp .ne 14, 3) := by decide +kernel
theorem dL_isPassed_701 : decode cL_isPassed 701 = .ok (.iload 8, 2) := by decide +kernel
theorem dL_isPassed_703 : decode cL_isPassed 703 = .ok (.iload 6, 2) := by decide +kernel
theorem dL_isPassed_705 : decode cL_isPassed 705 = .ok (.if_icmp .ne 7, 3) := by decide +kernel
theorem dL_isPassed_708 : decode cL_isPassed 708 = .ok (.iconst 1, 1) := by decide +kernel
theorem dL_isPassed_709 : decode cL_isPassed 709 = .ok (.goto 4, 3) := by decide +kernel
theorem dL_isPassed_712 : decode cL_isPassed 712 = .ok (.iconst 0, 1) := by decide +kernel
theorem dL_isPassed_713 : decode cL_isPassed 713 = .ok (.ireturn, 1) := by decide +kernel
