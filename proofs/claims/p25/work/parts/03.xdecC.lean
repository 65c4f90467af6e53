/-! decode rows -/
theorem dL_cell_0 : decode cL_cell 0 = .ok (.iload_n 1, 1) := by decide +kernel
theorem dL_cell_1 : decode cL_cell 1 = .ok (.aload_n 0, 1) := by decide +kernel
theorem dL_cell_2 : decode cL_cell 2 = .ok (.arraylength, 1) := by decide +kernel
theorem dL_cell_3 : decode cL_cell 3 = .ok (.if_icmp .ge 9, 3) := by decide +kernel
theorem dL_cell_6 : decode cL_cell 6 = .ok (.aload_n 0, 1) := by decide +kernel
theorem dL_cell_7 : decode cL_cell 7 = .ok (.iload_n 1, 1) := by decide +kernel
theorem dL_cell_8 : decode cL_cell 8 = .ok (.iaload, 1) := by decide +kernel
theorem dL_cell_9 : decode cL_cell 9 = .ok (.goto 11, 3) := by decide +kernel
theorem dL_cell_12 : decode cL_cell 12 = .ok (.ldc 7, 2) := by decide +kernel
theorem dL_cell_14 : decode cL_cell 14 = .ok (.iload_n 1, 1) := by decide +kernel
theorem dL_cell_15 : decode cL_cell 15 = .ok (.sipush 1439, 3) := by decide +kernel
theorem dL_cell_18 : decode cL_cell 18 = .ok (.iadd, 1) := by decide +kernel
theorem dL_cell_19 : decode cL_cell 19 = .ok (.imul, 1) := by decide +kernel
theorem dL_cell_20 : decode cL_cell 20 = .ok (.ireturn, 1) := by decide +kernel
theorem dL_up_0 : decode cL_up 0 = .ok (.iload_n 0, 1) := by decide +kernel
theorem dL_up_1 : decode cL_up 1 = .ok (.ldc 8, 2) := by decide +kernel
theorem dL_up_3 : decode cL_up 3 = .ok (.iand, 1) := by decide +kernel
theorem dL_up_4 : decode cL_up 4 = .ok (.iload_n 1, 1) := by decide +kernel
theorem dL_up_5 : decode cL_up 5 = .ok (.irem, 1) := by decide +kernel
theorem dL_up_6 : decode cL_up 6 = .ok (.ireturn, 1) := by decide +kernel
theorem dL_isRead_0 : decode cL_isRead 0 = .ok (.aload_n 0, 1) := by decide +kernel
theorem dL_isRead_1 : decode cL_isRead 1 = .ok (.invokevirtual 9, 3) := by decide +kernel
theorem dL_isRead_4 : decode cL_isRead 4 = .ok (.ifCond .lt 14, 3) := by decide +kernel
theorem dL_isRead_7 : decode cL_isRead 7 = .ok (.aload_n 1, 1) := by decide +kernel
theorem dL_isRead_8 : decode cL_isRead 8 = .ok (.invokevirtual 9, 3) := by decide +kernel
theorem dL_isRead_11 : decode cL_isRead 11 = .ok (.ifCond .lt 7, 3) := by decide +kernel
theorem dL_isRead_14 : decode cL_isRead 14 = .ok (.iconst 1, 1) := by decide +kernel
theorem dL_isRead_15 : decode cL_isRead 15 = .ok (.goto 4, 3) := by decide +kernel
theorem dL_isRead_18 : decode cL_isRead 18 = .ok (.iconst 0, 1) := by decide +kernel
theorem dL_isRead_19 : decode cL_isRead 19 = .ok (.istore 4, 2) := by decide +kernel
theorem dL_isRead_21 : decode cL_isRead 21 = .ok (.iconst 1, 1) := by decide +kernel
theorem dL_isRead_22 : decode cL_isRead 22 = .ok (.iload_n 2, 1) := by decide +kernel
theorem dL_isRead_23 : decode cL_isRead 23 = .ok (.iload_n 3, 1) := by decide +kernel
theorem dL_isRead_24 : decode cL_isRead 24 = .ok (.iconst 2, 1) := by decide +kernel
theorem dL_isRead_25 : decode cL_isRead 25 = .ok (.invokestatic 15, 3) := by decide +kernel
theorem dL_isRead_28 : decode cL_isRead 28 = .ok (.ifCond .ne 8, 3) := by decide +kernel
theorem dL_isRead_31 : decode cL_isRead 31 = .ok (.bipush 20, 2) := by decide +kernel
theorem dL_isRead_33 : decode cL_isRead 33 = .ok (.goto 5, 3) := by decide +kernel
theorem dL_isRead_36 : decode cL_isRead 36 = .ok (.bipush 6, 2) := by decide +kernel
theorem dL_isRead_38 : decode cL_isRead 38 = .ok (.invokestatic 15, 3) := by decide +kernel
theorem dL_isRead_41 : decode cL_isRead 41 = .ok (.iadd, 1) := by decide +kernel
theorem dL_isRead_42 : decode cL_isRead 42 = .ok (.istore 5, 2) := by decide +kernel
theorem dL_isRead_44 : decode cL_isRead 44 = .ok (.iload_n 2, 1) := by decide +kernel
theorem dL_isRead_45 : decode cL_isRead 45 = .ok (.iconst 4, 1) := by decide +kernel
theorem dL_isRead_46 : decode cL_isRead 46 = .ok (.ishr, 1) := by decide +kernel
theorem dL_isRead_47 : decode cL_isRead 47 = .ok (.iconst 4, 1) := by decide +kernel
theorem dL_isRead_48 : decode cL_isRead 48 = .ok (.invokestatic 15, 3) := by decide +kernel
theorem dL_isRead_51 : decode cL_isRead 51 = .ok (.istore 6, 2) := by decide +kernel
theorem dL_isRead_53 : decode cL_isRead 53 = .ok (.iconst 0, 1) := by decide +kernel
theorem dL_isRead_54 : decode cL_isRead 54 = .ok (.istore 7, 2) := by decide +kernel
theorem dL_isRead_56 : decode cL_isRead 56 = .ok (.iload 7, 2) := by decide +kernel
theorem dL_isRead_58 : decode cL_isRead 58 = .ok (.iload 5, 2) := by decide +kernel
theorem dL_isRead_60 : decode cL_isRead 60 = .ok (.if_icmp .ge 61, 3) := by decide +kernel
theorem dL_isRead_63 : decode cL_isRead 63 = .ok (.bipush 97, 2) := by decide +kernel
theorem dL_isRead_65 : decode cL_isRead 65 = .ok (.iload_n 2, 1) := by decide +kernel
theorem dL_isRead_66 : decode cL_isRead 66 = .ok (.iload 7, 2) := by decide +kernel
theorem dL_isRead_68 : decode cL_isRead 68 = .ok (.ishr, 1) := by decide +kernel
theorem dL_isRead_69 : decode cL_isRead 69 = .ok (.iload_n 3, 1) := by decide +kernel
theorem dL_isRead_70 : decode cL_isRead 70 = .ok (.iconst 2, 1) := by decide +kernel
theorem dL_isRead_71 : decode cL_isRead 71 = .ok (.iload 7, 2) := by decide +kernel
theorem dL_isRead_73 : decode cL_isRead 73 = .ok (.imul, 1) := by decide +kernel
theorem dL_isRead_74 : decode cL_isRead 74 = .ok (.ishr, 1) := by decide +kernel
theorem dL_isRead_75 : decode cL_isRead 75 = .ok (.ixor, 1) := by decide +kernel
theorem dL_isRead_76 : decode cL_isRead 76 = .ok (.bipush 26, 2) := by decide +kernel
theorem dL_isRead_78 : decode cL_isRead 78 = .ok (.invokestatic 15, 3) := by decide +kernel
theorem dL_isRead_81 : decode cL_isRead 81 = .ok (.iadd, 1) := by decide +kernel
theorem dL_isRead_82 : decode cL_isRead 82 = .ok (.i2c, 1) := by decide +kernel
theorem dL_isRead_83 : decode cL_isRead 83 = .ok (.istore 8, 2) := by decide +kernel
theorem dL_isRead_85 : decode cL_isRead 85 = .ok (.iload 4, 2) := by decide +kernel
theorem dL_isRead_87 : decode cL_isRead 87 = .ok (.ifCond .eq 25, 3) := by decide +kernel
theorem dL_isRead_90 : decode cL_isRead 90 = .ok (.aload_n 0, 1) := by decide +kernel
theorem dL_isRead_91 : decode cL_isRead 91 = .ok (.iload 8, 2) := by decide +kernel
theorem dL_isRead_93 : decode cL_isRead 93 = .ok (.invokevirtual 21, 3) := by decide +kernel
theorem dL_isRead_96 : decode cL_isRead 96 = .ok (.ifCond .le 16, 3) := by decide +kernel
theorem dL_isRead_99 : decode cL_isRead 99 = .ok (.aload_n 1, 1) := by decide +kernel
theorem dL_isRead_100 : decode cL_isRead 100 = .ok (.iload 8, 2) := by decide +kernel
theorem dL_isRead_102 : decode cL_isRead 102 = .ok (.invokevirtual 21, 3) := by decide +kernel
theorem dL_isRead_105 : decode cL_isRead 105 = .ok (.ifCond .le 7, 3) := by decide +kernel
theorem dL_isRead_108 : decode cL_isRead 108 = .ok (.iconst 1, 1) := by decide +kernel
theorem dL_isRead_109 : decode cL_isRead 109 = .ok (.goto 4, 3) := by decide +kernel
theorem dL_isRead_112 : decode cL_isRead 112 = .ok (.iconst 0, 1) := by decide +kernel
theorem dL_isRead_113 : decode cL_isRead 113 = .ok (.istore 4, 2) := by decide +kernel
theorem dL_isRead_115 : decode cL_isRead 115 = .ok (.iinc 7 1, 3) := by decide +kernel
theorem dL_isRead_118 : decode cL_isRead 118 = .ok (.goto (-62), 3) := by decide +kernel
theorem dL_isRead_121 : decode cL_isRead 121 = .ok (.iload 4, 2) := by decide +kernel
theorem dL_isRead_123 : decode cL_isRead 123 = .ok (.ifCond .eq 18, 3) := by decide +kernel
theorem dL_isRead_126 : decode cL_isRead 126 = .ok (.aload_n 1, 1) := by decide +kernel
theorem dL_isRead_127 : decode cL_isRead 127 = .ok (.invokevirtual 25, 3) := by decide +kernel
theorem dL_isRead_130 : decode cL_isRead 130 = .ok (.iconst 2, 1) := by decide +kernel
theorem dL_isRead_131 : decode cL_isRead 131 = .ok (.iload 5, 2) := by decide +kernel
theorem dL_isRead_133 : decode cL_isRead 133 = .ok (.imul, 1) := by decide +kernel
theorem dL_isRead_134 : decode cL_isRead 134 = .ok (.if_icmp .ne 7, 3) := by decide +kernel
theorem dL_isRead_137 : decode cL_isRead 137 = .ok (.iconst 1, 1) := by decide +kernel
theorem dL_isRead_138 : decode cL_isRead 138 = .ok (.goto 4, 3) := by decide +kernel
theorem dL_isRead_141 : decode cL_isRead 141 = .ok (.iconst 0, 1) := by decide +kernel
theorem dL_isRead_142 : decode cL_isRead 142 = .ok (.istore 4, 2) := by decide +kernel
theorem dL_isRead_144 : decode cL_isRead 144 = .ok (.iconst 0, 1) := by decide +kernel
theorem dL_isRead_145 : decode cL_isRead 145 = .ok (.istore 7, 2) := by decide +kernel
theorem dL_isRead_147 : decode cL_isRead 147 = .ok (.iload 7, 2) := by decide +kernel
theorem dL_isRead_149 : decode cL_isRead 149 = .ok (.iload 6, 2) := by decide +kernel
theorem dL_isRead_151 : decode cL_isRead 151 = .ok (.if_icmp .ge 156, 3) := by decide +kernel
theorem dL_isRead_154 : decode cL_isRead 154 = .ok (.iload_n 3, 1) := by decide +kernel
theorem dL_isRead_155 : decode cL_isRead 155 = .ok (.iconst 3, 1) := by decide +kernel
theorem dL_isRead_156 : decode cL_isRead 156 = .ok (.iload 7, 2) := by decide +kernel
theorem dL_isRead_158 : decode cL_isRead 158 = .ok (.imul, 1) := by decide +kernel
theorem dL_isRead_159 : decode cL_isRead 159 = .ok (.ishr, 1) := by decide +kernel
theorem dL_isRead_160 : decode cL_isRead 160 = .ok (.iconst 2, 1) := by decide +kernel
theorem dL_isRead_161 : decode cL_isRead 161 = .ok (.iload 5, 2) := by decide +kernel
theorem dL_isRead_163 : decode cL_isRead 163 = .ok (.imul, 1) := by decide +kernel
theorem dL_isRead_164 : decode cL_isRead 164 = .ok (.invokestatic 15, 3) := by decide +kernel
theorem dL_isRead_167 : decode cL_isRead 167 = .ok (.istore 8, 2) := by decide +kernel
theorem dL_isRead_169 : decode cL_isRead 169 = .ok (.iconst 1, 1) := by decide +kernel
theorem dL_isRead_170 : decode cL_isRead 170 = .ok (.iload_n 2, 1) := by decide +kernel
theorem dL_isRead_171 : decode cL_isRead 171 = .ok (.iconst 2, 1) := by decide +kernel
theorem dL_isRead_172 : decode cL_isRead 172 = .ok (.iload 7, 2) := by decide +kernel
theorem dL_isRead_174 : decode cL_isRead 174 = .ok (.imul, 1) := by decide +kernel
theorem dL_isRead_175 : decode cL_isRead 175 = .ok (.ishr, 1) := by decide +kernel
theorem dL_isRead_176 : decode cL_isRead 176 = .ok (.bipush 26, 2) := by decide +kernel
theorem dL_isRead_178 : decode cL_isRead 178 = .ok (.invokestatic 15, 3) := by decide +kernel
theorem dL_isRead_181 : decode cL_isRead 181 = .ok (.iadd, 1) := by decide +kernel
theorem dL_isRead_182 : decode cL_isRead 182 = .ok (.istore 9, 2) := by decide +kernel
theorem dL_isRead_184 : decode cL_isRead 184 = .ok (.iload 4, 2) := by decide +kernel
theorem dL_isRead_186 : decode cL_isRead 186 = .ok (.ifCond .eq 78, 3) := by decide +kernel
theorem dL_isRead_189 : decode cL_isRead 189 = .ok (.aload_n 0, 1) := by decide +kernel
theorem dL_isRead_190 : decode cL_isRead 190 = .ok (.iload 7, 2) := by decide +kernel
theorem dL_isRead_192 : decode cL_isRead 192 = .ok (.ifCond .ne 8, 3) := by decide +kernel
theorem dL_isRead_195 : decode cL_isRead 195 = .ok (.bipush 33, 2) := by decide +kernel
theorem dL_isRead_197 : decode cL_isRead 197 = .ok (.goto 5, 3) := by decide +kernel
theorem dL_isRead_200 : decode cL_isRead 200 = .ok (.bipush 44, 2) := by decide +kernel
theorem dL_isRead_202 : decode cL_isRead 202 = .ok (.invokevirtual 21, 3) := by decide +kernel
theorem dL_isRead_205 : decode cL_isRead 205 = .ok (.ifCond .le 59, 3) := by decide +kernel
theorem dL_isRead_208 : decode cL_isRead 208 = .ok (.iload 8, 2) := by decide +kernel
theorem dL_isRead_210 : decode cL_isRead 210 = .ok (.bipush 10, 2) := by decide +kernel
theorem dL_isRead_212 : decode cL_isRead 212 = .ok (.if_icmp .lt 19, 3) := by decide +kernel
theorem dL_isRead_215 : decode cL_isRead 215 = .ok (.aload_n 0, 1) := by decide +kernel
theorem dL_isRead_216 : decode cL_isRead 216 = .ok (.bipush 48, 2) := by decide +kernel
theorem dL_isRead_218 : decode cL_isRead 218 = .ok (.iload 8, 2) := by decide +kernel
theorem dL_isRead_220 : decode cL_isRead 220 = .ok (.bipush 10, 2) := by decide +kernel
theorem dL_isRead_222 : decode cL_isRead 222 = .ok (.idiv, 1) := by decide +kernel
theorem dL_isRead_223 : decode cL_isRead 223 = .ok (.iadd, 1) := by decide +kernel
theorem dL_isRead_224 : decode cL_isRead 224 = .ok (.i2c, 1) := by decide +kernel
theorem dL_isRead_225 : decode cL_isRead 225 = .ok (.invokevirtual 21, 3) := by decide +kernel
theorem dL_isRead_228 : decode cL_isRead 228 = .ok (.ifCond .le 36, 3) := by decide +kernel
theorem dL_isRead_231 : decode cL_isRead 231 = .ok (.aload_n 0, 1) := by decide +kernel
theorem dL_isRead_232 : decode cL_isRead 232 = .ok (.bipush 48, 2) := by decide +kernel
theorem dL_isRead_234 : decode cL_isRead 234 = .ok (.iload 8, 2) := by decide +kernel
theorem dL_isRead_236 : decode cL_isRead 236 = .ok (.bipush 10, 2) := by decide +kernel
theorem dL_isRead_238 : decode cL_isRead 238 = .ok (.irem, 1) := by decide +kernel
theorem dL_isRead_239 : decode cL_isRead 239 = .ok (.iadd, 1) := by decide +kernel
theorem dL_isRead_240 : decode cL_isRead 240 = .ok (.i2c, 1) := by decide +kernel
theorem dL_isRead_241 : decode cL_isRead 241 = .ok (.invokevirtual 21, 3) := by decide +kernel
theorem dL_isRead_244 : decode cL_isRead 244 = .ok (.ifCond .le 20, 3) := by decide +kernel
theorem dL_isRead_247 : decode cL_isRead 247 = .ok (.aload_n 0, 1) := by decide +kernel
theorem dL_isRead_248 : decode cL_isRead 248 = .ok (.bipush 96, 2) := by decide +kernel
theorem dL_isRead_250 : decode cL_isRead 250 = .ok (.iload 9, 2) := by decide +kernel
theorem dL_isRead_252 : decode cL_isRead 252 = .ok (.iadd, 1) := by decide +kernel
theorem dL_isRead_253 : decode cL_isRead 253 = .ok (.i2c, 1) := by decide +kernel
theorem dL_isRead_254 : decode cL_isRead 254 = .ok (.invokevirtual 21, 3) := by decide +kernel
theorem dL_isRead_257 : decode cL_isRead 257 = .ok (.ifCond .le 7, 3) := by decide +kernel
theorem dL_isRead_260 : decode cL_isRead 260 = .ok (.iconst 1, 1) := by decide +kernel
theorem dL_isRead_261 : decode cL_isRead 261 = .ok (.goto 4, 3) := by decide +kernel
theorem dL_isRead_264 : decode cL_isRead 264 = .ok (.iconst 0, 1) := by decide +kernel
theorem dL_isRead_265 : decode cL_isRead 265 = .ok (.istore 4, 2) := by decide +kernel
theorem dL_isRead_267 : decode cL_isRead 267 = .ok (.aload_n 1, 1) := by decide +kernel
theorem dL_isRead_268 : decode cL_isRead 268 = .ok (.iload 8, 2) := by decide +kernel
theorem dL_isRead_270 : decode cL_isRead 270 = .ok (.iload 9, 2) := by decide +kernel
theorem dL_isRead_272 : decode cL_isRead 272 = .ok (.invokevirtual 28, 3) := by decide +kernel
theorem dL_isRead_275 : decode cL_isRead 275 = .ok (.istore 10, 2) := by decide +kernel
theorem dL_isRead_277 : decode cL_isRead 277 = .ok (.iload 4, 2) := by decide +kernel
theorem dL_isRead_279 : decode cL_isRead 279 = .ok (.ifCond .eq 19, 3) := by decide +kernel
theorem dL_isRead_282 : decode cL_isRead 282 = .ok (.iload 10, 2) := by decide +kernel
theorem dL_isRead_284 : decode cL_isRead 284 = .ok (.ifCond .gt 10, 3) := by decide +kernel
theorem dL_isRead_287 : decode cL_isRead 287 = .ok (.iload 10, 2) := by decide +kernel
theorem dL_isRead_289 : decode cL_isRead 289 = .ok (.bipush (-5), 2) := by decide +kernel
theorem dL_isRead_291 : decode cL_isRead 291 = .ok (.if_icmp .ne 7, 3) := by decide +kernel
theorem dL_isRead_294 : decode cL_isRead 294 = .ok (.iconst 1, 1) := by decide +kernel
theorem dL_isRead_295 : decode cL_isRead 295 = .ok (.goto 4, 3) := by decide +kernel
theorem dL_isRead_298 : decode cL_isRead 298 = .ok (.iconst 0, 1) := by decide +kernel
theorem dL_isRead_299 : decode cL_isRead 299 = .ok (.istore 4, 2) := by decide +kernel
theorem dL_isRead_301 : decode cL_isRead 301 = .ok (.iinc 7 1, 3) := by decide +kernel
theorem dL_isRead_304 : decode cL_isRead 304 = .ok (.goto (-157), 3) := by decide +kernel
theorem dL_isRead_307 : decode cL_isRead 307 = .ok (.aload_n 0, 1) := by decide +kernel
theorem dL_isRead_308 : decode cL_isRead 308 = .ok (.bipush 6, 2) := by decide +kernel
theorem dL_isRead_310 : decode cL_isRead 310 = .ok (.invokevirtual 31, 3) := by decide +kernel
theorem dL_isRead_313 : decode cL_isRead 313 = .ok (.istore 7, 2) := by decide +kernel
theorem dL_isRead_315 : decode cL_isRead 315 = .ok (.iload 4, 2) := by decide +kernel
theorem dL_isRead_317 : decode cL_isRead 317 = .ok (.ifCond .eq 83, 3) := by decide +kernel
theorem dL_isRead_320 : decode cL_isRead 320 = .ok (.aload_n 0, 1) := by decide +kernel
theorem dL_isRead_321 : decode cL_isRead 321 = .ok (.invokevirtual 25, 3) := by decide +kernel
theorem dL_isRead_324 : decode cL_isRead 324 = .ok (.iconst 2, 1) := by decide +kernel
theorem dL_isRead_325 : decode cL_isRead 325 = .ok (.iload 5, 2) := by decide +kernel
theorem dL_isRead_327 : decode cL_isRead 327 = .ok (.imul, 1) := by decide +kernel
theorem dL_isRead_328 : decode cL_isRead 328 = .ok (.if_icmp .ne 72, 3) := by decide +kernel
theorem dL_isRead_331 : decode cL_isRead 331 = .ok (.aload_n 0, 1) := by decide +kernel
theorem dL_isRead_332 : decode cL_isRead 332 = .ok (.iconst 1, 1) := by decide +kernel
theorem dL_isRead_333 : decode cL_isRead 333 = .ok (.invokevirtual 31, 3) := by decide +kernel
theorem dL_isRead_336 : decode cL_isRead 336 = .ok (.iconst 2, 1) := by decide +kernel
theorem dL_isRead_337 : decode cL_isRead 337 = .ok (.iload 5, 2) := by decide +kernel
theorem dL_isRead_339 : decode cL_isRead 339 = .ok (.imul, 1) := by decide +kernel
theorem dL_isRead_340 : decode cL_isRead 340 = .ok (.if_icmp .ne 60, 3) := by decide +kernel
theorem dL_isRead_343 : decode cL_isRead 343 = .ok (.aload_n 0, 1) := by decide +kernel
theorem dL_isRead_344 : decode cL_isRead 344 = .ok (.iconst 2, 1) := by decide +kernel
theorem dL_isRead_345 : decode cL_isRead 345 = .ok (.invokevirtual 31, 3) := by decide +kernel
theorem dL_isRead_348 : decode cL_isRead 348 = .ok (.ifCond .ne 52, 3) := by decide +kernel
theorem dL_isRead_351 : decode cL_isRead 351 = .ok (.aload_n 0, 1) := by decide +kernel
theorem dL_isRead_352 : decode cL_isRead 352 = .ok (.bipush 6, 2) := by decide +kernel
theorem dL_isRead_354 : decode cL_isRead 354 = .ok (.invokevirtual 31, 3) := by decide +kernel
theorem dL_isRead_357 : decode cL_isRead 357 = .ok (.iload 7, 2) := by decide +kernel
theorem dL_isRead_359 : decode cL_isRead 359 = .ok (.iconst 1, 1) := by decide +kernel
theorem dL_isRead_360 : decode cL_isRead 360 = .ok (.iadd, 1) := by decide +kernel
theorem dL_isRead_361 : decode cL_isRead 361 = .ok (.if_icmp .ne 39, 3) := by decide +kernel
theorem dL_isRead_364 : decode cL_isRead 364 = .ok (.aload_n 0, 1) := by decide +kernel
theorem dL_isRead_365 : decode cL_isRead 365 = .ok (.iconst 5, 1) := by decide +kernel
theorem dL_isRead_366 : decode cL_isRead 366 = .ok (.invokevirtual 31, 3) := by decide +kernel
theorem dL_isRead_369 : decode cL_isRead 369 = .ok (.aload_n 0, 1) := by decide +kernel
theorem dL_isRead_370 : decode cL_isRead 370 = .ok (.bipush 11, 2) := by decide +kernel
theorem dL_isRead_372 : decode cL_isRead 372 = .ok (.invokevirtual 31, 3) := by decide +kernel
theorem dL_isRead_375 : decode cL_isRead 375 = .ok (.if_icmp .ne 25, 3) := by decide +kernel
theorem dL_isRead_378 : decode cL_isRead 378 = .ok (.aload_n 0, 1) := by decide +kernel
theorem dL_isRead_379 : decode cL_isRead 379 = .ok (.iconst 0, 1) := by decide +kernel
theorem dL_isRead_380 : decode cL_isRead 380 = .ok (.iconst 3, 1) := by decide +kernel
theorem dL_isRead_381 : decode cL_isRead 381 = .ok (.invokevirtual 35, 3) := by decide +kernel
theorem dL_isRead_384 : decode cL_isRead 384 = .ok (.ifCond .ne 16, 3) := by decide +kernel
theorem dL_isRead_387 : decode cL_isRead 387 = .ok (.aload_n 0, 1) := by decide +kernel
theorem dL_isRead_388 : decode cL_isRead 388 = .ok (.iconst 1, 1) := by decide +kernel
theorem dL_isRead_389 : decode cL_isRead 389 = .ok (.iconst 1, 1) := by decide +kernel
theorem dL_isRead_390 : decode cL_isRead 390 = .ok (.invokevirtual 35, 3) := by decide +kernel
theorem dL_isRead_393 : decode cL_isRead 393 = .ok (.ifCond .ne 7, 3) := by decide +kernel
theorem dL_isRead_396 : decode cL_isRead 396 = .ok (.iconst 1, 1) := by decide +kernel
theorem dL_isRead_397 : decode cL_isRead 397 = .ok (.goto 4, 3) := by decide +kernel
theorem dL_isRead_400 : decode cL_isRead 400 = .ok (.iconst 0, 1) := by decide +kernel
theorem dL_isRead_401 : decode cL_isRead 401 = .ok (.ireturn, 1) := by decide +kernel
theorem dL_isStep_0 : decode cL_isStep 0 = .ok (.iload_n 2, 1) := by decide +kernel
theorem dL_isStep_1 : decode cL_isStep 1 = .ok (.iconst 4, 1) := by decide +kernel
theorem dL_isStep_2 : decode cL_isStep 2 = .ok (.ishr, 1) := by decide +kernel
theorem dL_isStep_3 : decode cL_isStep 3 = .ok (.istore 4, 2) := by decide +kernel
theorem dL_isStep_5 : decode cL_isStep 5 = .ok (.aload_n 0, 1) := by decide +kernel
theorem dL_isStep_6 : decode cL_isStep 6 = .ok (.iconst 1, 1) := by decide +kernel
theorem dL_isStep_7 : decode cL_isStep 7 = .ok (.invokevirtual 31, 3) := by decide +kernel
theorem dL_isStep_10 : decode cL_isStep 10 = .ok (.istore 5, 2) := by decide +kernel
theorem dL_isStep_12 : decode cL_isStep 12 = .ok (.iload_n 2, 1) := by decide +kernel
theorem dL_isStep_13 : decode cL_isStep 13 = .ok (.bipush 14, 2) := by decide +kernel
theorem dL_isStep_15 : decode cL_isStep 15 = .ok (.invokestatic 15, 3) := by decide +kernel
theorem dL_isStep_18 : decode cL_isStep 18 = .ok (.tableswitch 652 0 9 #[54, 174, 261, 261, 327, 327, 497, 497, 599, 608], 54) := by decide +kernel
theorem dL_isStep_72 : decode cL_isStep 72 = .ok (.iload 4, 2) := by decide +kernel
theorem dL_isStep_74 : decode cL_isStep 74 = .ok (.iconst 3, 1) := by decide +kernel
theorem dL_isStep_75 : decode cL_isStep 75 = .ok (.invokestatic 15, 3) := by decide +kernel
theorem dL_isStep_78 : decode cL_isStep 78 = .ok (.istore 6, 2) := by decide +kernel
theorem dL_isStep_80 : decode cL_isStep 80 = .ok (.iload 6, 2) := by decide +kernel
theorem dL_isStep_82 : decode cL_isStep 82 = .ok (.ifCond .ne 14, 3) := by decide +kernel
theorem dL_isStep_85 : decode cL_isStep 85 = .ok (.iconst 1, 1) := by decide +kernel
theorem dL_isStep_86 : decode cL_isStep 86 = .ok (.iload_n 3, 1) := by decide +kernel
theorem dL_isStep_87 : decode cL_isStep 87 = .ok (.bipush 9, 2) := by decide +kernel
theorem dL_isStep_89 : decode cL_isStep 89 = .ok (.invokestatic 15, 3) := by decide +kernel
theorem dL_isStep_92 : decode cL_isStep 92 = .ok (.iadd, 1) := by decide +kernel
theorem dL_isStep_93 : decode cL_isStep 93 = .ok (.goto 24, 3) := by decide +kernel
theorem dL_isStep_96 : decode cL_isStep 96 = .ok (.iload 6, 2) := by decide +kernel
theorem dL_isStep_98 : decode cL_isStep 98 = .ok (.iconst 1, 1) := by decide +kernel
theorem dL_isStep_99 : decode cL_isStep 99 = .ok (.if_icmp .ne 12, 3) := by decide +kernel
theorem dL_isStep_102 : decode cL_isStep 102 = .ok (.iload_n 3, 1) := by decide +kernel
theorem dL_isStep_103 : decode cL_isStep 103 = .ok (.bipush 9, 2) := by decide +kernel
theorem dL_isStep_105 : decode cL_isStep 105 = .ok (.invokestatic 15, 3) := by decide +kernel
theorem dL_isStep_108 : decode cL_isStep 108 = .ok (.goto 9, 3) := by decide +kernel
theorem dL_isStep_111 : decode cL_isStep 111 = .ok (.iload_n 3, 1) := by decide +kernel
theorem dL_isStep_112 : decode cL_isStep 112 = .ok (.bipush 21, 2) := by decide +kernel
theorem dL_isStep_114 : decode cL_isStep 114 = .ok (.invokestatic 15, 3) := by decide +kernel
theorem dL_isStep_117 : decode cL_isStep 117 = .ok (.istore 7, 2) := by decide +kernel
theorem dL_isStep_119 : decode cL_isStep 119 = .ok (.aload_n 0, 1) := by decide +kernel
theorem dL_isStep_120 : decode cL_isStep 120 = .ok (.bipush 9, 2) := by decide +kernel
theorem dL_isStep_122 : decode cL_isStep 122 = .ok (.iload 6, 2) := by decide +kernel
theorem dL_isStep_124 : decode cL_isStep 124 = .ok (.iadd, 1) := by decide +kernel
theorem dL_isStep_125 : decode cL_isStep 125 = .ok (.invokevirtual 31, 3) := by decide +kernel
theorem dL_isStep_128 : decode cL_isStep 128 = .ok (.istore 8, 2) := by decide +kernel
theorem dL_isStep_130 : decode cL_isStep 130 = .ok (.aload_n 0, 1) := by decide +kernel
theorem dL_isStep_131 : decode cL_isStep 131 = .ok (.iload 6, 2) := by decide +kernel
theorem dL_isStep_133 : decode cL_isStep 133 = .ok (.iload 7, 2) := by decide +kernel
theorem dL_isStep_135 : decode cL_isStep 135 = .ok (.invokevirtual 38, 3) := by decide +kernel
theorem dL_isStep_138 : decode cL_isStep 138 = .ok (.istore 9, 2) := by decide +kernel
theorem dL_isStep_140 : decode cL_isStep 140 = .ok (.iload 9, 2) := by decide +kernel
theorem dL_isStep_142 : decode cL_isStep 142 = .ok (.aload_n 1, 1) := by decide +kernel
theorem dL_isStep_143 : decode cL_isStep 143 = .ok (.iload 6, 2) := by decide +kernel
theorem dL_isStep_145 : decode cL_isStep 145 = .ok (.iload 7, 2) := by decide +kernel
theorem dL_isStep_147 : decode cL_isStep 147 = .ok (.invokevirtual 38, 3) := by decide +kernel
theorem dL_isStep_150 : decode cL_isStep 150 = .ok (.if_icmp .ne 40, 3) := by decide +kernel
theorem dL_isStep_153 : decode cL_isStep 153 = .ok (.iload 9, 2) := by decide +kernel
theorem dL_isStep_155 : decode cL_isStep 155 = .ok (.iload 8, 2) := by decide +kernel
theorem dL_isStep_157 : decode cL_isStep 157 = .ok (.iload 7, 2) := by decide +kernel
theorem dL_isStep_159 : decode cL_isStep 159 = .ok (.if_icmp .ne 8, 3) := by decide +kernel
theorem dL_isStep_162 : decode cL_isStep 162 = .ok (.bipush (-5), 2) := by decide +kernel
theorem dL_isStep_164 : decode cL_isStep 164 = .ok (.goto 5, 3) := by decide +kernel
theorem dL_isStep_167 : decode cL_isStep 167 = .ok (.iload 8, 2) := by decide +kernel
theorem dL_isStep_169 : decode cL_isStep 169 = .ok (.if_icmp .ne 21, 3) := by decide +kernel
theorem dL_isStep_172 : decode cL_isStep 172 = .ok (.aload_n 0, 1) := by decide +kernel
theorem dL_isStep_173 : decode cL_isStep 173 = .ok (.bipush 9, 2) := by decide +kernel
theorem dL_isStep_175 : decode cL_isStep 175 = .ok (.iload 6, 2) := by decide +kernel
theorem dL_isStep_177 : decode cL_isStep 177 = .ok (.iadd, 1) := by decide +kernel
theorem dL_isStep_178 : decode cL_isStep 178 = .ok (.invokevirtual 31, 3) := by decide +kernel
theorem dL_isStep_181 : decode cL_isStep 181 = .ok (.iload 7, 2) := by decide +kernel
theorem dL_isStep_183 : decode cL_isStep 183 = .ok (.if_icmp .ne 7, 3) := by decide +kernel
theorem dL_isStep_186 : decode cL_isStep 186 = .ok (.iconst 1, 1) := by decide +kernel
theorem dL_isStep_187 : decode cL_isStep 187 = .ok (.goto 4, 3) := by decide +kernel
theorem dL_isStep_190 : decode cL_isStep 190 = .ok (.iconst 0, 1) := by decide +kernel
theorem dL_isStep_191 : decode cL_isStep 191 = .ok (.ireturn, 1) := by decide +kernel
theorem dL_isStep_192 : decode cL_isStep 192 = .ok (.iload 4, 2) := by decide +kernel
theorem dL_isStep_194 : decode cL_isStep 194 = .ok (.iconst 2, 1) := by decide +kernel
theorem dL_isStep_195 : decode cL_isStep 195 = .ok (.invokestatic 15, 3) := by decide +kernel
theorem dL_isStep_198 : decode cL_isStep 198 = .ok (.istore 6, 2) := by decide +kernel
theorem dL_isStep_200 : decode cL_isStep 200 = .ok (.aload_n 0, 1) := by decide +kernel
theorem dL_isStep_201 : decode cL_isStep 201 = .ok (.iload 6, 2) := by decide +kernel
theorem dL_isStep_203 : decode cL_isStep 203 = .ok (.iconst 0, 1) := by decide +kernel
theorem dL_isStep_204 : decode cL_isStep 204 = .ok (.invokevirtual 35, 3) := by decide +kernel
theorem dL_isStep_207 : decode cL_isStep 207 = .ok (.istore 7, 2) := by decide +kernel
theorem dL_isStep_209 : decode cL_isStep 209 = .ok (.iconst 1, 1) := by decide +kernel
theorem dL_isStep_210 : decode cL_isStep 210 = .ok (.iload_n 3, 1) := by decide +kernel
theorem dL_isStep_211 : decode cL_isStep 211 = .ok (.bipush 9, 2) := by decide +kernel
theorem dL_isStep_213 : decode cL_isStep 213 = .ok (.invokestatic 15, 3) := by decide +kernel
theorem dL_isStep_216 : decode cL_isStep 216 = .ok (.iadd, 1) := by decide +kernel
theorem dL_isStep_217 : decode cL_isStep 217 = .ok (.istore 8, 2) := by decide +kernel
theorem dL_isStep_219 : decode cL_isStep 219 = .ok (.aload_n 0, 1) := by decide +kernel
theorem dL_isStep_220 : decode cL_isStep 220 = .ok (.iload 6, 2) := by decide +kernel
theorem dL_isStep_222 : decode cL_isStep 222 = .ok (.iload 8, 2) := by decide +kernel
theorem dL_isStep_224 : decode cL_isStep 224 = .ok (.invokevirtual 41, 3) := by decide +kernel
theorem dL_isStep_227 : decode cL_isStep 227 = .ok (.istore 9, 2) := by decide +kernel
theorem dL_isStep_229 : decode cL_isStep 229 = .ok (.iload 9, 2) := by decide +kernel
theorem dL_isStep_231 : decode cL_isStep 231 = .ok (.aload_n 1, 1) := by decide +kernel
theorem dL_isStep_232 : decode cL_isStep 232 = .ok (.iload 6, 2) := by decide +kernel
theorem dL_isStep_234 : decode cL_isStep 234 = .ok (.iload 8, 2) := by decide +kernel
theorem dL_isStep_236 : decode cL_isStep 236 = .ok (.invokevirtual 41, 3) := by decide +kernel
theorem dL_isStep_239 : decode cL_isStep 239 = .ok (.if_icmp .ne 38, 3) := by decide +kernel
theorem dL_isStep_242 : decode cL_isStep 242 = .ok (.iload 9, 2) := by decide +kernel
theorem dL_isStep_244 : decode cL_isStep 244 = .ok (.iload 7, 2) := by decide +kernel
theorem dL_isStep_246 : decode cL_isStep 246 = .ok (.iload 8, 2) := by decide +kernel
theorem dL_isStep_248 : decode cL_isStep 248 = .ok (.if_icmp .ne 8, 3) := by decide +kernel
theorem dL_isStep_251 : decode cL_isStep 251 = .ok (.bipush (-5), 2) := by decide +kernel
theorem dL_isStep_253 : decode cL_isStep 253 = .ok (.goto 5, 3) := by decide +kernel
theorem dL_isStep_256 : decode cL_isStep 256 = .ok (.iload 7, 2) := by decide +kernel
theorem dL_isStep_258 : decode cL_isStep 258 = .ok (.if_icmp .ne 19, 3) := by decide +kernel
theorem dL_isStep_261 : decode cL_isStep 261 = .ok (.aload_n 0, 1) := by decide +kernel
theorem dL_isStep_262 : decode cL_isStep 262 = .ok (.iload 6, 2) := by decide +kernel
theorem dL_isStep_264 : decode cL_isStep 264 = .ok (.iconst 0, 1) := by decide +kernel
theorem dL_isStep_265 : decode cL_isStep 265 = .ok (.invokevirtual 35, 3) := by decide +kernel
theorem dL_isStep_268 : decode cL_isStep 268 = .ok (.iload 8, 2) := by decide +kernel
theorem dL_isStep_270 : decode cL_isStep 270 = .ok (.if_icmp .ne 7, 3) := by decide +kernel
theorem dL_isStep_273 : decode cL_isStep 273 = .ok (.iconst 1, 1) := by decide +kernel
theorem dL_isStep_274 : decode cL_isStep 274 = .ok (.goto 4, 3) := by decide +kernel
theorem dL_isStep_277 : decode cL_isStep 277 = .ok (.iconst 0, 1) := by decide +kernel
theorem dL_isStep_278 : decode cL_isStep 278 = .ok (.ireturn, 1) := by decide +kernel
theorem dL_isStep_279 : decode cL_isStep 279 = .ok (.iconst 1, 1) := by decide +kernel
theorem dL_isStep_280 : decode cL_isStep 280 = .ok (.iload_n 3, 1) := by decide +kernel
theorem dL_isStep_281 : decode cL_isStep 281 = .ok (.iload 4, 2) := by decide +kernel
theorem dL_isStep_283 : decode cL_isStep 283 = .ok (.iconst 3, 1) := by decide +kernel
theorem dL_isStep_284 : decode cL_isStep 284 = .ok (.invokestatic 15, 3) := by decide +kernel
theorem dL_isStep_287 : decode cL_isStep 287 = .ok (.ifCond .ne 8, 3) := by decide +kernel
theorem dL_isStep_290 : decode cL_isStep 290 = .ok (.bipush 80, 2) := by decide +kernel
theorem dL_isStep_292 : decode cL_isStep 292 = .ok (.goto 5, 3) := by decide +kernel
theorem dL_isStep_295 : decode cL_isStep 295 = .ok (.bipush 6, 2) := by decide +kernel
theorem dL_isStep_297 : decode cL_isStep 297 = .ok (.invokestatic 15, 3) := by decide +kernel
theorem dL_isStep_300 : decode cL_isStep 300 = .ok (.iadd, 1) := by decide +kernel
theorem dL_isStep_301 : decode cL_isStep 301 = .ok (.istore 6, 2) := by decide +kernel
theorem dL_isStep_303 : decode cL_isStep 303 = .ok (.aload_n 0, 1) := by decide +kernel
theorem dL_isStep_304 : decode cL_isStep 304 = .ok (.bipush 8, 2) := by decide +kernel
theorem dL_isStep_306 : decode cL_isStep 306 = .ok (.invokevirtual 31, 3) := by decide +kernel
theorem dL_isStep_309 : decode cL_isStep 309 = .ok (.istore 7, 2) := by decide +kernel
theorem dL_isStep_311 : decode cL_isStep 311 = .ok (.aload_n 0, 1) := by decide +kernel
theorem dL_isStep_312 : decode cL_isStep 312 = .ok (.iload 6, 2) := by decide +kernel
theorem dL_isStep_314 : decode cL_isStep 314 = .ok (.invokevirtual 44, 3) := by decide +kernel
theorem dL_isStep_317 : decode cL_isStep 317 = .ok (.iload 7, 2) := by decide +kernel
theorem dL_isStep_319 : decode cL_isStep 319 = .ok (.iload 6, 2) := by decide +kernel
theorem dL_isStep_321 : decode cL_isStep 321 = .ok (.iadd, 1) := by decide +kernel
theorem dL_isStep_322 : decode cL_isStep 322 = .ok (.if_icmp .ne 21, 3) := by decide +kernel
theorem dL_isStep_325 : decode cL_isStep 325 = .ok (.aload_n 1, 1) := by decide +kernel
theorem dL_isStep_326 : decode cL_isStep 326 = .ok (.iload 6, 2) := by decide +kernel
theorem dL_isStep_328 : decode cL_isStep 328 = .ok (.invokevirtual 44, 3) := by decide +kernel
theorem dL_isStep_331 : decode cL_isStep 331 = .ok (.iload 7, 2) := by decide +kernel
theorem dL_isStep_333 : decode cL_isStep 333 = .ok (.iload 6, 2) := by decide +kernel
theorem dL_isStep_335 : decode cL_isStep 335 = .ok (.iadd, 1) := by decide +kernel
theorem dL_isStep_336 : decode cL_isStep 336 = .ok (.if_icmp .ne 7, 3) := by decide +kernel
theorem dL_isStep_339 : decode cL_isStep 339 = .ok (.iconst 1, 1) := by decide +kernel
theorem dL_isStep_340 : decode cL_isStep 340 = .ok (.goto 4, 3) := by decide +kernel
theorem dL_isStep_343 : decode cL_isStep 343 = .ok (.iconst 0, 1) := by decide +kernel
theorem dL_isStep_344 : decode cL_isStep 344 = .ok (.ireturn, 1) := by decide +kernel
theorem dL_isStep_345 : decode cL_isStep 345 = .ok (.iload 5, 2) := by decide +kernel
theorem dL_isStep_347 : decode cL_isStep 347 = .ok (.ifCond .ne 7, 3) := by decide +kernel
theorem dL_isStep_350 : decode cL_isStep 350 = .ok (.iconst 0, 1) := by decide +kernel
theorem dL_isStep_351 : decode cL_isStep 351 = .ok (.goto 10, 3) := by decide +kernel
theorem dL_isStep_354 : decode cL_isStep 354 = .ok (.iload 4, 2) := by decide +kernel
theorem dL_isStep_356 : decode cL_isStep 356 = .ok (.iload 5, 2) := by decide +kernel
theorem dL_isStep_358 : decode cL_isStep 358 = .ok (.invokestatic 15, 3) := by decide +kernel
theorem dL_isStep_361 : decode cL_isStep 361 = .ok (.istore 6, 2) := by decide +kernel
theorem dL_isStep_363 : decode cL_isStep 363 = .ok (.iload_n 3, 1) := by decide +kernel
theorem dL_isStep_364 : decode cL_isStep 364 = .ok (.bipush 27, 2) := by decide +kernel
theorem dL_isStep_366 : decode cL_isStep 366 = .ok (.invokestatic 15, 3) := by decide +kernel
theorem dL_isStep_369 : decode cL_isStep 369 = .ok (.istore 7, 2) := by decide +kernel
theorem dL_isStep_371 : decode cL_isStep 371 = .ok (.aload_n 0, 1) := by decide +kernel
theorem dL_isStep_372 : decode cL_isStep 372 = .ok (.iload 6, 2) := by decide +kernel
theorem dL_isStep_374 : decode cL_isStep 374 = .ok (.iconst 0, 1) := by decide +kernel
theorem dL_isStep_375 : decode cL_isStep 375 = .ok (.invokevirtual 47, 3) := by decide +kernel
theorem dL_isStep_378 : decode cL_isStep 378 = .ok (.istore 8, 2) := by decide +kernel
theorem dL_isStep_380 : decode cL_isStep 380 = .ok (.aload_n 0, 1) := by decide +kernel
theorem dL_isStep_381 : decode cL_isStep 381 = .ok (.iload 6, 2) := by decide +kernel
theorem dL_isStep_383 : decode cL_isStep 383 = .ok (.iconst 4, 1) := by decide +kernel
theorem dL_isStep_384 : decode cL_isStep 384 = .ok (.invokevirtual 47, 3) := by decide +kernel
theorem dL_isStep_387 : decode cL_isStep 387 = .ok (.istore 9, 2) := by decide +kernel
theorem dL_isStep_389 : decode cL_isStep 389 = .ok (.aload_n 0, 1) := by decide +kernel
theorem dL_isStep_390 : decode cL_isStep 390 = .ok (.iload 6, 2) := by decide +kernel
theorem dL_isStep_392 : decode cL_isStep 392 = .ok (.iconst 1, 1) := by decide +kernel
theorem dL_isStep_393 : decode cL_isStep 393 = .ok (.invokevirtual 47, 3) := by decide +kernel
theorem dL_isStep_396 : decode cL_isStep 396 = .ok (.ifCond .le 7, 3) := by decide +kernel
theorem dL_isStep_399 : decode cL_isStep 399 = .ok (.iconst 1, 1) := by decide +kernel
theorem dL_isStep_400 : decode cL_isStep 400 = .ok (.goto 4, 3) := by decide +kernel
theorem dL_isStep_403 : decode cL_isStep 403 = .ok (.iconst 0, 1) := by decide +kernel
theorem dL_isStep_404 : decode cL_isStep 404 = .ok (.istore 10, 2) := by decide +kernel
theorem dL_isStep_406 : decode cL_isStep 406 = .ok (.aload_n 0, 1) := by decide +kernel
theorem dL_isStep_407 : decode cL_isStep 407 = .ok (.iload 6, 2) := by decide +kernel
theorem dL_isStep_409 : decode cL_isStep 409 = .ok (.iload 7, 2) := by decide +kernel
theorem dL_isStep_411 : decode cL_isStep 411 = .ok (.invokevirtual 28, 3) := by decide +kernel
theorem dL_isStep_414 : decode cL_isStep 414 = .ok (.istore 11, 2) := by decide +kernel
theorem dL_isStep_416 : decode cL_isStep 416 = .ok (.iload 11, 2) := by decide +kernel
theorem dL_isStep_418 : decode cL_isStep 418 = .ok (.aload_n 1, 1) := by decide +kernel
theorem dL_isStep_419 : decode cL_isStep 419 = .ok (.iload 6, 2) := by decide +kernel
theorem dL_isStep_421 : decode cL_isStep 421 = .ok (.iload 7, 2) := by decide +kernel
theorem dL_isStep_423 : decode cL_isStep 423 = .ok (.invokevirtual 28, 3) := by decide +kernel
theorem dL_isStep_426 : decode cL_isStep 426 = .ok (.if_icmp .ne 87, 3) := by decide +kernel
theorem dL_isStep_429 : decode cL_isStep 429 = .ok (.iload 5, 2) := by decide +kernel
theorem dL_isStep_431 : decode cL_isStep 431 = .ok (.ifCond .ne 12, 3) := by decide +kernel
theorem dL_isStep_434 : decode cL_isStep 434 = .ok (.iload 11, 2) := by decide +kernel
theorem dL_isStep_436 : decode cL_isStep 436 = .ok (.iconst (-1), 1) := by decide +kernel
theorem dL_isStep_437 : decode cL_isStep 437 = .ok (.if_icmp .ne 76, 3) := by decide +kernel
theorem dL_isStep_440 : decode cL_isStep 440 = .ok (.goto 69, 3) := by decide +kernel
theorem dL_isStep_443 : decode cL_isStep 443 = .ok (.iload 10, 2) := by decide +kernel
theorem dL_isStep_445 : decode cL_isStep 445 = .ok (.ifCond .eq 13, 3) := by decide +kernel
theorem dL_isStep_448 : decode cL_isStep 448 = .ok (.iload 11, 2) := by decide +kernel
theorem dL_isStep_450 : decode cL_isStep 450 = .ok (.bipush (-4), 2) := by decide +kernel
theorem dL_isStep_452 : decode cL_isStep 452 = .ok (.if_icmp .ne 61, 3) := by decide +kernel
theorem dL_isStep_455 : decode cL_isStep 455 = .ok (.goto 54, 3) := by decide +kernel
theorem dL_isStep_458 : decode cL_isStep 458 = .ok (.iload 11, 2) := by decide +kernel
theorem dL_isStep_460 : decode cL_isStep 460 = .ok (.ifCond .ge 20, 3) := by decide +kernel
theorem dL_isStep_463 : decode cL_isStep 463 = .ok (.iload 11, 2) := by decide +kernel
theorem dL_isStep_465 : decode cL_isStep 465 = .ok (.bipush (-4), 2) := by decide +kernel
theorem dL_isStep_467 : decode cL_isStep 467 = .ok (.if_icmp .eq 42, 3) := by decide +kernel
theorem dL_isStep_470 : decode cL_isStep 470 = .ok (.iload 9, 2) := by decide +kernel
theorem dL_isStep_472 : decode cL_isStep 472 = .ok (.iload 7, 2) := by decide +kernel
theorem dL_isStep_474 : decode cL_isStep 474 = .ok (.if_icmp .ne 39, 3) := by decide +kernel
theorem dL_isStep_477 : decode cL_isStep 477 = .ok (.goto 32, 3) := by decide +kernel
theorem dL_isStep_480 : decode cL_isStep 480 = .ok (.iload 11, 2) := by decide +kernel
theorem dL_isStep_482 : decode cL_isStep 482 = .ok (.iload 9, 2) := by decide +kernel
theorem dL_isStep_484 : decode cL_isStep 484 = .ok (.ifCond .ne 8, 3) := by decide +kernel
theorem dL_isStep_487 : decode cL_isStep 487 = .ok (.iload 8, 2) := by decide +kernel
theorem dL_isStep_489 : decode cL_isStep 489 = .ok (.goto 5, 3) := by decide +kernel
theorem dL_isStep_492 : decode cL_isStep 492 = .ok (.iload 9, 2) := by decide +kernel
theorem dL_isStep_494 : decode cL_isStep 494 = .ok (.if_icmp .ne 19, 3) := by decide +kernel
theorem dL_isStep_497 : decode cL_isStep 497 = .ok (.aload_n 0, 1) := by decide +kernel
theorem dL_isStep_498 : decode cL_isStep 498 = .ok (.iload 6, 2) := by decide +kernel
theorem dL_isStep_500 : decode cL_isStep 500 = .ok (.iconst 4, 1) := by decide +kernel
theorem dL_isStep_501 : decode cL_isStep 501 = .ok (.invokevirtual 47, 3) := by decide +kernel
theorem dL_isStep_504 : decode cL_isStep 504 = .ok (.iload 7, 2) := by decide +kernel
theorem dL_isStep_506 : decode cL_isStep 506 = .ok (.if_icmp .ne 7, 3) := by decide +kernel
theorem dL_isStep_509 : decode cL_isStep 509 = .ok (.iconst 1, 1) := by decide +kernel
theorem dL_isStep_510 : decode cL_isStep 510 = .ok (.goto 4, 3) := by decide +kernel
theorem dL_isStep_513 : decode cL_isStep 513 = .ok (.iconst 0, 1) := by decide +kernel
theorem dL_isStep_514 : decode cL_isStep 514 = .ok (.ireturn, 1) := by decide +kernel
theorem dL_isStep_515 : decode cL_isStep 515 = .ok (.iload 5, 2) := by decide +kernel
theorem dL_isStep_517 : decode cL_isStep 517 = .ok (.ifCond .ne 7, 3) := by decide +kernel
theorem dL_isStep_520 : decode cL_isStep 520 = .ok (.iconst 0, 1) := by decide +kernel
theorem dL_isStep_521 : decode cL_isStep 521 = .ok (.goto 10, 3) := by decide +kernel
theorem dL_isStep_524 : decode cL_isStep 524 = .ok (.iload 4, 2) := by decide +kernel
theorem dL_isStep_526 : decode cL_isStep 526 = .ok (.iload 5, 2) := by decide +kernel
theorem dL_isStep_528 : decode cL_isStep 528 = .ok (.invokestatic 15, 3) := by decide +kernel
theorem dL_isStep_531 : decode cL_isStep 531 = .ok (.istore 6, 2) := by decide +kernel
theorem dL_isStep_533 : decode cL_isStep 533 = .ok (.aload_n 0, 1) := by decide +kernel
theorem dL_isStep_534 : decode cL_isStep 534 = .ok (.iconst 5, 1) := by decide +kernel
theorem dL_isStep_535 : decode cL_isStep 535 = .ok (.invokevirtual 31, 3) := by decide +kernel
theorem dL_isStep_538 : decode cL_isStep 538 = .ok (.istore 7, 2) := by decide +kernel
theorem dL_isStep_540 : decode cL_isStep 540 = .ok (.aload_n 0, 1) := by decide +kernel
theorem dL_isStep_541 : decode cL_isStep 541 = .ok (.iload 6, 2) := by decide +kernel
theorem dL_isStep_543 : decode cL_isStep 543 = .ok (.invokevirtual 50, 3) := by decide +kernel
theorem dL_isStep_546 : decode cL_isStep 546 = .ok (.istore 8, 2) := by decide +kernel
theorem dL_isStep_548 : decode cL_isStep 548 = .ok (.iload 8, 2) := by decide +kernel
theorem dL_isStep_550 : decode cL_isStep 550 = .ok (.aload_n 1, 1) := by decide +kernel
theorem dL_isStep_551 : decode cL_isStep 551 = .ok (.iload 6, 2) := by decide +kernel
theorem dL_isStep_553 : decode cL_isStep 553 = .ok (.invokevirtual 50, 3) := by decide +kernel
theorem dL_isStep_556 : decode cL_isStep 556 = .ok (.if_icmp .ne 59, 3) := by decide +kernel
theorem dL_isStep_559 : decode cL_isStep 559 = .ok (.iload 8, 2) := by decide +kernel
theorem dL_isStep_561 : decode cL_isStep 561 = .ok (.ifCond .lt 50, 3) := by decide +kernel
theorem dL_isStep_564 : decode cL_isStep 564 = .ok (.iload 8, 2) := by decide +kernel
theorem dL_isStep_566 : decode cL_isStep 566 = .ok (.iload 7, 2) := by decide +kernel
theorem dL_isStep_568 : decode cL_isStep 568 = .ok (.iconst 1, 1) := by decide +kernel
theorem dL_isStep_569 : decode cL_isStep 569 = .ok (.isub, 1) := by decide +kernel
theorem dL_isStep_570 : decode cL_isStep 570 = .ok (.if_icmp .ne 45, 3) := by decide +kernel
theorem dL_isStep_573 : decode cL_isStep 573 = .ok (.aload_n 0, 1) := by decide +kernel
theorem dL_isStep_574 : decode cL_isStep 574 = .ok (.iload 6, 2) := by decide +kernel
theorem dL_isStep_576 : decode cL_isStep 576 = .ok (.iconst 1, 1) := by decide +kernel
theorem dL_isStep_577 : decode cL_isStep 577 = .ok (.invokevirtual 47, 3) := by decide +kernel
theorem dL_isStep_580 : decode cL_isStep 580 = .ok (.aload_n 0, 1) := by decide +kernel
theorem dL_isStep_581 : decode cL_isStep 581 = .ok (.iload 6, 2) := by decide +kernel
theorem dL_isStep_583 : decode cL_isStep 583 = .ok (.iconst 0, 1) := by decide +kernel
theorem dL_isStep_584 : decode cL_isStep 584 = .ok (.invokevirtual 47, 3) := by decide +kernel
theorem dL_isStep_587 : decode cL_isStep 587 = .ok (.if_icmp .ne 28, 3) := by decide +kernel
theorem dL_isStep_590 : decode cL_isStep 590 = .ok (.aload_n 0, 1) := by decide +kernel
theorem dL_isStep_591 : decode cL_isStep 591 = .ok (.iload 6, 2) := by decide +kernel
theorem dL_isStep_593 : decode cL_isStep 593 = .ok (.iconst 2, 1) := by decide +kernel
theorem dL_isStep_594 : decode cL_isStep 594 = .ok (.invokevirtual 47, 3) := by decide +kernel
theorem dL_isStep_597 : decode cL_isStep 597 = .ok (.ifCond .ne 18, 3) := by decide +kernel
theorem dL_isStep_600 : decode cL_isStep 600 = .ok (.aload_n 0, 1) := by decide +kernel
theorem dL_isStep_601 : decode cL_isStep 601 = .ok (.iload 6, 2) := by decide +kernel
theorem dL_isStep_603 : decode cL_isStep 603 = .ok (.iconst 3, 1) := by decide +kernel
theorem dL_isStep_604 : decode cL_isStep 604 = .ok (.invokevirtual 47, 3) := by decide +kernel
theorem dL_isStep_607 : decode cL_isStep 607 = .ok (.iconst 1, 1) := by decide +kernel
theorem dL_isStep_608 : decode cL_isStep 608 = .ok (.if_icmp .ne 7, 3) := by decide +kernel
theorem dL_isStep_611 : decode cL_isStep 611 = .ok (.iconst 1, 1) := by decide +kernel
theorem dL_isStep_612 : decode cL_isStep 612 = .ok (.goto 4, 3) := by decide +kernel
theorem dL_isStep_615 : decode cL_isStep 615 = .ok (.iconst 0, 1) := by decide +kernel
theorem dL_isStep_616 : decode cL_isStep 616 = .ok (.ireturn, 1) := by decide +kernel
theorem dL_isStep_617 : decode cL_isStep 617 = .ok (.aload_n 0, 1) := by decide +kernel
theorem dL_isStep_618 : decode cL_isStep 618 = .ok (.aload_n 1, 1) := by decide +kernel
theorem dL_isStep_619 : decode cL_isStep 619 = .ok (.iload_n 3, 1) := by decide +kernel
theorem dL_isStep_620 : decode cL_isStep 620 = .ok (.iload 4, 2) := by decide +kernel
theorem dL_isStep_622 : decode cL_isStep 622 = .ok (.invokestatic 53, 3) := by decide +kernel
theorem dL_isStep_625 : decode cL_isStep 625 = .ok (.ireturn, 1) := by decide +kernel
theorem dL_isStep_626 : decode cL_isStep 626 = .ok (.iload_n 3, 1) := by decide +kernel
theorem dL_isStep_627 : decode cL_isStep 627 = .ok (.iconst 2, 1) := by decide +kernel
theorem dL_isStep_628 : decode cL_isStep 628 = .ok (.invokestatic 15, 3) := by decide +kernel
theorem dL_isStep_631 : decode cL_isStep 631 = .ok (.ifCond .ne 22, 3) := by decide +kernel
theorem dL_isStep_634 : decode cL_isStep 634 = .ok (.aload_n 0, 1) := by decide +kernel
theorem dL_isStep_635 : decode cL_isStep 635 = .ok (.invokevirtual 57, 3) := by decide +kernel
theorem dL_isStep_638 : decode cL_isStep 638 = .ok (.aload_n 1, 1) := by decide +kernel
theorem dL_isStep_639 : decode cL_isStep 639 = .ok (.invokevirtual 57, 3) := by decide +kernel
theorem dL_isStep_642 : decode cL_isStep 642 = .ok (.if_icmp .ne 7, 3) := by decide +kernel
theorem dL_isStep_645 : decode cL_isStep 645 = .ok (.iconst 1, 1) := by decide +kernel
theorem dL_isStep_646 : decode cL_isStep 646 = .ok (.goto 23, 3) := by decide +kernel
theorem dL_isStep_649 : decode cL_isStep 649 = .ok (.iconst 0, 1) := by decide +kernel
theorem dL_isStep_650 : decode cL_isStep 650 = .ok (.goto 19, 3) := by decide +kernel
theorem dL_isStep_653 : decode cL_isStep 653 = .ok (.aload_n 0, 1) := by decide +kernel
theorem dL_isStep_654 : decode cL_isStep 654 = .ok (.invokevirtual 60, 3) := by decide +kernel
theorem dL_isStep_657 : decode cL_isStep 657 = .ok (.aload_n 1, 1) := by decide +kernel
theorem dL_isStep_658 : decode cL_isStep 658 = .ok (.invokevirtual 60, 3) := by decide +kernel
theorem dL_isStep_661 : decode cL_isStep 661 = .ok (.if_icmp .ne 7, 3) := by decide +kernel
theorem dL_isStep_664 : decode cL_isStep 664 = .ok (.iconst 1, 1) := by decide +kernel
theorem dL_isStep_665 : decode cL_isStep 665 = .ok (.goto 4, 3) := by decide +kernel
theorem dL_isStep_668 : decode cL_isStep 668 = .ok (.iconst 0, 1) := by decide +kernel
theorem dL_isStep_669 : decode cL_isStep 669 = .ok (.ireturn, 1) := by decide +kernel
theorem dL_isStep_670 : decode cL_isStep 670 = .ok (.iconst 1, 1) := by decide +kernel
theorem dL_isStep_671 : decode cL_isStep 671 = .ok (.iload_n 3, 1) := by decide +kernel
theorem dL_isStep_672 : decode cL_isStep 672 = .ok (.iload 4, 2) := by decide +kernel
theorem dL_isStep_674 : decode cL_isStep 674 = .ok (.bipush 6, 2) := by decide +kernel
theorem dL_isStep_676 : decode cL_isStep 676 = .ok (.invokestatic 15, 3) := by decide +kernel
theorem dL_isStep_679 : decode cL_isStep 679 = .ok (.ifCond .ne 8, 3) := by decide +kernel
theorem dL_isStep_682 : decode cL_isStep 682 = .ok (.bipush 99, 2) := by decide +kernel
theorem dL_isStep_684 : decode cL_isStep 684 = .ok (.goto 5, 3) := by decide +kernel
theorem dL_isStep_687 : decode cL_isStep 687 = .ok (.bipush 9, 2) := by decide +kernel
theorem dL_isStep_689 : decode cL_isStep 689 = .ok (.invokestatic 15, 3) := by decide +kernel
theorem dL_isStep_692 : decode cL_isStep 692 = .ok (.iadd, 1) := by decide +kernel
theorem dL_isStep_693 : decode cL_isStep 693 = .ok (.istore 6, 2) := by decide +kernel
theorem dL_isStep_695 : decode cL_isStep 695 = .ok (.aload_n 0, 1) := by decide +kernel
theorem dL_isStep_696 : decode cL_isStep 696 = .ok (.iconst 0, 1) := by decide +kernel
theorem dL_isStep_697 : decode cL_isStep 697 = .ok (.invokevirtual 31, 3) := by decide +kernel
theorem dL_isStep_700 : decode cL_isStep 700 = .ok (.istore 7, 2) := by decide +kernel
theorem dL_isStep_702 : decode cL_isStep 702 = .ok (.aload_n 0, 1) := by decide +kernel
theorem dL_isStep_703 : decode cL_isStep 703 = .ok (.bipush 7, 2) := by decide +kernel
theorem dL_isStep_705 : decode cL_isStep 705 = .ok (.invokevirtual 31, 3) := by decide +kernel
theorem dL_isStep_708 : decode cL_isStep 708 = .ok (.istore 8, 2) := by decide +kernel
theorem dL_isStep_710 : decode cL_isStep 710 = .ok (.iconst 0, 1) := by decide +kernel
theorem dL_isStep_711 : decode cL_isStep 711 = .ok (.istore 9, 2) := by decide +kernel
theorem dL_isStep_713 : decode cL_isStep 713 = .ok (.iconst 0, 1) := by decide +kernel
theorem dL_isStep_714 : decode cL_isStep 714 = .ok (.istore 10, 2) := by decide +kernel
theorem dL_isStep_716 : decode cL_isStep 716 = .ok (.iload 10, 2) := by decide +kernel
theorem dL_isStep_718 : decode cL_isStep 718 = .ok (.iload 6, 2) := by decide +kernel
theorem dL_isStep_720 : decode cL_isStep 720 = .ok (.if_icmp .ge 19, 3) := by decide +kernel
theorem dL_isStep_723 : decode cL_isStep 723 = .ok (.iload 9, 2) := by decide +kernel
theorem dL_isStep_725 : decode cL_isStep 725 = .ok (.aload_n 1, 1) := by decide +kernel
theorem dL_isStep_726 : decode cL_isStep 726 = .ok (.iconst 1, 1) := by decide +kernel
theorem dL_isStep_727 : decode cL_isStep 727 = .ok (.invokevirtual 63, 3) := by decide +kernel
theorem dL_isStep_730 : decode cL_isStep 730 = .ok (.iadd, 1) := by decide +kernel
theorem dL_isStep_731 : decode cL_isStep 731 = .ok (.istore 9, 2) := by decide +kernel
theorem dL_isStep_733 : decode cL_isStep 733 = .ok (.iinc 10 1, 3) := by decide +kernel
theorem dL_isStep_736 : decode cL_isStep 736 = .ok (.goto (-20), 3) := by decide +kernel
theorem dL_isStep_739 : decode cL_isStep 739 = .ok (.aload_n 0, 1) := by decide +kernel
theorem dL_isStep_740 : decode cL_isStep 740 = .ok (.iload 6, 2) := by decide +kernel
theorem dL_isStep_742 : decode cL_isStep 742 = .ok (.invokevirtual 63, 3) := by decide +kernel
theorem dL_isStep_745 : decode cL_isStep 745 = .ok (.iload 9, 2) := by decide +kernel
theorem dL_isStep_747 : decode cL_isStep 747 = .ok (.if_icmp .ne 43, 3) := by decide +kernel
theorem dL_isStep_750 : decode cL_isStep 750 = .ok (.aload_n 0, 1) := by decide +kernel
theorem dL_isStep_751 : decode cL_isStep 751 = .ok (.iconst 0, 1) := by decide +kernel
theorem dL_isStep_752 : decode cL_isStep 752 = .ok (.invokevirtual 31, 3) := by decide +kernel
theorem dL_isStep_755 : decode cL_isStep 755 = .ok (.iload 7, 2) := by decide +kernel
theorem dL_isStep_757 : decode cL_isStep 757 = .ok (.iload 6, 2) := by decide +kernel
theorem dL_isStep_759 : decode cL_isStep 759 = .ok (.iadd, 1) := by decide +kernel
theorem dL_isStep_760 : decode cL_isStep 760 = .ok (.if_icmp .ne 30, 3) := by decide +kernel
theorem dL_isStep_763 : decode cL_isStep 763 = .ok (.aload_n 0, 1) := by decide +kernel
theorem dL_isStep_764 : decode cL_isStep 764 = .ok (.bipush 7, 2) := by decide +kernel
theorem dL_isStep_766 : decode cL_isStep 766 = .ok (.invokevirtual 31, 3) := by decide +kernel
theorem dL_isStep_769 : decode cL_isStep 769 = .ok (.iload 8, 2) := by decide +kernel
theorem dL_isStep_771 : decode cL_isStep 771 = .ok (.iload 9, 2) := by decide +kernel
theorem dL_isStep_773 : decode cL_isStep 773 = .ok (.iadd, 1) := by decide +kernel
theorem dL_isStep_774 : decode cL_isStep 774 = .ok (.if_icmp .ne 16, 3) := by decide +kernel
theorem dL_isStep_777 : decode cL_isStep 777 = .ok (.iload 9, 2) := by decide +kernel
theorem dL_isStep_779 : decode cL_isStep 779 = .ok (.iconst 2, 1) := by decide +kernel
theorem dL_isStep_780 : decode cL_isStep 780 = .ok (.iload 6, 2) := by decide +kernel
theorem dL_isStep_782 : decode cL_isStep 782 = .ok (.imul, 1) := by decide +kernel
theorem dL_isStep_783 : decode cL_isStep 783 = .ok (.if_icmp .gt 7, 3) := by decide +kernel
theorem dL_isStep_786 : decode cL_isStep 786 = .ok (.iconst 1, 1) := by decide +kernel
theorem dL_isStep_787 : decode cL_isStep 787 = .ok (.goto 4, 3) := by decide +kernel
theorem dL_isStep_790 : decode cL_isStep 790 = .ok (.iconst 0, 1) := by decide +kernel
theorem dL_isStep_791 : decode cL_isStep 791 = .ok (.ireturn, 1) := by decide +kernel
theorem dL_areAlike_0 : decode cL_areAlike 0 = .ok (.aload_n 0, 1) := by decide +kernel
theorem dL_areAlike_1 : decode cL_areAlike 1 = .ok (.invokevirtual 66, 3) := by decide +kernel
theorem dL_areAlike_4 : decode cL_areAlike 4 = .ok (.aload_n 1, 1) := by decide +kernel
theorem dL_areAlike_5 : decode cL_areAlike 5 = .ok (.invokevirtual 66, 3) := by decide +kernel
theorem dL_areAlike_8 : decode cL_areAlike 8 = .ok (.dcmp .l, 1) := by decide +kernel
theorem dL_areAlike_9 : decode cL_areAlike 9 = .ok (.ifCond .ne 81, 3) := by decide +kernel
theorem dL_areAlike_12 : decode cL_areAlike 12 = .ok (.aload_n 0, 1) := by decide +kernel
theorem dL_areAlike_13 : decode cL_areAlike 13 = .ok (.invokevirtual 70, 3) := by decide +kernel
theorem dL_areAlike_16 : decode cL_areAlike 16 = .ok (.aload_n 1, 1) := by decide +kernel
theorem dL_areAlike_17 : decode cL_areAlike 17 = .ok (.invokevirtual 70, 3) := by decide +kernel
theorem dL_areAlike_20 : decode cL_areAlike 20 = .ok (.if_icmp .ne 70, 3) := by decide +kernel
theorem dL_areAlike_23 : decode cL_areAlike 23 = .ok (.aload_n 0, 1) := by decide +kernel
theorem dL_areAlike_24 : decode cL_areAlike 24 = .ok (.invokevirtual 73, 3) := by decide +kernel
theorem dL_areAlike_27 : decode cL_areAlike 27 = .ok (.aload_n 1, 1) := by decide +kernel
theorem dL_areAlike_28 : decode cL_areAlike 28 = .ok (.invokevirtual 73, 3) := by decide +kernel
theorem dL_areAlike_31 : decode cL_areAlike 31 = .ok (.if_icmp .ne 59, 3) := by decide +kernel
theorem dL_areAlike_34 : decode cL_areAlike 34 = .ok (.aload_n 0, 1) := by decide +kernel
theorem dL_areAlike_35 : decode cL_areAlike 35 = .ok (.iconst 0, 1) := by decide +kernel
theorem dL_areAlike_36 : decode cL_areAlike 36 = .ok (.invokevirtual 76, 3) := by decide +kernel
theorem dL_areAlike_39 : decode cL_areAlike 39 = .ok (.aload_n 1, 1) := by decide +kernel
theorem dL_areAlike_40 : decode cL_areAlike 40 = .ok (.iconst 0, 1) := by decide +kernel
theorem dL_areAlike_41 : decode cL_areAlike 41 = .ok (.invokevirtual 76, 3) := by decide +kernel
theorem dL_areAlike_44 : decode cL_areAlike 44 = .ok (.if_icmp .ne 46, 3) := by decide +kernel
theorem dL_areAlike_47 : decode cL_areAlike 47 = .ok (.aload_n 0, 1) := by decide +kernel
theorem dL_areAlike_48 : decode cL_areAlike 48 = .ok (.iconst 1, 1) := by decide +kernel
theorem dL_areAlike_49 : decode cL_areAlike 49 = .ok (.invokevirtual 76, 3) := by decide +kernel
theorem dL_areAlike_52 : decode cL_areAlike 52 = .ok (.aload_n 1, 1) := by decide +kernel
theorem dL_areAlike_53 : decode cL_areAlike 53 = .ok (.iconst 1, 1) := by decide +kernel
theorem dL_areAlike_54 : decode cL_areAlike 54 = .ok (.invokevirtual 76, 3) := by decide +kernel
theorem dL_areAlike_57 : decode cL_areAlike 57 = .ok (.if_icmp .ne 33, 3) := by decide +kernel
theorem dL_areAlike_60 : decode cL_areAlike 60 = .ok (.aload_n 0, 1) := by decide +kernel
theorem dL_areAlike_61 : decode cL_areAlike 61 = .ok (.iconst 0, 1) := by decide +kernel
theorem dL_areAlike_62 : decode cL_areAlike 62 = .ok (.invokevirtual 79, 3) := by decide +kernel
theorem dL_areAlike_65 : decode cL_areAlike 65 = .ok (.aload_n 1, 1) := by decide +kernel
theorem dL_areAlike_66 : decode cL_areAlike 66 = .ok (.iconst 0, 1) := by decide +kernel
theorem dL_areAlike_67 : decode cL_areAlike 67 = .ok (.invokevirtual 79, 3) := by decide +kernel
theorem dL_areAlike_70 : decode cL_areAlike 70 = .ok (.if_icmp .ne 20, 3) := by decide +kernel
theorem dL_areAlike_73 : decode cL_areAlike 73 = .ok (.aload_n 0, 1) := by decide +kernel
theorem dL_areAlike_74 : decode cL_areAlike 74 = .ok (.iconst 1, 1) := by decide +kernel
theorem dL_areAlike_75 : decode cL_areAlike 75 = .ok (.invokevirtual 79, 3) := by decide +kernel
theorem dL_areAlike_78 : decode cL_areAlike 78 = .ok (.aload_n 1, 1) := by decide +kernel
theorem dL_areAlike_79 : decode cL_areAlike 79 = .ok (.iconst 1, 1) := by decide +kernel
theorem dL_areAlike_80 : decode cL_areAlike 80 = .ok (.invokevirtual 79, 3) := by decide +kernel
theorem dL_areAlike_83 : decode cL_areAlike 83 = .ok (.if_icmp .ne 7, 3) := by decide +kernel
theorem dL_areAlike_86 : decode cL_areAlike 86 = .ok (.iconst 1, 1) := by decide +kernel
theorem dL_areAlike_87 : decode cL_areAlike 87 = .ok (.goto 4, 3) := by decide +kernel
theorem dL_areAlike_90 : decode cL_areAlike 90 = .ok (.iconst 0, 1) := by decide +kernel
theorem dL_areAlike_91 : decode cL_areAlike 91 = .ok (.istore_n 2, 1) := by decide +kernel
theorem dL_areAlike_92 : decode cL_areAlike 92 = .ok (.iconst 0, 1) := by decide +kernel
theorem dL_areAlike_93 : decode cL_areAlike 93 = .ok (.istore_n 3, 1) := by decide +kernel
theorem dL_areAlike_94 : decode cL_areAlike 94 = .ok (.iload_n 3, 1) := by decide +kernel
theorem dL_areAlike_95 : decode cL_areAlike 95 = .ok (.bipush 12, 2) := by decide +kernel
theorem dL_areAlike_97 : decode cL_areAlike 97 = .ok (.if_icmp .ge 32, 3) := by decide +kernel
theorem dL_areAlike_100 : decode cL_areAlike 100 = .ok (.iload_n 2, 1) := by decide +kernel
theorem dL_areAlike_101 : decode cL_areAlike 101 = .ok (.ifCond .eq 20, 3) := by decide +kernel
theorem dL_areAlike_104 : decode cL_areAlike 104 = .ok (.aload_n 0, 1) := by decide +kernel
theorem dL_areAlike_105 : decode cL_areAlike 105 = .ok (.iload_n 3, 1) := by decide +kernel
theorem dL_areAlike_106 : decode cL_areAlike 106 = .ok (.invokevirtual 31, 3) := by decide +kernel
theorem dL_areAlike_109 : decode cL_areAlike 109 = .ok (.aload_n 1, 1) := by decide +kernel
theorem dL_areAlike_110 : decode cL_areAlike 110 = .ok (.iload_n 3, 1) := by decide +kernel
theorem dL_areAlike_111 : decode cL_areAlike 111 = .ok (.invokevirtual 31, 3) := by decide +kernel
theorem dL_areAlike_114 : decode cL_areAlike 114 = .ok (.if_icmp .ne 7, 3) := by decide +kernel
theorem dL_areAlike_117 : decode cL_areAlike 117 = .ok (.iconst 1, 1) := by decide +kernel
theorem dL_areAlike_118 : decode cL_areAlike 118 = .ok (.goto 4, 3) := by decide +kernel
theorem dL_areAlike_121 : decode cL_areAlike 121 = .ok (.iconst 0, 1) := by decide +kernel
theorem dL_areAlike_122 : decode cL_areAlike 122 = .ok (.istore_n 2, 1) := by decide +kernel
theorem dL_areAlike_123 : decode cL_areAlike 123 = .ok (.iinc 3 1, 3) := by decide +kernel
theorem dL_areAlike_126 : decode cL_areAlike 126 = .ok (.goto (-32), 3) := by decide +kernel
theorem dL_areAlike_129 : decode cL_areAlike 129 = .ok (.iconst 0, 1) := by decide +kernel
theorem dL_areAlike_130 : decode cL_areAlike 130 = .ok (.istore_n 3, 1) := by decide +kernel
theorem dL_areAlike_131 : decode cL_areAlike 131 = .ok (.iload_n 3, 1) := by decide +kernel
theorem dL_areAlike_132 : decode cL_areAlike 132 = .ok (.bipush 14, 2) := by decide +kernel
theorem dL_areAlike_134 : decode cL_areAlike 134 = .ok (.if_icmp .ge 60, 3) := by decide +kernel
theorem dL_areAlike_137 : decode cL_areAlike 137 = .ok (.iload_n 2, 1) := by decide +kernel
theorem dL_areAlike_138 : decode cL_areAlike 138 = .ok (.ifCond .eq 48, 3) := by decide +kernel
theorem dL_areAlike_141 : decode cL_areAlike 141 = .ok (.aload_n 0, 1) := by decide +kernel
theorem dL_areAlike_142 : decode cL_areAlike 142 = .ok (.iload_n 3, 1) := by decide +kernel
theorem dL_areAlike_143 : decode cL_areAlike 143 = .ok (.iconst 2, 1) := by decide +kernel
theorem dL_areAlike_144 : decode cL_areAlike 144 = .ok (.irem, 1) := by decide +kernel
theorem dL_areAlike_145 : decode cL_areAlike 145 = .ok (.iload_n 3, 1) := by decide +kernel
theorem dL_areAlike_146 : decode cL_areAlike 146 = .ok (.iconst 2, 1) := by decide +kernel
theorem dL_areAlike_147 : decode cL_areAlike 147 = .ok (.idiv, 1) := by decide +kernel
theorem dL_areAlike_148 : decode cL_areAlike 148 = .ok (.invokevirtual 35, 3) := by decide +kernel
theorem dL_areAlike_151 : decode cL_areAlike 151 = .ok (.aload_n 1, 1) := by decide +kernel
theorem dL_areAlike_152 : decode cL_areAlike 152 = .ok (.iload_n 3, 1) := by decide +kernel
theorem dL_areAlike_153 : decode cL_areAlike 153 = .ok (.iconst 2, 1) := by decide +kernel
theorem dL_areAlike_154 : decode cL_areAlike 154 = .ok (.irem, 1) := by decide +kernel
theorem dL_areAlike_155 : decode cL_areAlike 155 = .ok (.iload_n 3, 1) := by decide +kernel
theorem dL_areAlike_156 : decode cL_areAlike 156 = .ok (.iconst 2, 1) := by decide +kernel
theorem dL_areAlike_157 : decode cL_areAlike 157 = .ok (.idiv, 1) := by decide +kernel
theorem dL_areAlike_158 : decode cL_areAlike 158 = .ok (.invokevirtual 35, 3) := by decide +kernel
theorem dL_areAlike_161 : decode cL_areAlike 161 = .ok (.if_icmp .ne 25, 3) := by decide +kernel
theorem dL_areAlike_164 : decode cL_areAlike 164 = .ok (.aload_n 0, 1) := by decide +kernel
theorem dL_areAlike_165 : decode cL_areAlike 165 = .ok (.iload_n 3, 1) := by decide +kernel
theorem dL_areAlike_166 : decode cL_areAlike 166 = .ok (.iconst 5, 1) := by decide +kernel
theorem dL_areAlike_167 : decode cL_areAlike 167 = .ok (.irem, 1) := by decide +kernel
theorem dL_areAlike_168 : decode cL_areAlike 168 = .ok (.invokevirtual 82, 3) := by decide +kernel
theorem dL_areAlike_171 : decode cL_areAlike 171 = .ok (.aload_n 1, 1) := by decide +kernel
theorem dL_areAlike_172 : decode cL_areAlike 172 = .ok (.iload_n 3, 1) := by decide +kernel
theorem dL_areAlike_173 : decode cL_areAlike 173 = .ok (.iconst 5, 1) := by decide +kernel
theorem dL_areAlike_174 : decode cL_areAlike 174 = .ok (.irem, 1) := by decide +kernel
theorem dL_areAlike_175 : decode cL_areAlike 175 = .ok (.invokevirtual 82, 3) := by decide +kernel
theorem dL_areAlike_178 : decode cL_areAlike 178 = .ok (.dcmp .l, 1) := by decide +kernel
theorem dL_areAlike_179 : decode cL_areAlike 179 = .ok (.ifCond .ne 7, 3) := by decide +kernel
theorem dL_areAlike_182 : decode cL_areAlike 182 = .ok (.iconst 1, 1) := by decide +kernel
theorem dL_areAlike_183 : decode cL_areAlike 183 = .ok (.goto 4, 3) := by decide +kernel
theorem dL_areAlike_186 : decode cL_areAlike 186 = .ok (.iconst 0, 1) := by decide +kernel
theorem dL_areAlike_187 : decode cL_areAlike 187 = .ok (.istore_n 2, 1) := by decide +kernel
theorem dL_areAlike_188 : decode cL_areAlike 188 = .ok (.iinc 3 1, 3) := by decide +kernel
theorem dL_areAlike_191 : decode cL_areAlike 191 = .ok (.goto (-60), 3) := by decide +kernel
theorem dL_areAlike_194 : decode cL_areAlike 194 = .ok (.iconst 0, 1) := by decide +kernel
theorem dL_areAlike_195 : decode cL_areAlike 195 = .ok (.istore_n 3, 1) := by decide +kernel
theorem dL_areAlike_196 : decode cL_areAlike 196 = .ok (.iload_n 3, 1) := by decide +kernel
theorem dL_areAlike_197 : decode cL_areAlike 197 = .ok (.aload_n 0, 1) := by decide +kernel
theorem dL_areAlike_198 : decode cL_areAlike 198 = .ok (.iconst 1, 1) := by decide +kernel
theorem dL_areAlike_199 : decode cL_areAlike 199 = .ok (.invokevirtual 31, 3) := by decide +kernel
theorem dL_areAlike_202 : decode cL_areAlike 202 = .ok (.if_icmp .ge 52, 3) := by decide +kernel
theorem dL_areAlike_205 : decode cL_areAlike 205 = .ok (.iconst 0, 1) := by decide +kernel
theorem dL_areAlike_206 : decode cL_areAlike 206 = .ok (.istore 4, 2) := by decide +kernel
theorem dL_areAlike_208 : decode cL_areAlike 208 = .ok (.iload 4, 2) := by decide +kernel
theorem dL_areAlike_210 : decode cL_areAlike 210 = .ok (.bipush 7, 2) := by decide +kernel
theorem dL_areAlike_212 : decode cL_areAlike 212 = .ok (.if_icmp .ge 36, 3) := by decide +kernel
theorem dL_areAlike_215 : decode cL_areAlike 215 = .ok (.iload_n 2, 1) := by decide +kernel
theorem dL_areAlike_216 : decode cL_areAlike 216 = .ok (.ifCond .eq 24, 3) := by decide +kernel
theorem dL_areAlike_219 : decode cL_areAlike 219 = .ok (.aload_n 0, 1) := by decide +kernel
theorem dL_areAlike_220 : decode cL_areAlike 220 = .ok (.iload_n 3, 1) := by decide +kernel
theorem dL_areAlike_221 : decode cL_areAlike 221 = .ok (.iload 4, 2) := by decide +kernel
theorem dL_areAlike_223 : decode cL_areAlike 223 = .ok (.invokevirtual 47, 3) := by decide +kernel
theorem dL_areAlike_226 : decode cL_areAlike 226 = .ok (.aload_n 1, 1) := by decide +kernel
theorem dL_areAlike_227 : decode cL_areAlike 227 = .ok (.iload_n 3, 1) := by decide +kernel
theorem dL_areAlike_228 : decode cL_areAlike 228 = .ok (.iload 4, 2) := by decide +kernel
theorem dL_areAlike_230 : decode cL_areAlike 230 = .ok (.invokevirtual 47, 3) := by decide +kernel
theorem dL_areAlike_233 : decode cL_areAlike 233 = .ok (.if_icmp .ne 7, 3) := by decide +kernel
theorem dL_areAlike_236 : decode cL_areAlike 236 = .ok (.iconst 1, 1) := by decide +kernel
theorem dL_areAlike_237 : decode cL_areAlike 237 = .ok (.goto 4, 3) := by decide +kernel
theorem dL_areAlike_240 : decode cL_areAlike 240 = .ok (.iconst 0, 1) := by decide +kernel
theorem dL_areAlike_241 : decode cL_areAlike 241 = .ok (.istore_n 2, 1) := by decide +kernel
theorem dL_areAlike_242 : decode cL_areAlike 242 = .ok (.iinc 4 1, 3) := by decide +kernel
theorem dL_areAlike_245 : decode cL_areAlike 245 = .ok (.goto (-37), 3) := by decide +kernel
theorem dL_areAlike_248 : decode cL_areAlike 248 = .ok (.iinc 3 1, 3) := by decide +kernel
theorem dL_areAlike_251 : decode cL_areAlike 251 = .ok (.goto (-55), 3) := by decide +kernel
theorem dL_areAlike_254 : decode cL_areAlike 254 = .ok (.iload_n 2, 1) := by decide +kernel
theorem dL_areAlike_255 : decode cL_areAlike 255 = .ok (.ireturn, 1) := by decide +kernel
theorem dL_isWell_0 : decode cL_isWell 0 = .ok (.aload_n 0, 1) := by decide +kernel
theorem dL_isWell_1 : decode cL_isWell 1 = .ok (.iconst 1, 1) := by decide +kernel
theorem dL_isWell_2 : decode cL_isWell 2 = .ok (.invokevirtual 31, 3) := by decide +kernel
theorem dL_isWell_5 : decode cL_isWell 5 = .ok (.istore_n 1, 1) := by decide +kernel
theorem dL_isWell_6 : decode cL_isWell 6 = .ok (.iconst 0, 1) := by decide +kernel
theorem dL_isWell_7 : decode cL_isWell 7 = .ok (.istore_n 2, 1) := by decide +kernel
theorem dL_isWell_8 : decode cL_isWell 8 = .ok (.iconst 0, 1) := by decide +kernel
theorem dL_isWell_9 : decode cL_isWell 9 = .ok (.istore_n 3, 1) := by decide +kernel
theorem dL_isWell_10 : decode cL_isWell 10 = .ok (.iconst 0, 1) := by decide +kernel
theorem dL_isWell_11 : decode cL_isWell 11 = .ok (.istore 4, 2) := by decide +kernel
theorem dL_isWell_13 : decode cL_isWell 13 = .ok (.iconst 0, 1) := by decide +kernel
theorem dL_isWell_14 : decode cL_isWell 14 = .ok (.istore 5, 2) := by decide +kernel
theorem dL_isWell_16 : decode cL_isWell 16 = .ok (.aload_n 0, 1) := by decide +kernel
theorem dL_isWell_17 : decode cL_isWell 17 = .ok (.iconst 0, 1) := by decide +kernel
theorem dL_isWell_18 : decode cL_isWell 18 = .ok (.invokevirtual 82, 3) := by decide +kernel
theorem dL_isWell_21 : decode cL_isWell 21 = .ok (.aload_n 0, 1) := by decide +kernel
theorem dL_isWell_22 : decode cL_isWell 22 = .ok (.iconst 1, 1) := by decide +kernel
theorem dL_isWell_23 : decode cL_isWell 23 = .ok (.invokevirtual 82, 3) := by decide +kernel
theorem dL_isWell_26 : decode cL_isWell 26 = .ok (.dadd, 1) := by decide +kernel
theorem dL_isWell_27 : decode cL_isWell 27 = .ok (.aload_n 0, 1) := by decide +kernel
theorem dL_isWell_28 : decode cL_isWell 28 = .ok (.iconst 2, 1) := by decide +kernel
theorem dL_isWell_29 : decode cL_isWell 29 = .ok (.invokevirtual 82, 3) := by decide +kernel
theorem dL_isWell_32 : decode cL_isWell 32 = .ok (.dadd, 1) := by decide +kernel
theorem dL_isWell_33 : decode cL_isWell 33 = .ok (.aload_n 0, 1) := by decide +kernel
theorem dL_isWell_34 : decode cL_isWell 34 = .ok (.iconst 3, 1) := by decide +kernel
theorem dL_isWell_35 : decode cL_isWell 35 = .ok (.invokevirtual 82, 3) := by decide +kernel
theorem dL_isWell_38 : decode cL_isWell 38 = .ok (.dadd, 1) := by decide +kernel
theorem dL_isWell_39 : decode cL_isWell 39 = .ok (.aload_n 0, 1) := by decide +kernel
theorem dL_isWell_40 : decode cL_isWell 40 = .ok (.iconst 4, 1) := by decide +kernel
theorem dL_isWell_41 : decode cL_isWell 41 = .ok (.invokevirtual 82, 3) := by decide +kernel
theorem dL_isWell_44 : decode cL_isWell 44 = .ok (.dadd, 1) := by decide +kernel
theorem dL_isWell_45 : decode cL_isWell 45 = .ok (.ldc2_w 86, 3) := by decide +kernel
theorem dL_isWell_48 : decode cL_isWell 48 = .ok (.aload_n 0, 1) := by decide +kernel
theorem dL_isWell_49 : decode cL_isWell 49 = .ok (.bipush 8, 2) := by decide +kernel
theorem dL_isWell_51 : decode cL_isWell 51 = .ok (.invokevirtual 31, 3) := by decide +kernel
theorem dL_isWell_54 : decode cL_isWell 54 = .ok (.bipush 8, 2) := by decide +kernel
theorem dL_isWell_56 : decode cL_isWell 56 = .ok (.imul, 1) := by decide +kernel
theorem dL_isWell_57 : decode cL_isWell 57 = .ok (.i2d, 1) := by decide +kernel
theorem dL_isWell_58 : decode cL_isWell 58 = .ok (.ldc2_w 88, 3) := by decide +kernel
theorem dL_isWell_61 : decode cL_isWell 61 = .ok (.ddiv, 1) := by decide +kernel
theorem dL_isWell_62 : decode cL_isWell 62 = .ok (.dadd, 1) := by decide +kernel
theorem dL_isWell_63 : decode cL_isWell 63 = .ok (.dcmp .l, 1) := by decide +kernel
theorem dL_isWell_64 : decode cL_isWell 64 = .ok (.ifCond .ne 68, 3) := by decide +kernel
theorem dL_isWell_67 : decode cL_isWell 67 = .ok (.aload_n 0, 1) := by decide +kernel
theorem dL_isWell_68 : decode cL_isWell 68 = .ok (.iconst 0, 1) := by decide +kernel
theorem dL_isWell_69 : decode cL_isWell 69 = .ok (.invokevirtual 82, 3) := by decide +kernel
theorem dL_isWell_72 : decode cL_isWell 72 = .ok (.dconst 1, 1) := by decide +kernel
theorem dL_isWell_73 : decode cL_isWell 73 = .ok (.dcmp .g, 1) := by decide +kernel
theorem dL_isWell_74 : decode cL_isWell 74 = .ok (.ifCond .gt 58, 3) := by decide +kernel
theorem dL_isWell_77 : decode cL_isWell 77 = .ok (.aload_n 0, 1) := by decide +kernel
theorem dL_isWell_78 : decode cL_isWell 78 = .ok (.iconst 1, 1) := by decide +kernel
theorem dL_isWell_79 : decode cL_isWell 79 = .ok (.invokevirtual 82, 3) := by decide +kernel
theorem dL_isWell_82 : decode cL_isWell 82 = .ok (.dconst 1, 1) := by decide +kernel
theorem dL_isWell_83 : decode cL_isWell 83 = .ok (.dcmp .g, 1) := by decide +kernel
theorem dL_isWell_84 : decode cL_isWell 84 = .ok (.ifCond .gt 48, 3) := by decide +kernel
theorem dL_isWell_87 : decode cL_isWell 87 = .ok (.aload_n 0, 1) := by decide +kernel
theorem dL_isWell_88 : decode cL_isWell 88 = .ok (.iconst 0, 1) := by decide +kernel
theorem dL_isWell_89 : decode cL_isWell 89 = .ok (.invokevirtual 82, 3) := by decide +kernel
theorem dL_isWell_92 : decode cL_isWell 92 = .ok (.dconst 0, 1) := by decide +kernel
theorem dL_isWell_93 : decode cL_isWell 93 = .ok (.dcmp .l, 1) := by decide +kernel
theorem dL_isWell_94 : decode cL_isWell 94 = .ok (.ifCond .lt 38, 3) := by decide +kernel
theorem dL_isWell_97 : decode cL_isWell 97 = .ok (.aload_n 0, 1) := by decide +kernel
theorem dL_isWell_98 : decode cL_isWell 98 = .ok (.iconst 1, 1) := by decide +kernel
theorem dL_isWell_99 : decode cL_isWell 99 = .ok (.invokevirtual 82, 3) := by decide +kernel
theorem dL_isWell_102 : decode cL_isWell 102 = .ok (.dconst 0, 1) := by decide +kernel
theorem dL_isWell_103 : decode cL_isWell 103 = .ok (.dcmp .l, 1) := by decide +kernel
theorem dL_isWell_104 : decode cL_isWell 104 = .ok (.ifCond .lt 28, 3) := by decide +kernel
theorem dL_isWell_107 : decode cL_isWell 107 = .ok (.aload_n 0, 1) := by decide +kernel
theorem dL_isWell_108 : decode cL_isWell 108 = .ok (.iconst 2, 1) := by decide +kernel
theorem dL_isWell_109 : decode cL_isWell 109 = .ok (.invokevirtual 82, 3) := by decide +kernel
theorem dL_isWell_112 : decode cL_isWell 112 = .ok (.dconst 0, 1) := by decide +kernel
theorem dL_isWell_113 : decode cL_isWell 113 = .ok (.dcmp .l, 1) := by decide +kernel
theorem dL_isWell_114 : decode cL_isWell 114 = .ok (.ifCond .lt 18, 3) := by decide +kernel
theorem dL_isWell_117 : decode cL_isWell 117 = .ok (.aload_n 0, 1) := by decide +kernel
theorem dL_isWell_118 : decode cL_isWell 118 = .ok (.invokevirtual 73, 3) := by decide +kernel
theorem dL_isWell_121 : decode cL_isWell 121 = .ok (.aload_n 0, 1) := by decide +kernel
theorem dL_isWell_122 : decode cL_isWell 122 = .ok (.invokevirtual 90, 3) := by decide +kernel
theorem dL_isWell_125 : decode cL_isWell 125 = .ok (.if_icmp .ne 7, 3) := by decide +kernel
theorem dL_isWell_128 : decode cL_isWell 128 = .ok (.iconst 1, 1) := by decide +kernel
theorem dL_isWell_129 : decode cL_isWell 129 = .ok (.goto 4, 3) := by decide +kernel
theorem dL_isWell_132 : decode cL_isWell 132 = .ok (.iconst 0, 1) := by decide +kernel
theorem dL_isWell_133 : decode cL_isWell 133 = .ok (.istore 6, 2) := by decide +kernel
theorem dL_isWell_135 : decode cL_isWell 135 = .ok (.iconst 0, 1) := by decide +kernel
theorem dL_isWell_136 : decode cL_isWell 136 = .ok (.istore 7, 2) := by decide +kernel
theorem dL_isWell_138 : decode cL_isWell 138 = .ok (.iload 7, 2) := by decide +kernel
theorem dL_isWell_140 : decode cL_isWell 140 = .ok (.iload_n 1, 1) := by decide +kernel
theorem dL_isWell_141 : decode cL_isWell 141 = .ok (.if_icmp .ge 285, 3) := by decide +kernel
theorem dL_isWell_144 : decode cL_isWell 144 = .ok (.aload_n 0, 1) := by decide +kernel
theorem dL_isWell_145 : decode cL_isWell 145 = .ok (.iload 7, 2) := by decide +kernel
theorem dL_isWell_147 : decode cL_isWell 147 = .ok (.iconst 1, 1) := by decide +kernel
theorem dL_isWell_148 : decode cL_isWell 148 = .ok (.invokevirtual 47, 3) := by decide +kernel
theorem dL_isWell_151 : decode cL_isWell 151 = .ok (.istore 8, 2) := by decide +kernel
theorem dL_isWell_153 : decode cL_isWell 153 = .ok (.iload_n 2, 1) := by decide +kernel
theorem dL_isWell_154 : decode cL_isWell 154 = .ok (.iload 8, 2) := by decide +kernel
theorem dL_isWell_156 : decode cL_isWell 156 = .ok (.ifCond .le 7, 3) := by decide +kernel
theorem dL_isWell_159 : decode cL_isWell 159 = .ok (.iconst 1, 1) := by decide +kernel
theorem dL_isWell_160 : decode cL_isWell 160 = .ok (.goto 4, 3) := by decide +kernel
theorem dL_isWell_163 : decode cL_isWell 163 = .ok (.iconst 0, 1) := by decide +kernel
theorem dL_isWell_164 : decode cL_isWell 164 = .ok (.iadd, 1) := by decide +kernel
theorem dL_isWell_165 : decode cL_isWell 165 = .ok (.istore_n 2, 1) := by decide +kernel
theorem dL_isWell_166 : decode cL_isWell 166 = .ok (.iload_n 3, 1) := by decide +kernel
theorem dL_isWell_167 : decode cL_isWell 167 = .ok (.aload_n 0, 1) := by decide +kernel
theorem dL_isWell_168 : decode cL_isWell 168 = .ok (.iload 7, 2) := by decide +kernel
theorem dL_isWell_170 : decode cL_isWell 170 = .ok (.iconst 2, 1) := by decide +kernel
theorem dL_isWell_171 : decode cL_isWell 171 = .ok (.invokevirtual 47, 3) := by decide +kernel
theorem dL_isWell_174 : decode cL_isWell 174 = .ok (.iadd, 1) := by decide +kernel
theorem dL_isWell_175 : decode cL_isWell 175 = .ok (.istore_n 3, 1) := by decide +kernel
theorem dL_isWell_176 : decode cL_isWell 176 = .ok (.iload 4, 2) := by decide +kernel
theorem dL_isWell_178 : decode cL_isWell 178 = .ok (.iload 8, 2) := by decide +kernel
theorem dL_isWell_180 : decode cL_isWell 180 = .ok (.ifCond .le 19, 3) := by decide +kernel
theorem dL_isWell_183 : decode cL_isWell 183 = .ok (.iload 8, 2) := by decide +kernel
theorem dL_isWell_185 : decode cL_isWell 185 = .ok (.aload_n 0, 1) := by decide +kernel
theorem dL_isWell_186 : decode cL_isWell 186 = .ok (.iload 7, 2) := by decide +kernel
theorem dL_isWell_188 : decode cL_isWell 188 = .ok (.iconst 0, 1) := by decide +kernel
theorem dL_isWell_189 : decode cL_isWell 189 = .ok (.invokevirtual 47, 3) := by decide +kernel
theorem dL_isWell_192 : decode cL_isWell 192 = .ok (.if_icmp .eq 7, 3) := by decide +kernel
theorem dL_isWell_195 : decode cL_isWell 195 = .ok (.iconst 1, 1) := by decide +kernel
theorem dL_isWell_196 : decode cL_isWell 196 = .ok (.goto 4, 3) := by decide +kernel
theorem dL_isWell_199 : decode cL_isWell 199 = .ok (.iconst 0, 1) := by decide +kernel
theorem dL_isWell_200 : decode cL_isWell 200 = .ok (.iadd, 1) := by decide +kernel
theorem dL_isWell_201 : decode cL_isWell 201 = .ok (.istore 4, 2) := by decide +kernel
theorem dL_isWell_203 : decode cL_isWell 203 = .ok (.iload 5, 2) := by decide +kernel
theorem dL_isWell_205 : decode cL_isWell 205 = .ok (.iload 8, 2) := by decide +kernel
theorem dL_isWell_207 : decode cL_isWell 207 = .ok (.ifCond .le 7, 3) := by decide +kernel
theorem dL_isWell_210 : decode cL_isWell 210 = .ok (.iconst 0, 1) := by decide +kernel
theorem dL_isWell_211 : decode cL_isWell 211 = .ok (.goto 30, 3) := by decide +kernel
theorem dL_isWell_214 : decode cL_isWell 214 = .ok (.aload_n 0, 1) := by decide +kernel
theorem dL_isWell_215 : decode cL_isWell 215 = .ok (.iload 7, 2) := by decide +kernel
theorem dL_isWell_217 : decode cL_isWell 217 = .ok (.iconst 4, 1) := by decide +kernel
theorem dL_isWell_218 : decode cL_isWell 218 = .ok (.invokevirtual 47, 3) := by decide +kernel
theorem dL_isWell_221 : decode cL_isWell 221 = .ok (.ifCond .le 13, 3) := by decide +kernel
theorem dL_isWell_224 : decode cL_isWell 224 = .ok (.aload_n 0, 1) := by decide +kernel
theorem dL_isWell_225 : decode cL_isWell 225 = .ok (.iload 7, 2) := by decide +kernel
theorem dL_isWell_227 : decode cL_isWell 227 = .ok (.iconst 4, 1) := by decide +kernel
theorem dL_isWell_228 : decode cL_isWell 228 = .ok (.invokevirtual 47, 3) := by decide +kernel
theorem dL_isWell_231 : decode cL_isWell 231 = .ok (.goto 10, 3) := by decide +kernel
theorem dL_isWell_234 : decode cL_isWell 234 = .ok (.aload_n 0, 1) := by decide +kernel
theorem dL_isWell_235 : decode cL_isWell 235 = .ok (.iload 7, 2) := by decide +kernel
theorem dL_isWell_237 : decode cL_isWell 237 = .ok (.iconst 0, 1) := by decide +kernel
theorem dL_isWell_238 : decode cL_isWell 238 = .ok (.invokevirtual 47, 3) := by decide +kernel
theorem dL_isWell_241 : decode cL_isWell 241 = .ok (.iadd, 1) := by decide +kernel
theorem dL_isWell_242 : decode cL_isWell 242 = .ok (.istore 5, 2) := by decide +kernel
theorem dL_isWell_244 : decode cL_isWell 244 = .ok (.iload 6, 2) := by decide +kernel
theorem dL_isWell_246 : decode cL_isWell 246 = .ok (.ifCond .eq 171, 3) := by decide +kernel
theorem dL_isWell_249 : decode cL_isWell 249 = .ok (.aload_n 0, 1) := by decide +kernel
theorem dL_isWell_250 : decode cL_isWell 250 = .ok (.iload 7, 2) := by decide +kernel
theorem dL_isWell_252 : decode cL_isWell 252 = .ok (.iconst 0, 1) := by decide +kernel
theorem dL_isWell_253 : decode cL_isWell 253 = .ok (.invokevirtual 47, 3) := by decide +kernel
theorem dL_isWell_256 : decode cL_isWell 256 = .ok (.aload_n 0, 1) := by decide +kernel
theorem dL_isWell_257 : decode cL_isWell 257 = .ok (.iload_n 1, 1) := by decide +kernel
theorem dL_isWell_258 : decode cL_isWell 258 = .ok (.iconst 1, 1) := by decide +kernel
theorem dL_isWell_259 : decode cL_isWell 259 = .ok (.isub, 1) := by decide +kernel
theorem dL_isWell_260 : decode cL_isWell 260 = .ok (.iload 7, 2) := by decide +kernel
theorem dL_isWell_262 : decode cL_isWell 262 = .ok (.isub, 1) := by decide +kernel
theorem dL_isWell_263 : decode cL_isWell 263 = .ok (.iconst 0, 1) := by decide +kernel
theorem dL_isWell_264 : decode cL_isWell 264 = .ok (.invokevirtual 47, 3) := by decide +kernel
theorem dL_isWell_267 : decode cL_isWell 267 = .ok (.if_icmp .ne 150, 3) := by decide +kernel
theorem dL_isWell_270 : decode cL_isWell 270 = .ok (.aload_n 0, 1) := by decide +kernel
theorem dL_isWell_271 : decode cL_isWell 271 = .ok (.iload 7, 2) := by decide +kernel
theorem dL_isWell_273 : decode cL_isWell 273 = .ok (.iconst 5, 1) := by decide +kernel
theorem dL_isWell_274 : decode cL_isWell 274 = .ok (.invokevirtual 47, 3) := by decide +kernel
theorem dL_isWell_277 : decode cL_isWell 277 = .ok (.iload_n 1, 1) := by decide +kernel
theorem dL_isWell_278 : decode cL_isWell 278 = .ok (.iconst 1, 1) := by decide +kernel
theorem dL_isWell_279 : decode cL_isWell 279 = .ok (.isub, 1) := by decide +kernel
theorem dL_isWell_280 : decode cL_isWell 280 = .ok (.iload 7, 2) := by decide +kernel
theorem dL_isWell_282 : decode cL_isWell 282 = .ok (.isub, 1) := by decide +kernel
theorem dL_isWell_283 : decode cL_isWell 283 = .ok (.if_icmp .ne 134, 3) := by decide +kernel
theorem dL_isWell_286 : decode cL_isWell 286 = .ok (.iload 8, 2) := by decide +kernel
theorem dL_isWell_288 : decode cL_isWell 288 = .ok (.ifCond .le 7, 3) := by decide +kernel
theorem dL_isWell_291 : decode cL_isWell 291 = .ok (.iconst 1, 1) := by decide +kernel
theorem dL_isWell_292 : decode cL_isWell 292 = .ok (.goto 4, 3) := by decide +kernel
theorem dL_isWell_295 : decode cL_isWell 295 = .ok (.iconst 0, 1) := by decide +kernel
theorem dL_isWell_296 : decode cL_isWell 296 = .ok (.aload_n 0, 1) := by decide +kernel
theorem dL_isWell_297 : decode cL_isWell 297 = .ok (.iload 7, 2) := by decide +kernel
theorem dL_isWell_299 : decode cL_isWell 299 = .ok (.bipush 6, 2) := by decide +kernel
theorem dL_isWell_301 : decode cL_isWell 301 = .ok (.invokevirtual 47, 3) := by decide +kernel
theorem dL_isWell_304 : decode cL_isWell 304 = .ok (.ifCond .le 7, 3) := by decide +kernel
theorem dL_isWell_307 : decode cL_isWell 307 = .ok (.iconst 1, 1) := by decide +kernel
theorem dL_isWell_308 : decode cL_isWell 308 = .ok (.goto 4, 3) := by decide +kernel
theorem dL_isWell_311 : decode cL_isWell 311 = .ok (.iconst 0, 1) := by decide +kernel
theorem dL_isWell_312 : decode cL_isWell 312 = .ok (.if_icmp .ne 105, 3) := by decide +kernel
theorem dL_isWell_315 : decode cL_isWell 315 = .ok (.iload 8, 2) := by decide +kernel
theorem dL_isWell_317 : decode cL_isWell 317 = .ok (.ifCond .le 7, 3) := by decide +kernel
theorem dL_isWell_320 : decode cL_isWell 320 = .ok (.iconst 1, 1) := by decide +kernel
theorem dL_isWell_321 : decode cL_isWell 321 = .ok (.goto 4, 3) := by decide +kernel
theorem dL_isWell_324 : decode cL_isWell 324 = .ok (.iconst 0, 1) := by decide +kernel
theorem dL_isWell_325 : decode cL_isWell 325 = .ok (.iload 7, 2) := by decide +kernel
theorem dL_isWell_327 : decode cL_isWell 327 = .ok (.iload_n 1, 1) := by decide +kernel
theorem dL_isWell_328 : decode cL_isWell 328 = .ok (.iconst 2, 1) := by decide +kernel
theorem dL_isWell_329 : decode cL_isWell 329 = .ok (.idiv, 1) := by decide +kernel
theorem dL_isWell_330 : decode cL_isWell 330 = .ok (.if_icmp .ge 22, 3) := by decide +kernel
theorem dL_isWell_333 : decode cL_isWell 333 = .ok (.iload 7, 2) := by decide +kernel
theorem dL_isWell_335 : decode cL_isWell 335 = .ok (.aload_n 0, 1) := by decide +kernel
theorem dL_isWell_336 : decode cL_isWell 336 = .ok (.iconst 0, 1) := by decide +kernel
theorem dL_isWell_337 : decode cL_isWell 337 = .ok (.iconst 1, 1) := by decide +kernel
theorem dL_isWell_338 : decode cL_isWell 338 = .ok (.invokevirtual 35, 3) := by decide +kernel
theorem dL_isWell_341 : decode cL_isWell 341 = .ok (.if_icmp .ge 7, 3) := by decide +kernel
theorem dL_isWell_344 : decode cL_isWell 344 = .ok (.iconst 1, 1) := by decide +kernel
theorem dL_isWell_345 : decode cL_isWell 345 = .ok (.goto 27, 3) := by decide +kernel
theorem dL_isWell_348 : decode cL_isWell 348 = .ok (.iconst 0, 1) := by decide +kernel
theorem dL_isWell_349 : decode cL_isWell 349 = .ok (.goto 23, 3) := by decide +kernel
theorem dL_isWell_352 : decode cL_isWell 352 = .ok (.iload_n 1, 1) := by decide +kernel
theorem dL_isWell_353 : decode cL_isWell 353 = .ok (.iconst 1, 1) := by decide +kernel
theorem dL_isWell_354 : decode cL_isWell 354 = .ok (.isub, 1) := by decide +kernel
theorem dL_isWell_355 : decode cL_isWell 355 = .ok (.iload 7, 2) := by decide +kernel
theorem dL_isWell_357 : decode cL_isWell 357 = .ok (.isub, 1) := by decide +kernel
theorem dL_isWell_358 : decode cL_isWell 358 = .ok (.aload_n 0, 1) := by decide +kernel
theorem dL_isWell_359 : decode cL_isWell 359 = .ok (.iconst 1, 1) := by decide +kernel
theorem dL_isWell_360 : decode cL_isWell 360 = .ok (.iconst 1, 1) := by decide +kernel
theorem dL_isWell_361 : decode cL_isWell 361 = .ok (.invokevirtual 35, 3) := by decide +kernel
theorem dL_isWell_364 : decode cL_isWell 364 = .ok (.if_icmp .ge 7, 3) := by decide +kernel
theorem dL_isWell_367 : decode cL_isWell 367 = .ok (.iconst 1, 1) := by decide +kernel
theorem dL_isWell_368 : decode cL_isWell 368 = .ok (.goto 4, 3) := by decide +kernel
theorem dL_isWell_371 : decode cL_isWell 371 = .ok (.iconst 0, 1) := by decide +kernel
theorem dL_isWell_372 : decode cL_isWell 372 = .ok (.if_icmp .ne 45, 3) := by decide +kernel
theorem dL_isWell_375 : decode cL_isWell 375 = .ok (.aload_n 0, 1) := by decide +kernel
theorem dL_isWell_376 : decode cL_isWell 376 = .ok (.iload 7, 2) := by decide +kernel
theorem dL_isWell_378 : decode cL_isWell 378 = .ok (.bipush 6, 2) := by decide +kernel
theorem dL_isWell_380 : decode cL_isWell 380 = .ok (.invokevirtual 47, 3) := by decide +kernel
theorem dL_isWell_383 : decode cL_isWell 383 = .ok (.aload_n 0, 1) := by decide +kernel
theorem dL_isWell_384 : decode cL_isWell 384 = .ok (.iconst 0, 1) := by decide +kernel
theorem dL_isWell_385 : decode cL_isWell 385 = .ok (.invokevirtual 31, 3) := by decide +kernel
theorem dL_isWell_388 : decode cL_isWell 388 = .ok (.if_icmp .gt 29, 3) := by decide +kernel
theorem dL_isWell_391 : decode cL_isWell 391 = .ok (.aload_n 0, 1) := by decide +kernel
theorem dL_isWell_392 : decode cL_isWell 392 = .ok (.iload 7, 2) := by decide +kernel
theorem dL_isWell_394 : decode cL_isWell 394 = .ok (.iconst 3, 1) := by decide +kernel
theorem dL_isWell_395 : decode cL_isWell 395 = .ok (.invokevirtual 47, 3) := by decide +kernel
theorem dL_isWell_398 : decode cL_isWell 398 = .ok (.ifCond .eq 15, 3) := by decide +kernel
theorem dL_isWell_401 : decode cL_isWell 401 = .ok (.iload 8, 2) := by decide +kernel
theorem dL_isWell_403 : decode cL_isWell 403 = .ok (.aload_n 0, 1) := by decide +kernel
theorem dL_isWell_404 : decode cL_isWell 404 = .ok (.iload 7, 2) := by decide +kernel
theorem dL_isWell_406 : decode cL_isWell 406 = .ok (.iconst 0, 1) := by decide +kernel
theorem dL_isWell_407 : decode cL_isWell 407 = .ok (.invokevirtual 47, 3) := by decide +kernel
theorem dL_isWell_410 : decode cL_isWell 410 = .ok (.if_icmp .ne 7, 3) := by decide +kernel
theorem dL_isWell_413 : decode cL_isWell 413 = .ok (.iconst 1, 1) := by decide +kernel
theorem dL_isWell_414 : decode cL_isWell 414 = .ok (.goto 4, 3) := by decide +kernel
theorem dL_isWell_417 : decode cL_isWell 417 = .ok (.iconst 0, 1) := by decide +kernel
theorem dL_isWell_418 : decode cL_isWell 418 = .ok (.istore 6, 2) := by decide +kernel
theorem dL_isWell_420 : decode cL_isWell 420 = .ok (.iinc 7 1, 3) := by decide +kernel
theorem dL_isWell_423 : decode cL_isWell 423 = .ok (.goto (-285), 3) := by decide +kernel
theorem dL_isWell_426 : decode cL_isWell 426 = .ok (.iconst 0, 1) := by decide +kernel
theorem dL_isWell_427 : decode cL_isWell 427 = .ok (.istore 7, 2) := by decide +kernel
theorem dL_isWell_429 : decode cL_isWell 429 = .ok (.iload 7, 2) := by decide +kernel
theorem dL_isWell_431 : decode cL_isWell 431 = .ok (.iconst 2, 1) := by decide +kernel
theorem dL_isWell_432 : decode cL_isWell 432 = .ok (.if_icmp .ge 89, 3) := by decide +kernel
theorem dL_isWell_435 : decode cL_isWell 435 = .ok (.aload_n 0, 1) := by decide +kernel
theorem dL_isWell_436 : decode cL_isWell 436 = .ok (.iload 7, 2) := by decide +kernel
theorem dL_isWell_438 : decode cL_isWell 438 = .ok (.iconst 1, 1) := by decide +kernel
theorem dL_isWell_439 : decode cL_isWell 439 = .ok (.invokevirtual 35, 3) := by decide +kernel
theorem dL_isWell_442 : decode cL_isWell 442 = .ok (.istore 8, 2) := by decide +kernel
theorem dL_isWell_444 : decode cL_isWell 444 = .ok (.iload 6, 2) := by decide +kernel
theorem dL_isWell_446 : decode cL_isWell 446 = .ok (.ifCond .eq 66, 3) := by decide +kernel
theorem dL_isWell_449 : decode cL_isWell 449 = .ok (.aload_n 0, 1) := by decide +kernel
theorem dL_isWell_450 : decode cL_isWell 450 = .ok (.iload 7, 2) := by decide +kernel
theorem dL_isWell_452 : decode cL_isWell 452 = .ok (.iconst 2, 1) := by decide +kernel
theorem dL_isWell_453 : decode cL_isWell 453 = .ok (.invokevirtual 35, 3) := by decide +kernel
theorem dL_isWell_456 : decode cL_isWell 456 = .ok (.iload 8, 2) := by decide +kernel
theorem dL_isWell_458 : decode cL_isWell 458 = .ok (.iload_n 1, 1) := by decide +kernel
theorem dL_isWell_459 : decode cL_isWell 459 = .ok (.iconst 2, 1) := by decide +kernel
theorem dL_isWell_460 : decode cL_isWell 460 = .ok (.idiv, 1) := by decide +kernel
theorem dL_isWell_461 : decode cL_isWell 461 = .ok (.if_icmp .ne 8, 3) := by decide +kernel
theorem dL_isWell_464 : decode cL_isWell 464 = .ok (.bipush (-5), 2) := by decide +kernel
theorem dL_isWell_466 : decode cL_isWell 466 = .ok (.goto 19, 3) := by decide +kernel
theorem dL_isWell_469 : decode cL_isWell 469 = .ok (.iload 7, 2) := by decide +kernel
theorem dL_isWell_471 : decode cL_isWell 471 = .ok (.ifCond .ne 8, 3) := by decide +kernel
theorem dL_isWell_474 : decode cL_isWell 474 = .ok (.iload 8, 2) := by decide +kernel
theorem dL_isWell_476 : decode cL_isWell 476 = .ok (.goto 9, 3) := by decide +kernel
theorem dL_isWell_479 : decode cL_isWell 479 = .ok (.iload_n 1, 1) := by decide +kernel
theorem dL_isWell_480 : decode cL_isWell 480 = .ok (.iconst 1, 1) := by decide +kernel
theorem dL_isWell_481 : decode cL_isWell 481 = .ok (.isub, 1) := by decide +kernel
theorem dL_isWell_482 : decode cL_isWell 482 = .ok (.iload 8, 2) := by decide +kernel
theorem dL_isWell_484 : decode cL_isWell 484 = .ok (.isub, 1) := by decide +kernel
theorem dL_isWell_485 : decode cL_isWell 485 = .ok (.if_icmp .ne 27, 3) := by decide +kernel
theorem dL_isWell_488 : decode cL_isWell 488 = .ok (.aload_n 0, 1) := by decide +kernel
theorem dL_isWell_489 : decode cL_isWell 489 = .ok (.iload 7, 2) := by decide +kernel
theorem dL_isWell_491 : decode cL_isWell 491 = .ok (.iconst 3, 1) := by decide +kernel
theorem dL_isWell_492 : decode cL_isWell 492 = .ok (.invokevirtual 35, 3) := by decide +kernel
theorem dL_isWell_495 : decode cL_isWell 495 = .ok (.ifCond .lt 17, 3) := by decide +kernel
theorem dL_isWell_498 : decode cL_isWell 498 = .ok (.aload_n 0, 1) := by decide +kernel
theorem dL_isWell_499 : decode cL_isWell 499 = .ok (.iload 7, 2) := by decide +kernel
theorem dL_isWell_501 : decode cL_isWell 501 = .ok (.iconst 4, 1) := by decide +kernel
theorem dL_isWell_502 : decode cL_isWell 502 = .ok (.invokevirtual 35, 3) := by decide +kernel
theorem dL_isWell_505 : decode cL_isWell 505 = .ok (.ifCond .lt 7, 3) := by decide +kernel
theorem dL_isWell_508 : decode cL_isWell 508 = .ok (.iconst 1, 1) := by decide +kernel
theorem dL_isWell_509 : decode cL_isWell 509 = .ok (.goto 4, 3) := by decide +kernel
theorem dL_isWell_512 : decode cL_isWell 512 = .ok (.iconst 0, 1) := by decide +kernel
theorem dL_isWell_513 : decode cL_isWell 513 = .ok (.istore 6, 2) := by decide +kernel
theorem dL_isWell_515 : decode cL_isWell 515 = .ok (.iinc 7 1, 3) := by decide +kernel
theorem dL_isWell_518 : decode cL_isWell 518 = .ok (.goto (-89), 3) := by decide +kernel
theorem dL_isWell_521 : decode cL_isWell 521 = .ok (.iload 6, 2) := by decide +kernel
theorem dL_isWell_523 : decode cL_isWell 523 = .ok (.ifCond .eq 110, 3) := by decide +kernel
theorem dL_isWell_526 : decode cL_isWell 526 = .ok (.iload_n 2, 1) := by decide +kernel
theorem dL_isWell_527 : decode cL_isWell 527 = .ok (.aload_n 0, 1) := by decide +kernel
theorem dL_isWell_528 : decode cL_isWell 528 = .ok (.iconst 2, 1) := by decide +kernel
theorem dL_isWell_529 : decode cL_isWell 529 = .ok (.invokevirtual 31, 3) := by decide +kernel
theorem dL_isWell_532 : decode cL_isWell 532 = .ok (.if_icmp .ne 101, 3) := by decide +kernel
theorem dL_isWell_535 : decode cL_isWell 535 = .ok (.iload_n 2, 1) := by decide +kernel
theorem dL_isWell_536 : decode cL_isWell 536 = .ok (.aload_n 0, 1) := by decide +kernel
theorem dL_isWell_537 : decode cL_isWell 537 = .ok (.iconst 0, 1) := by decide +kernel
theorem dL_isWell_538 : decode cL_isWell 538 = .ok (.iconst 1, 1) := by decide +kernel
theorem dL_isWell_539 : decode cL_isWell 539 = .ok (.invokevirtual 35, 3) := by decide +kernel
theorem dL_isWell_542 : decode cL_isWell 542 = .ok (.aload_n 0, 1) := by decide +kernel
theorem dL_isWell_543 : decode cL_isWell 543 = .ok (.iconst 1, 1) := by decide +kernel
theorem dL_isWell_544 : decode cL_isWell 544 = .ok (.iconst 1, 1) := by decide +kernel
theorem dL_isWell_545 : decode cL_isWell 545 = .ok (.invokevirtual 35, 3) := by decide +kernel
theorem dL_isWell_548 : decode cL_isWell 548 = .ok (.iadd, 1) := by decide +kernel
theorem dL_isWell_549 : decode cL_isWell 549 = .ok (.if_icmp .ne 84, 3) := by decide +kernel
theorem dL_isWell_552 : decode cL_isWell 552 = .ok (.iload_n 3, 1) := by decide +kernel
theorem dL_isWell_553 : decode cL_isWell 553 = .ok (.aload_n 0, 1) := by decide +kernel
theorem dL_isWell_554 : decode cL_isWell 554 = .ok (.iconst 3, 1) := by decide +kernel
theorem dL_isWell_555 : decode cL_isWell 555 = .ok (.invokevirtual 31, 3) := by decide +kernel
theorem dL_isWell_558 : decode cL_isWell 558 = .ok (.if_icmp .ne 75, 3) := by decide +kernel
theorem dL_isWell_561 : decode cL_isWell 561 = .ok (.iload 4, 2) := by decide +kernel
theorem dL_isWell_563 : decode cL_isWell 563 = .ok (.aload_n 0, 1) := by decide +kernel
theorem dL_isWell_564 : decode cL_isWell 564 = .ok (.iconst 4, 1) := by decide +kernel
theorem dL_isWell_565 : decode cL_isWell 565 = .ok (.invokevirtual 31, 3) := by decide +kernel
theorem dL_isWell_568 : decode cL_isWell 568 = .ok (.if_icmp .ne 65, 3) := by decide +kernel
theorem dL_isWell_571 : decode cL_isWell 571 = .ok (.aload_n 0, 1) := by decide +kernel
theorem dL_isWell_572 : decode cL_isWell 572 = .ok (.invokevirtual 66, 3) := by decide +kernel
theorem dL_isWell_575 : decode cL_isWell 575 = .ok (.ldc2_w 88, 3) := by decide +kernel
theorem dL_isWell_578 : decode cL_isWell 578 = .ok (.dmul, 1) := by decide +kernel
theorem dL_isWell_579 : decode cL_isWell 579 = .ok (.iload 5, 2) := by decide +kernel
theorem dL_isWell_581 : decode cL_isWell 581 = .ok (.i2d, 1) := by decide +kernel
theorem dL_isWell_582 : decode cL_isWell 582 = .ok (.dcmp .l, 1) := by decide +kernel
theorem dL_isWell_583 : decode cL_isWell 583 = .ok (.ifCond .ne 50, 3) := by decide +kernel
theorem dL_isWell_586 : decode cL_isWell 586 = .ok (.aload_n 0, 1) := by decide +kernel
theorem dL_isWell_587 : decode cL_isWell 587 = .ok (.invokevirtual 70, 3) := by decide +kernel
theorem dL_isWell_590 : decode cL_isWell 590 = .ok (.ifCond .ne 7, 3) := by decide +kernel
theorem dL_isWell_593 : decode cL_isWell 593 = .ok (.iconst 1, 1) := by decide +kernel
theorem dL_isWell_594 : decode cL_isWell 594 = .ok (.goto 4, 3) := by decide +kernel
theorem dL_isWell_597 : decode cL_isWell 597 = .ok (.iconst 0, 1) := by decide +kernel
theorem dL_isWell_598 : decode cL_isWell 598 = .ok (.iload_n 2, 1) := by decide +kernel
theorem dL_isWell_599 : decode cL_isWell 599 = .ok (.iload_n 1, 1) := by decide +kernel
theorem dL_isWell_600 : decode cL_isWell 600 = .ok (.if_icmp .ne 7, 3) := by decide +kernel
theorem dL_isWell_603 : decode cL_isWell 603 = .ok (.iconst 1, 1) := by decide +kernel
theorem dL_isWell_604 : decode cL_isWell 604 = .ok (.goto 4, 3) := by decide +kernel
theorem dL_isWell_607 : decode cL_isWell 607 = .ok (.iconst 0, 1) := by decide +kernel
theorem dL_isWell_608 : decode cL_isWell 608 = .ok (.if_icmp .ne 25, 3) := by decide +kernel
theorem dL_isWell_611 : decode cL_isWell 611 = .ok (.aload_n 0, 1) := by decide +kernel
theorem dL_isWell_612 : decode cL_isWell 612 = .ok (.iconst 0, 1) := by decide +kernel
theorem dL_isWell_613 : decode cL_isWell 613 = .ok (.iconst 4, 1) := by decide +kernel
theorem dL_isWell_614 : decode cL_isWell 614 = .ok (.invokevirtual 35, 3) := by decide +kernel
theorem dL_isWell_617 : decode cL_isWell 617 = .ok (.ifCond .eq 12, 3) := by decide +kernel
theorem dL_isWell_620 : decode cL_isWell 620 = .ok (.aload_n 0, 1) := by decide +kernel
theorem dL_isWell_621 : decode cL_isWell 621 = .ok (.iconst 1, 1) := by decide +kernel
theorem dL_isWell_622 : decode cL_isWell 622 = .ok (.iconst 4, 1) := by decide +kernel
theorem dL_isWell_623 : decode cL_isWell 623 = .ok (.invokevirtual 35, 3) := by decide +kernel
theorem dL_isWell_626 : decode cL_isWell 626 = .ok (.ifCond .ne 7, 3) := by decide +kernel
theorem dL_isWell_629 : decode cL_isWell 629 = .ok (.iconst 1, 1) := by decide +kernel
theorem dL_isWell_630 : decode cL_isWell 630 = .ok (.goto 4, 3) := by decide +kernel
theorem dL_isWell_633 : decode cL_isWell 633 = .ok (.iconst 0, 1) := by decide +kernel
theorem dL_isWell_634 : decode cL_isWell 634 = .ok (.ireturn, 1) := by decide +kernel
theorem dL_law_0 : decode cL_law 0 = .ok (.new 10, 3) := by decide +kernel
theorem dL_law_3 : decode cL_law 3 = .ok (.dup, 1) := by decide +kernel
theorem dL_law_4 : decode cL_law 4 = .ok (.invokespecial 93, 3) := by decide +kernel
theorem dL_law_7 : decode cL_law 7 = .ok (.astore_n 1, 1) := by decide +kernel
theorem dL_law_8 : decode cL_law 8 = .ok (.new 10, 3) := by decide +kernel
theorem dL_law_11 : decode cL_law 11 = .ok (.dup, 1) := by decide +kernel
theorem dL_law_12 : decode cL_law 12 = .ok (.invokespecial 93, 3) := by decide +kernel
theorem dL_law_15 : decode cL_law 15 = .ok (.astore_n 2, 1) := by decide +kernel
theorem dL_law_16 : decode cL_law 16 = .ok (.aload_n 1, 1) := by decide +kernel
theorem dL_law_17 : decode cL_law 17 = .ok (.aload_n 2, 1) := by decide +kernel
theorem dL_law_18 : decode cL_law 18 = .ok (.aload_n 0, 1) := by decide +kernel
theorem dL_law_19 : decode cL_law 19 = .ok (.iconst 0, 1) := by decide +kernel
theorem dL_law_20 : decode cL_law 20 = .ok (.invokestatic 94, 3) := by decide +kernel
theorem dL_law_23 : decode cL_law 23 = .ok (.aload_n 0, 1) := by decide +kernel
theorem dL_law_24 : decode cL_law 24 = .ok (.iconst 1, 1) := by decide +kernel
theorem dL_law_25 : decode cL_law 25 = .ok (.invokestatic 94, 3) := by decide +kernel
theorem dL_law_28 : decode cL_law 28 = .ok (.invokestatic 53, 3) := by decide +kernel
theorem dL_law_31 : decode cL_law 31 = .ok (.istore_n 3, 1) := by decide +kernel
theorem dL_law_32 : decode cL_law 32 = .ok (.iconst 2, 1) := by decide +kernel
theorem dL_law_33 : decode cL_law 33 = .ok (.istore 4, 2) := by decide +kernel
theorem dL_law_35 : decode cL_law 35 = .ok (.iload 4, 2) := by decide +kernel
theorem dL_law_37 : decode cL_law 37 = .ok (.bipush 50, 2) := by decide +kernel
theorem dL_law_39 : decode cL_law 39 = .ok (.if_icmp .ge 57, 3) := by decide +kernel
theorem dL_law_42 : decode cL_law 42 = .ok (.iload_n 3, 1) := by decide +kernel
theorem dL_law_43 : decode cL_law 43 = .ok (.ifCond .eq 53, 3) := by decide +kernel
theorem dL_law_46 : decode cL_law 46 = .ok (.aload_n 1, 1) := by decide +kernel
theorem dL_law_47 : decode cL_law 47 = .ok (.aload_n 2, 1) := by decide +kernel
theorem dL_law_48 : decode cL_law 48 = .ok (.aload_n 0, 1) := by decide +kernel
theorem dL_law_49 : decode cL_law 49 = .ok (.iload 4, 2) := by decide +kernel
theorem dL_law_51 : decode cL_law 51 = .ok (.invokestatic 94, 3) := by decide +kernel
theorem dL_law_54 : decode cL_law 54 = .ok (.aload_n 0, 1) := by decide +kernel
theorem dL_law_55 : decode cL_law 55 = .ok (.iload 4, 2) := by decide +kernel
theorem dL_law_57 : decode cL_law 57 = .ok (.iconst 1, 1) := by decide +kernel
theorem dL_law_58 : decode cL_law 58 = .ok (.iadd, 1) := by decide +kernel
theorem dL_law_59 : decode cL_law 59 = .ok (.invokestatic 94, 3) := by decide +kernel
theorem dL_law_62 : decode cL_law 62 = .ok (.iconst 2, 1) := by decide +kernel
theorem dL_law_63 : decode cL_law 63 = .ok (.ishr, 1) := by decide +kernel
theorem dL_law_64 : decode cL_law 64 = .ok (.invokestatic 98, 3) := by decide +kernel
theorem dL_law_67 : decode cL_law 67 = .ok (.ifCond .eq 21, 3) := by decide +kernel
theorem dL_law_70 : decode cL_law 70 = .ok (.iload 4, 2) := by decide +kernel
theorem dL_law_72 : decode cL_law 72 = .ok (.iconst 3, 1) := by decide +kernel
theorem dL_law_73 : decode cL_law 73 = .ok (.irem, 1) := by decide +kernel
theorem dL_law_74 : decode cL_law 74 = .ok (.ifCond .gt 10, 3) := by decide +kernel
theorem dL_law_77 : decode cL_law 77 = .ok (.aload_n 1, 1) := by decide +kernel
theorem dL_law_78 : decode cL_law 78 = .ok (.invokestatic 101, 3) := by decide +kernel
theorem dL_law_81 : decode cL_law 81 = .ok (.ifCond .eq 7, 3) := by decide +kernel
theorem dL_law_84 : decode cL_law 84 = .ok (.iconst 1, 1) := by decide +kernel
theorem dL_law_85 : decode cL_law 85 = .ok (.goto 4, 3) := by decide +kernel
theorem dL_law_88 : decode cL_law 88 = .ok (.iconst 0, 1) := by decide +kernel
theorem dL_law_89 : decode cL_law 89 = .ok (.istore_n 3, 1) := by decide +kernel
theorem dL_law_90 : decode cL_law 90 = .ok (.iinc 4 1, 3) := by decide +kernel
theorem dL_law_93 : decode cL_law 93 = .ok (.goto (-58), 3) := by decide +kernel
theorem dL_law_96 : decode cL_law 96 = .ok (.iload_n 3, 1) := by decide +kernel
theorem dL_law_97 : decode cL_law 97 = .ok (.ifCond .eq 29, 3) := by decide +kernel
theorem dL_law_100 : decode cL_law 100 = .ok (.aload_n 1, 1) := by decide +kernel
theorem dL_law_101 : decode cL_law 101 = .ok (.invokestatic 101, 3) := by decide +kernel
theorem dL_law_104 : decode cL_law 104 = .ok (.ifCond .eq 22, 3) := by decide +kernel
theorem dL_law_107 : decode cL_law 107 = .ok (.aload_n 2, 1) := by decide +kernel
theorem dL_law_108 : decode cL_law 108 = .ok (.invokestatic 101, 3) := by decide +kernel
theorem dL_law_111 : decode cL_law 111 = .ok (.ifCond .eq 15, 3) := by decide +kernel
theorem dL_law_114 : decode cL_law 114 = .ok (.aload_n 1, 1) := by decide +kernel
theorem dL_law_115 : decode cL_law 115 = .ok (.aload_n 2, 1) := by decide +kernel
theorem dL_law_116 : decode cL_law 116 = .ok (.invokestatic 105, 3) := by decide +kernel
theorem dL_law_119 : decode cL_law 119 = .ok (.ifCond .eq 7, 3) := by decide +kernel
theorem dL_law_122 : decode cL_law 122 = .ok (.iconst 1, 1) := by decide +kernel
theorem dL_law_123 : decode cL_law 123 = .ok (.goto 4, 3) := by decide +kernel
theorem dL_law_126 : decode cL_law 126 = .ok (.iconst 0, 1) := by decide +kernel
theorem dL_law_127 : decode cL_law 127 = .ok (.ireturn, 1) := by decide +kernel
