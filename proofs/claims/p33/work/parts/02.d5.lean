/-! decode rows, 5 of 5 -/
theorem dL_balances_166 : decode cL_balances 166 = .ok (.aload_n 0, 1) := by decide +kernel
theorem dL_balances_167 : decode cL_balances 167 = .ok (.invokevirtual 54, 3) := by decide +kernel
theorem dL_balances_170 : decode cL_balances 170 = .ok (.iconst 2, 1) := by decide +kernel
theorem dL_balances_171 : decode cL_balances 171 = .ok (.iand, 1) := by decide +kernel
theorem dL_balances_172 : decode cL_balances 172 = .ok (.iconst 2, 1) := by decide +kernel
theorem dL_balances_173 : decode cL_balances 173 = .ok (.if_icmp .ne 7, 3) := by decide +kernel
theorem dL_balances_176 : decode cL_balances 176 = .ok (.iconst 1, 1) := by decide +kernel
theorem dL_balances_177 : decode cL_balances 177 = .ok (.goto 4, 3) := by decide +kernel
theorem dL_balances_180 : decode cL_balances 180 = .ok (.iconst 0, 1) := by decide +kernel
theorem dL_balances_181 : decode cL_balances 181 = .ok (.if_icmp .ne 26, 3) := by decide +kernel
theorem dL_balances_184 : decode cL_balances 184 = .ok (.aload_n 0, 1) := by decide +kernel
theorem dL_balances_185 : decode cL_balances 185 = .ok (.iconst 0, 1) := by decide +kernel
theorem dL_balances_186 : decode cL_balances 186 = .ok (.invokevirtual 62, 3) := by decide +kernel
theorem dL_balances_189 : decode cL_balances 189 = .ok (.iload 5, 2) := by decide +kernel
theorem dL_balances_191 : decode cL_balances 191 = .ok (.if_icmp .ne 16, 3) := by decide +kernel
theorem dL_balances_194 : decode cL_balances 194 = .ok (.aload_n 0, 1) := by decide +kernel
theorem dL_balances_195 : decode cL_balances 195 = .ok (.invokevirtual 44, 3) := by decide +kernel
theorem dL_balances_198 : decode cL_balances 198 = .ok (.lload_n 3, 1) := by decide +kernel
theorem dL_balances_199 : decode cL_balances 199 = .ok (.lcmp, 1) := by decide +kernel
theorem dL_balances_200 : decode cL_balances 200 = .ok (.ifCond .ne 7, 3) := by decide +kernel
theorem dL_balances_203 : decode cL_balances 203 = .ok (.iconst 1, 1) := by decide +kernel
theorem dL_balances_204 : decode cL_balances 204 = .ok (.goto 4, 3) := by decide +kernel
theorem dL_balances_207 : decode cL_balances 207 = .ok (.iconst 0, 1) := by decide +kernel
theorem dL_balances_208 : decode cL_balances 208 = .ok (.ireturn, 1) := by decide +kernel
theorem dL_fires_0 : decode cL_fires 0 = .ok (.aload_n 0, 1) := by decide +kernel
theorem dL_fires_1 : decode cL_fires 1 = .ok (.iload_n 3, 1) := by decide +kernel
theorem dL_fires_2 : decode cL_fires 2 = .ok (.invokevirtual 68, 3) := by decide +kernel
theorem dL_fires_5 : decode cL_fires 5 = .ok (.istore 5, 2) := by decide +kernel
theorem dL_fires_7 : decode cL_fires 7 = .ok (.aload_n 0, 1) := by decide +kernel
theorem dL_fires_8 : decode cL_fires 8 = .ok (.invokevirtual 71, 3) := by decide +kernel
theorem dL_fires_11 : decode cL_fires 11 = .ok (.istore 6, 2) := by decide +kernel
theorem dL_fires_13 : decode cL_fires 13 = .ok (.iconst 0, 1) := by decide +kernel
theorem dL_fires_14 : decode cL_fires 14 = .ok (.istore 7, 2) := by decide +kernel
theorem dL_fires_16 : decode cL_fires 16 = .ok (.iconst 0, 1) := by decide +kernel
theorem dL_fires_17 : decode cL_fires 17 = .ok (.istore 8, 2) := by decide +kernel
theorem dL_fires_19 : decode cL_fires 19 = .ok (.iload 5, 2) := by decide +kernel
theorem dL_fires_21 : decode cL_fires 21 = .ok (.ifCond .lt 25, 3) := by decide +kernel
theorem dL_fires_24 : decode cL_fires 24 = .ok (.iload 5, 2) := by decide +kernel
theorem dL_fires_26 : decode cL_fires 26 = .ok (.bipush 12, 2) := by decide +kernel
theorem dL_fires_28 : decode cL_fires 28 = .ok (.if_icmp .ge 18, 3) := by decide +kernel
theorem dL_fires_31 : decode cL_fires 31 = .ok (.iload 6, 2) := by decide +kernel
theorem dL_fires_33 : decode cL_fires 33 = .ok (.ifCond .le 13, 3) := by decide +kernel
theorem dL_fires_36 : decode cL_fires 36 = .ok (.iload 6, 2) := by decide +kernel
theorem dL_fires_38 : decode cL_fires 38 = .ok (.iload_n 2, 1) := by decide +kernel
theorem dL_fires_39 : decode cL_fires 39 = .ok (.if_icmp .gt 7, 3) := by decide +kernel
theorem dL_fires_42 : decode cL_fires 42 = .ok (.iconst 1, 1) := by decide +kernel
theorem dL_fires_43 : decode cL_fires 43 = .ok (.goto 4, 3) := by decide +kernel
theorem dL_fires_46 : decode cL_fires 46 = .ok (.iconst 0, 1) := by decide +kernel
theorem dL_fires_47 : decode cL_fires 47 = .ok (.istore 9, 2) := by decide +kernel
theorem dL_fires_49 : decode cL_fires 49 = .ok (.iconst 0, 1) := by decide +kernel
theorem dL_fires_50 : decode cL_fires 50 = .ok (.istore 10, 2) := by decide +kernel
theorem dL_fires_52 : decode cL_fires 52 = .ok (.iload 10, 2) := by decide +kernel
theorem dL_fires_54 : decode cL_fires 54 = .ok (.iload_n 1, 1) := by decide +kernel
theorem dL_fires_55 : decode cL_fires 55 = .ok (.if_icmp .ge 54, 3) := by decide +kernel
theorem dL_fires_58 : decode cL_fires 58 = .ok (.iload 9, 2) := by decide +kernel
theorem dL_fires_60 : decode cL_fires 60 = .ok (.ifCond .eq 49, 3) := by decide +kernel
theorem dL_fires_63 : decode cL_fires 63 = .ok (.iload 8, 2) := by decide +kernel
theorem dL_fires_65 : decode cL_fires 65 = .ok (.aload_n 0, 1) := by decide +kernel
theorem dL_fires_66 : decode cL_fires 66 = .ok (.iload 10, 2) := by decide +kernel
theorem dL_fires_68 : decode cL_fires 68 = .ok (.iconst 3, 1) := by decide +kernel
theorem dL_fires_69 : decode cL_fires 69 = .ok (.invokevirtual 74, 3) := by decide +kernel
theorem dL_fires_72 : decode cL_fires 72 = .ok (.iadd, 1) := by decide +kernel
theorem dL_fires_73 : decode cL_fires 73 = .ok (.istore 8, 2) := by decide +kernel
theorem dL_fires_75 : decode cL_fires 75 = .ok (.aload_n 0, 1) := by decide +kernel
theorem dL_fires_76 : decode cL_fires 76 = .ok (.iload 10, 2) := by decide +kernel
theorem dL_fires_78 : decode cL_fires 78 = .ok (.iconst 4, 1) := by decide +kernel
theorem dL_fires_79 : decode cL_fires 79 = .ok (.invokevirtual 74, 3) := by decide +kernel
theorem dL_fires_82 : decode cL_fires 82 = .ok (.ifCond .lt 18, 3) := by decide +kernel
theorem dL_fires_85 : decode cL_fires 85 = .ok (.aload_n 0, 1) := by decide +kernel
theorem dL_fires_86 : decode cL_fires 86 = .ok (.iload 10, 2) := by decide +kernel
theorem dL_fires_88 : decode cL_fires 88 = .ok (.iconst 4, 1) := by decide +kernel
theorem dL_fires_89 : decode cL_fires 89 = .ok (.invokevirtual 74, 3) := by decide +kernel
theorem dL_fires_92 : decode cL_fires 92 = .ok (.iload_n 2, 1) := by decide +kernel
theorem dL_fires_93 : decode cL_fires 93 = .ok (.if_icmp .ge 7, 3) := by decide +kernel
theorem dL_fires_96 : decode cL_fires 96 = .ok (.iconst 1, 1) := by decide +kernel
theorem dL_fires_97 : decode cL_fires 97 = .ok (.goto 4, 3) := by decide +kernel
theorem dL_fires_100 : decode cL_fires 100 = .ok (.iconst 0, 1) := by decide +kernel
theorem dL_fires_101 : decode cL_fires 101 = .ok (.istore 9, 2) := by decide +kernel
theorem dL_fires_103 : decode cL_fires 103 = .ok (.iinc 10 1, 3) := by decide +kernel
theorem dL_fires_106 : decode cL_fires 106 = .ok (.goto (-54), 3) := by decide +kernel
theorem dL_fires_109 : decode cL_fires 109 = .ok (.iconst 0, 1) := by decide +kernel
theorem dL_fires_110 : decode cL_fires 110 = .ok (.istore 10, 2) := by decide +kernel
theorem dL_fires_112 : decode cL_fires 112 = .ok (.iload 10, 2) := by decide +kernel
theorem dL_fires_114 : decode cL_fires 114 = .ok (.iload_n 1, 1) := by decide +kernel
theorem dL_fires_115 : decode cL_fires 115 = .ok (.if_icmp .gt 83, 3) := by decide +kernel
theorem dL_fires_118 : decode cL_fires 118 = .ok (.iload 9, 2) := by decide +kernel
theorem dL_fires_120 : decode cL_fires 120 = .ok (.ifCond .eq 78, 3) := by decide +kernel
theorem dL_fires_123 : decode cL_fires 123 = .ok (.iconst 0, 1) := by decide +kernel
theorem dL_fires_124 : decode cL_fires 124 = .ok (.istore 11, 2) := by decide +kernel
theorem dL_fires_126 : decode cL_fires 126 = .ok (.iconst 0, 1) := by decide +kernel
theorem dL_fires_127 : decode cL_fires 127 = .ok (.istore 12, 2) := by decide +kernel
theorem dL_fires_129 : decode cL_fires 129 = .ok (.iload 12, 2) := by decide +kernel
theorem dL_fires_131 : decode cL_fires 131 = .ok (.iload_n 2, 1) := by decide +kernel
theorem dL_fires_132 : decode cL_fires 132 = .ok (.if_icmp .ge 42, 3) := by decide +kernel
theorem dL_fires_135 : decode cL_fires 135 = .ok (.aload_n 0, 1) := by decide +kernel
theorem dL_fires_136 : decode cL_fires 136 = .ok (.iload 10, 2) := by decide +kernel
theorem dL_fires_138 : decode cL_fires 138 = .ok (.iload 12, 2) := by decide +kernel
theorem dL_fires_140 : decode cL_fires 140 = .ok (.invokevirtual 77, 3) := by decide +kernel
theorem dL_fires_143 : decode cL_fires 143 = .ok (.istore 13, 2) := by decide +kernel
theorem dL_fires_145 : decode cL_fires 145 = .ok (.iload 7, 2) := by decide +kernel
theorem dL_fires_147 : decode cL_fires 147 = .ok (.iload 13, 2) := by decide +kernel
theorem dL_fires_149 : decode cL_fires 149 = .ok (.iadd, 1) := by decide +kernel
theorem dL_fires_150 : decode cL_fires 150 = .ok (.istore 7, 2) := by decide +kernel
theorem dL_fires_152 : decode cL_fires 152 = .ok (.iload 13, 2) := by decide +kernel
theorem dL_fires_154 : decode cL_fires 154 = .ok (.iload 11, 2) := by decide +kernel
theorem dL_fires_156 : decode cL_fires 156 = .ok (.if_icmp .le 8, 3) := by decide +kernel
theorem dL_fires_159 : decode cL_fires 159 = .ok (.iload 13, 2) := by decide +kernel
theorem dL_fires_161 : decode cL_fires 161 = .ok (.goto 5, 3) := by decide +kernel
theorem dL_fires_164 : decode cL_fires 164 = .ok (.iload 11, 2) := by decide +kernel
theorem dL_fires_166 : decode cL_fires 166 = .ok (.istore 11, 2) := by decide +kernel
theorem dL_fires_168 : decode cL_fires 168 = .ok (.iinc 12 1, 3) := by decide +kernel
theorem dL_fires_171 : decode cL_fires 171 = .ok (.goto (-42), 3) := by decide +kernel
theorem dL_fires_174 : decode cL_fires 174 = .ok (.aload_n 0, 1) := by decide +kernel
theorem dL_fires_175 : decode cL_fires 175 = .ok (.iload 10, 2) := by decide +kernel
theorem dL_fires_177 : decode cL_fires 177 = .ok (.invokevirtual 80, 3) := by decide +kernel
theorem dL_fires_180 : decode cL_fires 180 = .ok (.iload 11, 2) := by decide +kernel
theorem dL_fires_182 : decode cL_fires 182 = .ok (.if_icmp .ne 7, 3) := by decide +kernel
theorem dL_fires_185 : decode cL_fires 185 = .ok (.iconst 1, 1) := by decide +kernel
theorem dL_fires_186 : decode cL_fires 186 = .ok (.goto 4, 3) := by decide +kernel
theorem dL_fires_189 : decode cL_fires 189 = .ok (.iconst 0, 1) := by decide +kernel
theorem dL_fires_190 : decode cL_fires 190 = .ok (.istore 9, 2) := by decide +kernel
theorem dL_fires_192 : decode cL_fires 192 = .ok (.iinc 10 1, 3) := by decide +kernel
theorem dL_fires_195 : decode cL_fires 195 = .ok (.goto (-83), 3) := by decide +kernel
theorem dL_fires_198 : decode cL_fires 198 = .ok (.iload 9, 2) := by decide +kernel
theorem dL_fires_200 : decode cL_fires 200 = .ok (.ifCond .eq 31, 3) := by decide +kernel
theorem dL_fires_203 : decode cL_fires 203 = .ok (.iload 7, 2) := by decide +kernel
theorem dL_fires_205 : decode cL_fires 205 = .ok (.bipush 30, 2) := by decide +kernel
theorem dL_fires_207 : decode cL_fires 207 = .ok (.iload 8, 2) := by decide +kernel
theorem dL_fires_209 : decode cL_fires 209 = .ok (.imul, 1) := by decide +kernel
theorem dL_fires_210 : decode cL_fires 210 = .ok (.if_icmp .ne 21, 3) := by decide +kernel
theorem dL_fires_213 : decode cL_fires 213 = .ok (.iload 8, 2) := by decide +kernel
theorem dL_fires_215 : decode cL_fires 215 = .ok (.iload_n 1, 1) := by decide +kernel
theorem dL_fires_216 : decode cL_fires 216 = .ok (.if_icmp .lt 11, 3) := by decide +kernel
theorem dL_fires_219 : decode cL_fires 219 = .ok (.iload 6, 2) := by decide +kernel
theorem dL_fires_221 : decode cL_fires 221 = .ok (.iload_n 2, 1) := by decide +kernel
theorem dL_fires_222 : decode cL_fires 222 = .ok (.iload_n 1, 1) := by decide +kernel
theorem dL_fires_223 : decode cL_fires 223 = .ok (.idiv, 1) := by decide +kernel
theorem dL_fires_224 : decode cL_fires 224 = .ok (.if_icmp .ne 7, 3) := by decide +kernel
theorem dL_fires_227 : decode cL_fires 227 = .ok (.iconst 1, 1) := by decide +kernel
theorem dL_fires_228 : decode cL_fires 228 = .ok (.goto 4, 3) := by decide +kernel
theorem dL_fires_231 : decode cL_fires 231 = .ok (.iconst 0, 1) := by decide +kernel
theorem dL_fires_232 : decode cL_fires 232 = .ok (.istore 9, 2) := by decide +kernel
theorem dL_fires_234 : decode cL_fires 234 = .ok (.aload_n 0, 1) := by decide +kernel
theorem dL_fires_235 : decode cL_fires 235 = .ok (.invokevirtual 83, 3) := by decide +kernel
theorem dL_fires_238 : decode cL_fires 238 = .ok (.istore 10, 2) := by decide +kernel
theorem dL_fires_240 : decode cL_fires 240 = .ok (.iload 9, 2) := by decide +kernel
theorem dL_fires_242 : decode cL_fires 242 = .ok (.ifCond .eq 130, 3) := by decide +kernel
theorem dL_fires_245 : decode cL_fires 245 = .ok (.iload 10, 2) := by decide +kernel
theorem dL_fires_247 : decode cL_fires 247 = .ok (.ifCond .lt 125, 3) := by decide +kernel
theorem dL_fires_250 : decode cL_fires 250 = .ok (.aload_n 0, 1) := by decide +kernel
theorem dL_fires_251 : decode cL_fires 251 = .ok (.iload 10, 2) := by decide +kernel
theorem dL_fires_253 : decode cL_fires 253 = .ok (.iconst 0, 1) := by decide +kernel
theorem dL_fires_254 : decode cL_fires 254 = .ok (.invokevirtual 86, 3) := by decide +kernel
theorem dL_fires_257 : decode cL_fires 257 = .ok (.iload 8, 2) := by decide +kernel
theorem dL_fires_259 : decode cL_fires 259 = .ok (.iconst 1, 1) := by decide +kernel
theorem dL_fires_260 : decode cL_fires 260 = .ok (.isub, 1) := by decide +kernel
theorem dL_fires_261 : decode cL_fires 261 = .ok (.if_icmp .ne 7, 3) := by decide +kernel
theorem dL_fires_264 : decode cL_fires 264 = .ok (.iconst 1, 1) := by decide +kernel
theorem dL_fires_265 : decode cL_fires 265 = .ok (.goto 4, 3) := by decide +kernel
theorem dL_fires_268 : decode cL_fires 268 = .ok (.iconst 0, 1) := by decide +kernel
theorem dL_fires_269 : decode cL_fires 269 = .ok (.istore 9, 2) := by decide +kernel
theorem dL_fires_271 : decode cL_fires 271 = .ok (.aload_n 0, 1) := by decide +kernel
theorem dL_fires_272 : decode cL_fires 272 = .ok (.invokevirtual 71, 3) := by decide +kernel
theorem dL_fires_275 : decode cL_fires 275 = .ok (.istore 11, 2) := by decide +kernel
theorem dL_fires_277 : decode cL_fires 277 = .ok (.iload 9, 2) := by decide +kernel
theorem dL_fires_279 : decode cL_fires 279 = .ok (.ifCond .eq 26, 3) := by decide +kernel
theorem dL_fires_282 : decode cL_fires 282 = .ok (.iload 11, 2) := by decide +kernel
theorem dL_fires_284 : decode cL_fires 284 = .ok (.iload 6, 2) := by decide +kernel
theorem dL_fires_286 : decode cL_fires 286 = .ok (.if_icmp .lt 19, 3) := by decide +kernel
theorem dL_fires_289 : decode cL_fires 289 = .ok (.aload_n 0, 1) := by decide +kernel
theorem dL_fires_290 : decode cL_fires 290 = .ok (.iload 10, 2) := by decide +kernel
theorem dL_fires_292 : decode cL_fires 292 = .ok (.iconst 1, 1) := by decide +kernel
theorem dL_fires_293 : decode cL_fires 293 = .ok (.invokevirtual 86, 3) := by decide +kernel
theorem dL_fires_296 : decode cL_fires 296 = .ok (.iload 8, 2) := by decide +kernel
theorem dL_fires_298 : decode cL_fires 298 = .ok (.if_icmp .ne 7, 3) := by decide +kernel
theorem dL_fires_301 : decode cL_fires 301 = .ok (.iconst 1, 1) := by decide +kernel
theorem dL_fires_302 : decode cL_fires 302 = .ok (.goto 4, 3) := by decide +kernel
theorem dL_fires_305 : decode cL_fires 305 = .ok (.iconst 0, 1) := by decide +kernel
theorem dL_fires_306 : decode cL_fires 306 = .ok (.istore 9, 2) := by decide +kernel
theorem dL_fires_308 : decode cL_fires 308 = .ok (.iload 4, 2) := by decide +kernel
theorem dL_fires_310 : decode cL_fires 310 = .ok (.iload_n 1, 1) := by decide +kernel
theorem dL_fires_311 : decode cL_fires 311 = .ok (.irem, 1) := by decide +kernel
theorem dL_fires_312 : decode cL_fires 312 = .ok (.istore 12, 2) := by decide +kernel
theorem dL_fires_314 : decode cL_fires 314 = .ok (.iload 9, 2) := by decide +kernel
theorem dL_fires_316 : decode cL_fires 316 = .ok (.ifCond .eq 56, 3) := by decide +kernel
theorem dL_fires_319 : decode cL_fires 319 = .ok (.aload_n 0, 1) := by decide +kernel
theorem dL_fires_320 : decode cL_fires 320 = .ok (.iload 12, 2) := by decide +kernel
theorem dL_fires_322 : decode cL_fires 322 = .ok (.iconst 3, 1) := by decide +kernel
theorem dL_fires_323 : decode cL_fires 323 = .ok (.invokevirtual 74, 3) := by decide +kernel
theorem dL_fires_326 : decode cL_fires 326 = .ok (.iconst 1, 1) := by decide +kernel
theorem dL_fires_327 : decode cL_fires 327 = .ok (.if_icmp .ne 45, 3) := by decide +kernel
theorem dL_fires_330 : decode cL_fires 330 = .ok (.aload_n 0, 1) := by decide +kernel
theorem dL_fires_331 : decode cL_fires 331 = .ok (.iload 12, 2) := by decide +kernel
theorem dL_fires_333 : decode cL_fires 333 = .ok (.iconst 0, 1) := by decide +kernel
theorem dL_fires_334 : decode cL_fires 334 = .ok (.invokevirtual 86, 3) := by decide +kernel
theorem dL_fires_337 : decode cL_fires 337 = .ok (.iload 8, 2) := by decide +kernel
theorem dL_fires_339 : decode cL_fires 339 = .ok (.iconst 1, 1) := by decide +kernel
theorem dL_fires_340 : decode cL_fires 340 = .ok (.isub, 1) := by decide +kernel
theorem dL_fires_341 : decode cL_fires 341 = .ok (.if_icmp .ne 28, 3) := by decide +kernel
theorem dL_fires_344 : decode cL_fires 344 = .ok (.aload_n 0, 1) := by decide +kernel
theorem dL_fires_345 : decode cL_fires 345 = .ok (.invokevirtual 71, 3) := by decide +kernel
theorem dL_fires_348 : decode cL_fires 348 = .ok (.iload 11, 2) := by decide +kernel
theorem dL_fires_350 : decode cL_fires 350 = .ok (.if_icmp .lt 19, 3) := by decide +kernel
theorem dL_fires_353 : decode cL_fires 353 = .ok (.aload_n 0, 1) := by decide +kernel
theorem dL_fires_354 : decode cL_fires 354 = .ok (.iload 12, 2) := by decide +kernel
theorem dL_fires_356 : decode cL_fires 356 = .ok (.iconst 1, 1) := by decide +kernel
theorem dL_fires_357 : decode cL_fires 357 = .ok (.invokevirtual 86, 3) := by decide +kernel
theorem dL_fires_360 : decode cL_fires 360 = .ok (.iload 8, 2) := by decide +kernel
theorem dL_fires_362 : decode cL_fires 362 = .ok (.if_icmp .ne 7, 3) := by decide +kernel
theorem dL_fires_365 : decode cL_fires 365 = .ok (.iconst 1, 1) := by decide +kernel
theorem dL_fires_366 : decode cL_fires 366 = .ok (.goto 4, 3) := by decide +kernel
theorem dL_fires_369 : decode cL_fires 369 = .ok (.iconst 0, 1) := by decide +kernel
theorem dL_fires_370 : decode cL_fires 370 = .ok (.istore 9, 2) := by decide +kernel
theorem dL_fires_372 : decode cL_fires 372 = .ok (.iload 9, 2) := by decide +kernel
theorem dL_fires_374 : decode cL_fires 374 = .ok (.ifCond .eq 18, 3) := by decide +kernel
theorem dL_fires_377 : decode cL_fires 377 = .ok (.iload 10, 2) := by decide +kernel
theorem dL_fires_379 : decode cL_fires 379 = .ok (.ifCond .ge 9, 3) := by decide +kernel
theorem dL_fires_382 : decode cL_fires 382 = .ok (.iload 8, 2) := by decide +kernel
theorem dL_fires_384 : decode cL_fires 384 = .ok (.iconst 2, 1) := by decide +kernel
theorem dL_fires_385 : decode cL_fires 385 = .ok (.if_icmp .ge 7, 3) := by decide +kernel
theorem dL_fires_388 : decode cL_fires 388 = .ok (.iconst 1, 1) := by decide +kernel
theorem dL_fires_389 : decode cL_fires 389 = .ok (.goto 4, 3) := by decide +kernel
theorem dL_fires_392 : decode cL_fires 392 = .ok (.iconst 0, 1) := by decide +kernel
theorem dL_fires_393 : decode cL_fires 393 = .ok (.ireturn, 1) := by decide +kernel
theorem dL_refuses_0 : decode cL_refuses 0 = .ok (.aload_n 0, 1) := by decide +kernel
theorem dL_refuses_1 : decode cL_refuses 1 = .ok (.invokevirtual 44, 3) := by decide +kernel
theorem dL_refuses_4 : decode cL_refuses 4 = .ok (.lstore_n 2, 1) := by decide +kernel
theorem dL_refuses_5 : decode cL_refuses 5 = .ok (.aload_n 0, 1) := by decide +kernel
theorem dL_refuses_6 : decode cL_refuses 6 = .ok (.iconst (-1), 1) := by decide +kernel
theorem dL_refuses_7 : decode cL_refuses 7 = .ok (.invokevirtual 90, 3) := by decide +kernel
theorem dL_refuses_10 : decode cL_refuses 10 = .ok (.ldc 15, 2) := by decide +kernel
theorem dL_refuses_12 : decode cL_refuses 12 = .ok (.if_icmp .ne 109, 3) := by decide +kernel
theorem dL_refuses_15 : decode cL_refuses 15 = .ok (.aload_n 0, 1) := by decide +kernel
theorem dL_refuses_16 : decode cL_refuses 16 = .ok (.iconst 0, 1) := by decide +kernel
theorem dL_refuses_17 : decode cL_refuses 17 = .ok (.invokevirtual 23, 3) := by decide +kernel
theorem dL_refuses_20 : decode cL_refuses 20 = .ok (.ldc 15, 2) := by decide +kernel
theorem dL_refuses_22 : decode cL_refuses 22 = .ok (.if_icmp .ne 99, 3) := by decide +kernel
theorem dL_refuses_25 : decode cL_refuses 25 = .ok (.aload_n 0, 1) := by decide +kernel
theorem dL_refuses_26 : decode cL_refuses 26 = .ok (.iconst (-1), 1) := by decide +kernel
theorem dL_refuses_27 : decode cL_refuses 27 = .ok (.iconst 0, 1) := by decide +kernel
theorem dL_refuses_28 : decode cL_refuses 28 = .ok (.invokevirtual 9, 3) := by decide +kernel
theorem dL_refuses_31 : decode cL_refuses 31 = .ok (.ldc 16, 2) := by decide +kernel
theorem dL_refuses_33 : decode cL_refuses 33 = .ok (.if_icmp .ne 88, 3) := by decide +kernel
theorem dL_refuses_36 : decode cL_refuses 36 = .ok (.aload_n 0, 1) := by decide +kernel
theorem dL_refuses_37 : decode cL_refuses 37 = .ok (.iconst 0, 1) := by decide +kernel
theorem dL_refuses_38 : decode cL_refuses 38 = .ok (.iconst (-1), 1) := by decide +kernel
theorem dL_refuses_39 : decode cL_refuses 39 = .ok (.invokevirtual 9, 3) := by decide +kernel
theorem dL_refuses_42 : decode cL_refuses 42 = .ok (.ldc 15, 2) := by decide +kernel
theorem dL_refuses_44 : decode cL_refuses 44 = .ok (.if_icmp .ne 77, 3) := by decide +kernel
theorem dL_refuses_47 : decode cL_refuses 47 = .ok (.aload_n 0, 1) := by decide +kernel
theorem dL_refuses_48 : decode cL_refuses 48 = .ok (.iload_n 1, 1) := by decide +kernel
theorem dL_refuses_49 : decode cL_refuses 49 = .ok (.iconst 0, 1) := by decide +kernel
theorem dL_refuses_50 : decode cL_refuses 50 = .ok (.invokevirtual 17, 3) := by decide +kernel
theorem dL_refuses_53 : decode cL_refuses 53 = .ok (.ldc 16, 2) := by decide +kernel
theorem dL_refuses_55 : decode cL_refuses 55 = .ok (.if_icmp .ne 66, 3) := by decide +kernel
theorem dL_refuses_58 : decode cL_refuses 58 = .ok (.aload_n 0, 1) := by decide +kernel
theorem dL_refuses_59 : decode cL_refuses 59 = .ok (.iconst 0, 1) := by decide +kernel
theorem dL_refuses_60 : decode cL_refuses 60 = .ok (.bipush (-101), 2) := by decide +kernel
theorem dL_refuses_62 : decode cL_refuses 62 = .ok (.invokevirtual 20, 3) := by decide +kernel
theorem dL_refuses_65 : decode cL_refuses 65 = .ok (.ldc 15, 2) := by decide +kernel
theorem dL_refuses_67 : decode cL_refuses 67 = .ok (.if_icmp .ne 54, 3) := by decide +kernel
theorem dL_refuses_70 : decode cL_refuses 70 = .ok (.aload_n 0, 1) := by decide +kernel
theorem dL_refuses_71 : decode cL_refuses 71 = .ok (.bipush (-101), 2) := by decide +kernel
theorem dL_refuses_73 : decode cL_refuses 73 = .ok (.iconst 0, 1) := by decide +kernel
theorem dL_refuses_74 : decode cL_refuses 74 = .ok (.iconst 1, 1) := by decide +kernel
theorem dL_refuses_75 : decode cL_refuses 75 = .ok (.invokevirtual 58, 3) := by decide +kernel
theorem dL_refuses_78 : decode cL_refuses 78 = .ok (.ldc 15, 2) := by decide +kernel
theorem dL_refuses_80 : decode cL_refuses 80 = .ok (.if_icmp .ne 41, 3) := by decide +kernel
theorem dL_refuses_83 : decode cL_refuses 83 = .ok (.aload_n 0, 1) := by decide +kernel
theorem dL_refuses_84 : decode cL_refuses 84 = .ok (.iconst 0, 1) := by decide +kernel
theorem dL_refuses_85 : decode cL_refuses 85 = .ok (.iconst (-1), 1) := by decide +kernel
theorem dL_refuses_86 : decode cL_refuses 86 = .ok (.iconst 1, 1) := by decide +kernel
theorem dL_refuses_87 : decode cL_refuses 87 = .ok (.invokevirtual 58, 3) := by decide +kernel
theorem dL_refuses_90 : decode cL_refuses 90 = .ok (.ldc 15, 2) := by decide +kernel
theorem dL_refuses_92 : decode cL_refuses 92 = .ok (.if_icmp .ne 29, 3) := by decide +kernel
theorem dL_refuses_95 : decode cL_refuses 95 = .ok (.aload_n 0, 1) := by decide +kernel
theorem dL_refuses_96 : decode cL_refuses 96 = .ok (.iconst (-1), 1) := by decide +kernel
theorem dL_refuses_97 : decode cL_refuses 97 = .ok (.iconst 0, 1) := by decide +kernel
theorem dL_refuses_98 : decode cL_refuses 98 = .ok (.invokevirtual 93, 3) := by decide +kernel
theorem dL_refuses_101 : decode cL_refuses 101 = .ok (.ldc 16, 2) := by decide +kernel
theorem dL_refuses_103 : decode cL_refuses 103 = .ok (.if_icmp .ne 18, 3) := by decide +kernel
theorem dL_refuses_106 : decode cL_refuses 106 = .ok (.aload_n 0, 1) := by decide +kernel
theorem dL_refuses_107 : decode cL_refuses 107 = .ok (.iconst (-1), 1) := by decide +kernel
theorem dL_refuses_108 : decode cL_refuses 108 = .ok (.iconst 0, 1) := by decide +kernel
theorem dL_refuses_109 : decode cL_refuses 109 = .ok (.invokevirtual 74, 3) := by decide +kernel
theorem dL_refuses_112 : decode cL_refuses 112 = .ok (.ldc 16, 2) := by decide +kernel
theorem dL_refuses_114 : decode cL_refuses 114 = .ok (.if_icmp .ne 7, 3) := by decide +kernel
theorem dL_refuses_117 : decode cL_refuses 117 = .ok (.iconst 1, 1) := by decide +kernel
theorem dL_refuses_118 : decode cL_refuses 118 = .ok (.goto 4, 3) := by decide +kernel
theorem dL_refuses_121 : decode cL_refuses 121 = .ok (.iconst 0, 1) := by decide +kernel
theorem dL_refuses_122 : decode cL_refuses 122 = .ok (.istore 4, 2) := by decide +kernel
theorem dL_refuses_124 : decode cL_refuses 124 = .ok (.iload 4, 2) := by decide +kernel
theorem dL_refuses_126 : decode cL_refuses 126 = .ok (.ifCond .eq 126, 3) := by decide +kernel
theorem dL_refuses_129 : decode cL_refuses 129 = .ok (.aload_n 0, 1) := by decide +kernel
theorem dL_refuses_130 : decode cL_refuses 130 = .ok (.iconst (-1), 1) := by decide +kernel
theorem dL_refuses_131 : decode cL_refuses 131 = .ok (.iconst 0, 1) := by decide +kernel
theorem dL_refuses_132 : decode cL_refuses 132 = .ok (.iconst 0, 1) := by decide +kernel
theorem dL_refuses_133 : decode cL_refuses 133 = .ok (.invokevirtual 96, 3) := by decide +kernel
theorem dL_refuses_136 : decode cL_refuses 136 = .ok (.ldc 16, 2) := by decide +kernel
theorem dL_refuses_138 : decode cL_refuses 138 = .ok (.if_icmp .ne 114, 3) := by decide +kernel
theorem dL_refuses_141 : decode cL_refuses 141 = .ok (.aload_n 0, 1) := by decide +kernel
theorem dL_refuses_142 : decode cL_refuses 142 = .ok (.iconst 5, 1) := by decide +kernel
theorem dL_refuses_143 : decode cL_refuses 143 = .ok (.iconst 5, 1) := by decide +kernel
theorem dL_refuses_144 : decode cL_refuses 144 = .ok (.invokevirtual 65, 3) := by decide +kernel
theorem dL_refuses_147 : decode cL_refuses 147 = .ok (.ldc 15, 2) := by decide +kernel
theorem dL_refuses_149 : decode cL_refuses 149 = .ok (.if_icmp .ne 103, 3) := by decide +kernel
theorem dL_refuses_152 : decode cL_refuses 152 = .ok (.aload_n 0, 1) := by decide +kernel
theorem dL_refuses_153 : decode cL_refuses 153 = .ok (.iconst (-1), 1) := by decide +kernel
theorem dL_refuses_154 : decode cL_refuses 154 = .ok (.iconst 0, 1) := by decide +kernel
theorem dL_refuses_155 : decode cL_refuses 155 = .ok (.invokevirtual 36, 3) := by decide +kernel
theorem dL_refuses_158 : decode cL_refuses 158 = .ok (.ldc 16, 2) := by decide +kernel
theorem dL_refuses_160 : decode cL_refuses 160 = .ok (.if_icmp .ne 92, 3) := by decide +kernel
theorem dL_refuses_163 : decode cL_refuses 163 = .ok (.aload_n 0, 1) := by decide +kernel
theorem dL_refuses_164 : decode cL_refuses 164 = .ok (.iconst (-1), 1) := by decide +kernel
theorem dL_refuses_165 : decode cL_refuses 165 = .ok (.iconst 0, 1) := by decide +kernel
theorem dL_refuses_166 : decode cL_refuses 166 = .ok (.invokevirtual 41, 3) := by decide +kernel
theorem dL_refuses_169 : decode cL_refuses 169 = .ok (.ldc 16, 2) := by decide +kernel
theorem dL_refuses_171 : decode cL_refuses 171 = .ok (.if_icmp .ne 81, 3) := by decide +kernel
theorem dL_refuses_174 : decode cL_refuses 174 = .ok (.aload_n 0, 1) := by decide +kernel
theorem dL_refuses_175 : decode cL_refuses 175 = .ok (.iconst (-1), 1) := by decide +kernel
theorem dL_refuses_176 : decode cL_refuses 176 = .ok (.invokevirtual 68, 3) := by decide +kernel
theorem dL_refuses_179 : decode cL_refuses 179 = .ok (.ldc 16, 2) := by decide +kernel
theorem dL_refuses_181 : decode cL_refuses 181 = .ok (.if_icmp .ne 71, 3) := by decide +kernel
theorem dL_refuses_184 : decode cL_refuses 184 = .ok (.aload_n 0, 1) := by decide +kernel
theorem dL_refuses_185 : decode cL_refuses 185 = .ok (.iconst (-1), 1) := by decide +kernel
theorem dL_refuses_186 : decode cL_refuses 186 = .ok (.invokevirtual 100, 3) := by decide +kernel
theorem dL_refuses_189 : decode cL_refuses 189 = .ok (.ldc 15, 2) := by decide +kernel
theorem dL_refuses_191 : decode cL_refuses 191 = .ok (.if_icmp .ne 61, 3) := by decide +kernel
theorem dL_refuses_194 : decode cL_refuses 194 = .ok (.aload_n 0, 1) := by decide +kernel
theorem dL_refuses_195 : decode cL_refuses 195 = .ok (.iconst (-1), 1) := by decide +kernel
theorem dL_refuses_196 : decode cL_refuses 196 = .ok (.iconst 1, 1) := by decide +kernel
theorem dL_refuses_197 : decode cL_refuses 197 = .ok (.invokevirtual 86, 3) := by decide +kernel
theorem dL_refuses_200 : decode cL_refuses 200 = .ok (.ldc 16, 2) := by decide +kernel
theorem dL_refuses_202 : decode cL_refuses 202 = .ok (.if_icmp .ne 50, 3) := by decide +kernel
theorem dL_refuses_205 : decode cL_refuses 205 = .ok (.aload_n 0, 1) := by decide +kernel
theorem dL_refuses_206 : decode cL_refuses 206 = .ok (.iload_n 1, 1) := by decide +kernel
theorem dL_refuses_207 : decode cL_refuses 207 = .ok (.iconst 1, 1) := by decide +kernel
theorem dL_refuses_208 : decode cL_refuses 208 = .ok (.iadd, 1) := by decide +kernel
theorem dL_refuses_209 : decode cL_refuses 209 = .ok (.iconst 0, 1) := by decide +kernel
theorem dL_refuses_210 : decode cL_refuses 210 = .ok (.invokevirtual 77, 3) := by decide +kernel
theorem dL_refuses_213 : decode cL_refuses 213 = .ok (.ldc 16, 2) := by decide +kernel
theorem dL_refuses_215 : decode cL_refuses 215 = .ok (.if_icmp .ne 37, 3) := by decide +kernel
theorem dL_refuses_218 : decode cL_refuses 218 = .ok (.aload_n 0, 1) := by decide +kernel
theorem dL_refuses_219 : decode cL_refuses 219 = .ok (.iconst (-1), 1) := by decide +kernel
theorem dL_refuses_220 : decode cL_refuses 220 = .ok (.invokevirtual 80, 3) := by decide +kernel
theorem dL_refuses_223 : decode cL_refuses 223 = .ok (.ldc 16, 2) := by decide +kernel
theorem dL_refuses_225 : decode cL_refuses 225 = .ok (.if_icmp .ne 27, 3) := by decide +kernel
theorem dL_refuses_228 : decode cL_refuses 228 = .ok (.aload_n 0, 1) := by decide +kernel
theorem dL_refuses_229 : decode cL_refuses 229 = .ok (.iconst 2, 1) := by decide +kernel
theorem dL_refuses_230 : decode cL_refuses 230 = .ok (.invokevirtual 48, 3) := by decide +kernel
theorem dL_refuses_233 : decode cL_refuses 233 = .ok (.ldc 16, 2) := by decide +kernel
theorem dL_refuses_235 : decode cL_refuses 235 = .ok (.if_icmp .ne 17, 3) := by decide +kernel
theorem dL_refuses_238 : decode cL_refuses 238 = .ok (.aload_n 0, 1) := by decide +kernel
theorem dL_refuses_239 : decode cL_refuses 239 = .ok (.iconst (-1), 1) := by decide +kernel
theorem dL_refuses_240 : decode cL_refuses 240 = .ok (.invokevirtual 62, 3) := by decide +kernel
theorem dL_refuses_243 : decode cL_refuses 243 = .ok (.ldc 16, 2) := by decide +kernel
theorem dL_refuses_245 : decode cL_refuses 245 = .ok (.if_icmp .ne 7, 3) := by decide +kernel
theorem dL_refuses_248 : decode cL_refuses 248 = .ok (.iconst 1, 1) := by decide +kernel
theorem dL_refuses_249 : decode cL_refuses 249 = .ok (.goto 4, 3) := by decide +kernel
theorem dL_refuses_252 : decode cL_refuses 252 = .ok (.iconst 0, 1) := by decide +kernel
theorem dL_refuses_253 : decode cL_refuses 253 = .ok (.istore 4, 2) := by decide +kernel
theorem dL_refuses_255 : decode cL_refuses 255 = .ok (.iload 4, 2) := by decide +kernel
theorem dL_refuses_257 : decode cL_refuses 257 = .ok (.ifCond .eq 16, 3) := by decide +kernel
theorem dL_refuses_260 : decode cL_refuses 260 = .ok (.aload_n 0, 1) := by decide +kernel
theorem dL_refuses_261 : decode cL_refuses 261 = .ok (.invokevirtual 44, 3) := by decide +kernel
theorem dL_refuses_264 : decode cL_refuses 264 = .ok (.lload_n 2, 1) := by decide +kernel
theorem dL_refuses_265 : decode cL_refuses 265 = .ok (.lcmp, 1) := by decide +kernel
theorem dL_refuses_266 : decode cL_refuses 266 = .ok (.ifCond .ne 7, 3) := by decide +kernel
theorem dL_refuses_269 : decode cL_refuses 269 = .ok (.iconst 1, 1) := by decide +kernel
theorem dL_refuses_270 : decode cL_refuses 270 = .ok (.goto 4, 3) := by decide +kernel
theorem dL_refuses_273 : decode cL_refuses 273 = .ok (.iconst 0, 1) := by decide +kernel
theorem dL_refuses_274 : decode cL_refuses 274 = .ok (.ireturn, 1) := by decide +kernel
theorem dL_law_0 : decode cL_law 0 = .ok (.new 10, 3) := by decide +kernel
theorem dL_law_3 : decode cL_law 3 = .ok (.dup, 1) := by decide +kernel
theorem dL_law_4 : decode cL_law 4 = .ok (.invokespecial 103, 3) := by decide +kernel
theorem dL_law_7 : decode cL_law 7 = .ok (.astore_n 1, 1) := by decide +kernel
theorem dL_law_8 : decode cL_law 8 = .ok (.bipush 24, 2) := by decide +kernel
theorem dL_law_10 : decode cL_law 10 = .ok (.newarray .int, 2) := by decide +kernel
theorem dL_law_12 : decode cL_law 12 = .ok (.astore_n 2, 1) := by decide +kernel
theorem dL_law_13 : decode cL_law 13 = .ok (.iconst 3, 1) := by decide +kernel
theorem dL_law_14 : decode cL_law 14 = .ok (.newarray .int, 2) := by decide +kernel
theorem dL_law_16 : decode cL_law 16 = .ok (.astore_n 3, 1) := by decide +kernel
theorem dL_law_17 : decode cL_law 17 = .ok (.aload_n 2, 1) := by decide +kernel
theorem dL_law_18 : decode cL_law 18 = .ok (.aload_n 3, 1) := by decide +kernel
theorem dL_law_19 : decode cL_law 19 = .ok (.iconst 4, 1) := by decide +kernel
theorem dL_law_20 : decode cL_law 20 = .ok (.invokestatic 104, 3) := by decide +kernel
theorem dL_law_23 : decode cL_law 23 = .ok (.aload_n 3, 1) := by decide +kernel
theorem dL_law_24 : decode cL_law 24 = .ok (.iconst 1, 1) := by decide +kernel
theorem dL_law_25 : decode cL_law 25 = .ok (.iconst 4, 1) := by decide +kernel
theorem dL_law_26 : decode cL_law 26 = .ok (.iastore, 1) := by decide +kernel
theorem dL_law_27 : decode cL_law 27 = .ok (.aload_n 1, 1) := by decide +kernel
theorem dL_law_28 : decode cL_law 28 = .ok (.iconst 1, 1) := by decide +kernel
theorem dL_law_29 : decode cL_law 29 = .ok (.invokevirtual 62, 3) := by decide +kernel
theorem dL_law_32 : decode cL_law 32 = .ok (.ldc 110, 2) := by decide +kernel
theorem dL_law_34 : decode cL_law 34 = .ok (.if_icmp .ne 31, 3) := by decide +kernel
theorem dL_law_37 : decode cL_law 37 = .ok (.aload_n 1, 1) := by decide +kernel
theorem dL_law_38 : decode cL_law 38 = .ok (.invokevirtual 111, 3) := by decide +kernel
theorem dL_law_41 : decode cL_law 41 = .ok (.iconst 1, 1) := by decide +kernel
theorem dL_law_42 : decode cL_law 42 = .ok (.if_icmp .ne 23, 3) := by decide +kernel
theorem dL_law_45 : decode cL_law 45 = .ok (.aload_n 1, 1) := by decide +kernel
theorem dL_law_46 : decode cL_law 46 = .ok (.invokevirtual 27, 3) := by decide +kernel
theorem dL_law_49 : decode cL_law 49 = .ok (.ifCond .ne 16, 3) := by decide +kernel
theorem dL_law_52 : decode cL_law 52 = .ok (.aload_n 1, 1) := by decide +kernel
theorem dL_law_53 : decode cL_law 53 = .ok (.invokevirtual 71, 3) := by decide +kernel
theorem dL_law_56 : decode cL_law 56 = .ok (.ldc 110, 2) := by decide +kernel
theorem dL_law_58 : decode cL_law 58 = .ok (.if_icmp .ne 7, 3) := by decide +kernel
theorem dL_law_61 : decode cL_law 61 = .ok (.iconst 1, 1) := by decide +kernel
theorem dL_law_62 : decode cL_law 62 = .ok (.goto 4, 3) := by decide +kernel
theorem dL_law_65 : decode cL_law 65 = .ok (.iconst 0, 1) := by decide +kernel
theorem dL_law_66 : decode cL_law 66 = .ok (.istore 4, 2) := by decide +kernel
theorem dL_law_68 : decode cL_law 68 = .ok (.iconst 0, 1) := by decide +kernel
theorem dL_law_69 : decode cL_law 69 = .ok (.istore 5, 2) := by decide +kernel
theorem dL_law_71 : decode cL_law 71 = .ok (.iload 5, 2) := by decide +kernel
theorem dL_law_73 : decode cL_law 73 = .ok (.bipush 8, 2) := by decide +kernel
theorem dL_law_75 : decode cL_law 75 = .ok (.if_icmp .ge 368, 3) := by decide +kernel
theorem dL_law_78 : decode cL_law 78 = .ok (.iload 4, 2) := by decide +kernel
theorem dL_law_80 : decode cL_law 80 = .ok (.ifCond .eq 363, 3) := by decide +kernel
theorem dL_law_83 : decode cL_law 83 = .ok (.aload_n 0, 1) := by decide +kernel
theorem dL_law_84 : decode cL_law 84 = .ok (.iconst 2, 1) := by decide +kernel
theorem dL_law_85 : decode cL_law 85 = .ok (.iload 5, 2) := by decide +kernel
theorem dL_law_87 : decode cL_law 87 = .ok (.imul, 1) := by decide +kernel
theorem dL_law_88 : decode cL_law 88 = .ok (.invokestatic 114, 3) := by decide +kernel
theorem dL_law_91 : decode cL_law 91 = .ok (.istore 6, 2) := by decide +kernel
theorem dL_law_93 : decode cL_law 93 = .ok (.aload_n 0, 1) := by decide +kernel
theorem dL_law_94 : decode cL_law 94 = .ok (.iconst 2, 1) := by decide +kernel
theorem dL_law_95 : decode cL_law 95 = .ok (.iload 5, 2) := by decide +kernel
theorem dL_law_97 : decode cL_law 97 = .ok (.imul, 1) := by decide +kernel
theorem dL_law_98 : decode cL_law 98 = .ok (.iconst 1, 1) := by decide +kernel
theorem dL_law_99 : decode cL_law 99 = .ok (.iadd, 1) := by decide +kernel
theorem dL_law_100 : decode cL_law 100 = .ok (.invokestatic 114, 3) := by decide +kernel
theorem dL_law_103 : decode cL_law 103 = .ok (.istore 7, 2) := by decide +kernel
theorem dL_law_105 : decode cL_law 105 = .ok (.aload_n 3, 1) := by decide +kernel
theorem dL_law_106 : decode cL_law 106 = .ok (.iconst 0, 1) := by decide +kernel
theorem dL_law_107 : decode cL_law 107 = .ok (.iaload, 1) := by decide +kernel
theorem dL_law_108 : decode cL_law 108 = .ok (.istore 8, 2) := by decide +kernel
theorem dL_law_110 : decode cL_law 110 = .ok (.aload_n 2, 1) := by decide +kernel
theorem dL_law_111 : decode cL_law 111 = .ok (.aload_n 3, 1) := by decide +kernel
theorem dL_law_112 : decode cL_law 112 = .ok (.iconst 1, 1) := by decide +kernel
theorem dL_law_113 : decode cL_law 113 = .ok (.iload 6, 2) := by decide +kernel
theorem dL_law_115 : decode cL_law 115 = .ok (.bipush 8, 2) := by decide +kernel
theorem dL_law_117 : decode cL_law 117 = .ok (.irem, 1) := by decide +kernel
theorem dL_law_118 : decode cL_law 118 = .ok (.iadd, 1) := by decide +kernel
theorem dL_law_119 : decode cL_law 119 = .ok (.invokestatic 104, 3) := by decide +kernel
theorem dL_law_122 : decode cL_law 122 = .ok (.aload_n 1, 1) := by decide +kernel
theorem dL_law_123 : decode cL_law 123 = .ok (.aload_n 3, 1) := by decide +kernel
theorem dL_law_124 : decode cL_law 124 = .ok (.iconst 0, 1) := by decide +kernel
theorem dL_law_125 : decode cL_law 125 = .ok (.iaload, 1) := by decide +kernel
theorem dL_law_126 : decode cL_law 126 = .ok (.invokevirtual 90, 3) := by decide +kernel
theorem dL_law_129 : decode cL_law 129 = .ok (.iload 8, 2) := by decide +kernel
theorem dL_law_131 : decode cL_law 131 = .ok (.if_icmp .ne 107, 3) := by decide +kernel
theorem dL_law_134 : decode cL_law 134 = .ok (.aload_n 1, 1) := by decide +kernel
theorem dL_law_135 : decode cL_law 135 = .ok (.aload_n 2, 1) := by decide +kernel
theorem dL_law_136 : decode cL_law 136 = .ok (.aload_n 3, 1) := by decide +kernel
theorem dL_law_137 : decode cL_law 137 = .ok (.bipush 7, 2) := by decide +kernel
theorem dL_law_139 : decode cL_law 139 = .ok (.bipush 64, 2) := by decide +kernel
theorem dL_law_141 : decode cL_law 141 = .ok (.iload 6, 2) := by decide +kernel
theorem dL_law_143 : decode cL_law 143 = .ok (.bipush 9, 2) := by decide +kernel
theorem dL_law_145 : decode cL_law 145 = .ok (.ishr, 1) := by decide +kernel
theorem dL_law_146 : decode cL_law 146 = .ok (.iconst 1, 1) := by decide +kernel
theorem dL_law_147 : decode cL_law 147 = .ok (.iand, 1) := by decide +kernel
theorem dL_law_148 : decode cL_law 148 = .ok (.imul, 1) := by decide +kernel
theorem dL_law_149 : decode cL_law 149 = .ok (.iadd, 1) := by decide +kernel
theorem dL_law_150 : decode cL_law 150 = .ok (.invokestatic 118, 3) := by decide +kernel
theorem dL_law_153 : decode cL_law 153 = .ok (.ifCond .eq 85, 3) := by decide +kernel
theorem dL_law_156 : decode cL_law 156 = .ok (.iload 6, 2) := by decide +kernel
theorem dL_law_158 : decode cL_law 158 = .ok (.iconst 5, 1) := by decide +kernel
theorem dL_law_159 : decode cL_law 159 = .ok (.irem, 1) := by decide +kernel
theorem dL_law_160 : decode cL_law 160 = .ok (.ifCond .eq 14, 3) := by decide +kernel
theorem dL_law_163 : decode cL_law 163 = .ok (.aload_n 1, 1) := by decide +kernel
theorem dL_law_164 : decode cL_law 164 = .ok (.aload_n 2, 1) := by decide +kernel
theorem dL_law_165 : decode cL_law 165 = .ok (.aload_n 3, 1) := by decide +kernel
theorem dL_law_166 : decode cL_law 166 = .ok (.iload 7, 2) := by decide +kernel
theorem dL_law_168 : decode cL_law 168 = .ok (.invokestatic 122, 3) := by decide +kernel
theorem dL_law_171 : decode cL_law 171 = .ok (.ifCond .eq 67, 3) := by decide +kernel
theorem dL_law_174 : decode cL_law 174 = .ok (.aload_n 1, 1) := by decide +kernel
theorem dL_law_175 : decode cL_law 175 = .ok (.aload_n 2, 1) := by decide +kernel
theorem dL_law_176 : decode cL_law 176 = .ok (.aload_n 3, 1) := by decide +kernel
theorem dL_law_177 : decode cL_law 177 = .ok (.iconst 3, 1) := by decide +kernel
theorem dL_law_178 : decode cL_law 178 = .ok (.iload 6, 2) := by decide +kernel
theorem dL_law_180 : decode cL_law 180 = .ok (.bipush 7, 2) := by decide +kernel
theorem dL_law_182 : decode cL_law 182 = .ok (.ishr, 1) := by decide +kernel
theorem dL_law_183 : decode cL_law 183 = .ok (.bipush (-8), 2) := by decide +kernel
theorem dL_law_185 : decode cL_law 185 = .ok (.iand, 1) := by decide +kernel
theorem dL_law_186 : decode cL_law 186 = .ok (.iadd, 1) := by decide +kernel
theorem dL_law_187 : decode cL_law 187 = .ok (.invokestatic 118, 3) := by decide +kernel
theorem dL_law_190 : decode cL_law 190 = .ok (.ifCond .eq 48, 3) := by decide +kernel
theorem dL_law_193 : decode cL_law 193 = .ok (.aload_n 1, 1) := by decide +kernel
theorem dL_law_194 : decode cL_law 194 = .ok (.aload_n 2, 1) := by decide +kernel
theorem dL_law_195 : decode cL_law 195 = .ok (.aload_n 3, 1) := by decide +kernel
theorem dL_law_196 : decode cL_law 196 = .ok (.iconst 5, 1) := by decide +kernel
theorem dL_law_197 : decode cL_law 197 = .ok (.iload 7, 2) := by decide +kernel
theorem dL_law_199 : decode cL_law 199 = .ok (.iconst 4, 1) := by decide +kernel
theorem dL_law_200 : decode cL_law 200 = .ok (.ishr, 1) := by decide +kernel
theorem dL_law_201 : decode cL_law 201 = .ok (.bipush (-8), 2) := by decide +kernel
theorem dL_law_203 : decode cL_law 203 = .ok (.iand, 1) := by decide +kernel
theorem dL_law_204 : decode cL_law 204 = .ok (.iadd, 1) := by decide +kernel
theorem dL_law_205 : decode cL_law 205 = .ok (.invokestatic 118, 3) := by decide +kernel
theorem dL_law_208 : decode cL_law 208 = .ok (.ifCond .eq 30, 3) := by decide +kernel
theorem dL_law_211 : decode cL_law 211 = .ok (.iload 7, 2) := by decide +kernel
theorem dL_law_213 : decode cL_law 213 = .ok (.iconst 4, 1) := by decide +kernel
theorem dL_law_214 : decode cL_law 214 = .ok (.irem, 1) := by decide +kernel
theorem dL_law_215 : decode cL_law 215 = .ok (.ifCond .gt 19, 3) := by decide +kernel
theorem dL_law_218 : decode cL_law 218 = .ok (.aload_n 1, 1) := by decide +kernel
theorem dL_law_219 : decode cL_law 219 = .ok (.aload_n 2, 1) := by decide +kernel
theorem dL_law_220 : decode cL_law 220 = .ok (.aload_n 3, 1) := by decide +kernel
theorem dL_law_221 : decode cL_law 221 = .ok (.iload 6, 2) := by decide +kernel
theorem dL_law_223 : decode cL_law 223 = .ok (.iconst 3, 1) := by decide +kernel
theorem dL_law_224 : decode cL_law 224 = .ok (.ishr, 1) := by decide +kernel
theorem dL_law_225 : decode cL_law 225 = .ok (.bipush (-8), 2) := by decide +kernel
theorem dL_law_227 : decode cL_law 227 = .ok (.iand, 1) := by decide +kernel
theorem dL_law_228 : decode cL_law 228 = .ok (.invokestatic 118, 3) := by decide +kernel
theorem dL_law_231 : decode cL_law 231 = .ok (.ifCond .eq 7, 3) := by decide +kernel
theorem dL_law_234 : decode cL_law 234 = .ok (.iconst 1, 1) := by decide +kernel
theorem dL_law_235 : decode cL_law 235 = .ok (.goto 4, 3) := by decide +kernel
theorem dL_law_238 : decode cL_law 238 = .ok (.iconst 0, 1) := by decide +kernel
theorem dL_law_239 : decode cL_law 239 = .ok (.istore 4, 2) := by decide +kernel
theorem dL_law_241 : decode cL_law 241 = .ok (.iload 4, 2) := by decide +kernel
theorem dL_law_243 : decode cL_law 243 = .ok (.ifCond .eq 87, 3) := by decide +kernel
theorem dL_law_246 : decode cL_law 246 = .ok (.aload_n 1, 1) := by decide +kernel
theorem dL_law_247 : decode cL_law 247 = .ok (.iload 7, 2) := by decide +kernel
theorem dL_law_249 : decode cL_law 249 = .ok (.iconst 3, 1) := by decide +kernel
theorem dL_law_250 : decode cL_law 250 = .ok (.ishr, 1) := by decide +kernel
theorem dL_law_251 : decode cL_law 251 = .ok (.sipush 201, 3) := by decide +kernel
theorem dL_law_254 : decode cL_law 254 = .ok (.irem, 1) := by decide +kernel
theorem dL_law_255 : decode cL_law 255 = .ok (.bipush 100, 2) := by decide +kernel
theorem dL_law_257 : decode cL_law 257 = .ok (.isub, 1) := by decide +kernel
theorem dL_law_258 : decode cL_law 258 = .ok (.iload 7, 2) := by decide +kernel
theorem dL_law_260 : decode cL_law 260 = .ok (.bipush 12, 2) := by decide +kernel
theorem dL_law_262 : decode cL_law 262 = .ok (.ishr, 1) := by decide +kernel
theorem dL_law_263 : decode cL_law 263 = .ok (.bipush 12, 2) := by decide +kernel
theorem dL_law_265 : decode cL_law 265 = .ok (.irem, 1) := by decide +kernel
theorem dL_law_266 : decode cL_law 266 = .ok (.iload 7, 2) := by decide +kernel
theorem dL_law_268 : decode cL_law 268 = .ok (.bipush 16, 2) := by decide +kernel
theorem dL_law_270 : decode cL_law 270 = .ok (.ishr, 1) := by decide +kernel
theorem dL_law_271 : decode cL_law 271 = .ok (.sipush 200, 3) := by decide +kernel
theorem dL_law_274 : decode cL_law 274 = .ok (.irem, 1) := by decide +kernel
theorem dL_law_275 : decode cL_law 275 = .ok (.invokevirtual 58, 3) := by decide +kernel
theorem dL_law_278 : decode cL_law 278 = .ok (.ifCond .lt 52, 3) := by decide +kernel
theorem dL_law_281 : decode cL_law 281 = .ok (.aload_n 1, 1) := by decide +kernel
theorem dL_law_282 : decode cL_law 282 = .ok (.aload_n 3, 1) := by decide +kernel
theorem dL_law_283 : decode cL_law 283 = .ok (.iconst 0, 1) := by decide +kernel
theorem dL_law_284 : decode cL_law 284 = .ok (.iaload, 1) := by decide +kernel
theorem dL_law_285 : decode cL_law 285 = .ok (.invokestatic 125, 3) := by decide +kernel
theorem dL_law_288 : decode cL_law 288 = .ok (.ifCond .eq 42, 3) := by decide +kernel
theorem dL_law_291 : decode cL_law 291 = .ok (.aload_n 1, 1) := by decide +kernel
theorem dL_law_292 : decode cL_law 292 = .ok (.iload 6, 2) := by decide +kernel
theorem dL_law_294 : decode cL_law 294 = .ok (.sipush 201, 3) := by decide +kernel
theorem dL_law_297 : decode cL_law 297 = .ok (.irem, 1) := by decide +kernel
theorem dL_law_298 : decode cL_law 298 = .ok (.bipush 100, 2) := by decide +kernel
theorem dL_law_300 : decode cL_law 300 = .ok (.isub, 1) := by decide +kernel
theorem dL_law_301 : decode cL_law 301 = .ok (.iload 7, 2) := by decide +kernel
theorem dL_law_303 : decode cL_law 303 = .ok (.sipush 201, 3) := by decide +kernel
theorem dL_law_306 : decode cL_law 306 = .ok (.irem, 1) := by decide +kernel
theorem dL_law_307 : decode cL_law 307 = .ok (.bipush 100, 2) := by decide +kernel
theorem dL_law_309 : decode cL_law 309 = .ok (.isub, 1) := by decide +kernel
theorem dL_law_310 : decode cL_law 310 = .ok (.invokestatic 129, 3) := by decide +kernel
theorem dL_law_313 : decode cL_law 313 = .ok (.ifCond .eq 17, 3) := by decide +kernel
theorem dL_law_316 : decode cL_law 316 = .ok (.aload_n 1, 1) := by decide +kernel
theorem dL_law_317 : decode cL_law 317 = .ok (.aload_n 3, 1) := by decide +kernel
theorem dL_law_318 : decode cL_law 318 = .ok (.iconst 0, 1) := by decide +kernel
theorem dL_law_319 : decode cL_law 319 = .ok (.iaload, 1) := by decide +kernel
theorem dL_law_320 : decode cL_law 320 = .ok (.invokestatic 133, 3) := by decide +kernel
theorem dL_law_323 : decode cL_law 323 = .ok (.ifCond .eq 7, 3) := by decide +kernel
theorem dL_law_326 : decode cL_law 326 = .ok (.iconst 1, 1) := by decide +kernel
theorem dL_law_327 : decode cL_law 327 = .ok (.goto 4, 3) := by decide +kernel
theorem dL_law_330 : decode cL_law 330 = .ok (.iconst 0, 1) := by decide +kernel
theorem dL_law_331 : decode cL_law 331 = .ok (.istore 4, 2) := by decide +kernel
theorem dL_law_333 : decode cL_law 333 = .ok (.iload 4, 2) := by decide +kernel
theorem dL_law_335 : decode cL_law 335 = .ok (.ifCond .eq 102, 3) := by decide +kernel
theorem dL_law_338 : decode cL_law 338 = .ok (.aload_n 1, 1) := by decide +kernel
theorem dL_law_339 : decode cL_law 339 = .ok (.invokevirtual 27, 3) := by decide +kernel
theorem dL_law_342 : decode cL_law 342 = .ok (.ifCond .le 95, 3) := by decide +kernel
theorem dL_law_345 : decode cL_law 345 = .ok (.aload_n 1, 1) := by decide +kernel
theorem dL_law_346 : decode cL_law 346 = .ok (.aload_n 3, 1) := by decide +kernel
theorem dL_law_347 : decode cL_law 347 = .ok (.iconst 0, 1) := by decide +kernel
theorem dL_law_348 : decode cL_law 348 = .ok (.iaload, 1) := by decide +kernel
theorem dL_law_349 : decode cL_law 349 = .ok (.bipush 6, 2) := by decide +kernel
theorem dL_law_351 : decode cL_law 351 = .ok (.aload_n 3, 1) := by decide +kernel
theorem dL_law_352 : decode cL_law 352 = .ok (.iconst 1, 1) := by decide +kernel
theorem dL_law_353 : decode cL_law 353 = .ok (.iaload, 1) := by decide +kernel
theorem dL_law_354 : decode cL_law 354 = .ok (.imul, 1) := by decide +kernel
theorem dL_law_355 : decode cL_law 355 = .ok (.iload 7, 2) := by decide +kernel
theorem dL_law_357 : decode cL_law 357 = .ok (.aload_n 1, 1) := by decide +kernel
theorem dL_law_358 : decode cL_law 358 = .ok (.invokevirtual 27, 3) := by decide +kernel
theorem dL_law_361 : decode cL_law 361 = .ok (.irem, 1) := by decide +kernel
theorem dL_law_362 : decode cL_law 362 = .ok (.iload 6, 2) := by decide +kernel
theorem dL_law_364 : decode cL_law 364 = .ok (.iconst 4, 1) := by decide +kernel
theorem dL_law_365 : decode cL_law 365 = .ok (.ishr, 1) := by decide +kernel
theorem dL_law_366 : decode cL_law 366 = .ok (.invokestatic 136, 3) := by decide +kernel
theorem dL_law_369 : decode cL_law 369 = .ok (.ifCond .eq 65, 3) := by decide +kernel
theorem dL_law_372 : decode cL_law 372 = .ok (.aload_n 1, 1) := by decide +kernel
theorem dL_law_373 : decode cL_law 373 = .ok (.iload 7, 2) := by decide +kernel
theorem dL_law_375 : decode cL_law 375 = .ok (.aload_n 3, 1) := by decide +kernel
theorem dL_law_376 : decode cL_law 376 = .ok (.iconst 0, 1) := by decide +kernel
theorem dL_law_377 : decode cL_law 377 = .ok (.iaload, 1) := by decide +kernel
theorem dL_law_378 : decode cL_law 378 = .ok (.irem, 1) := by decide +kernel
theorem dL_law_379 : decode cL_law 379 = .ok (.iconst 0, 1) := by decide +kernel
theorem dL_law_380 : decode cL_law 380 = .ok (.invokevirtual 86, 3) := by decide +kernel
theorem dL_law_383 : decode cL_law 383 = .ok (.ifCond .lt 51, 3) := by decide +kernel
theorem dL_law_386 : decode cL_law 386 = .ok (.aload_n 1, 1) := by decide +kernel
theorem dL_law_387 : decode cL_law 387 = .ok (.invokevirtual 71, 3) := by decide +kernel
theorem dL_law_390 : decode cL_law 390 = .ok (.ifCond .lt 30, 3) := by decide +kernel
theorem dL_law_393 : decode cL_law 393 = .ok (.aload_n 1, 1) := by decide +kernel
theorem dL_law_394 : decode cL_law 394 = .ok (.aload_n 3, 1) := by decide +kernel
theorem dL_law_395 : decode cL_law 395 = .ok (.iconst 0, 1) := by decide +kernel
theorem dL_law_396 : decode cL_law 396 = .ok (.iaload, 1) := by decide +kernel
theorem dL_law_397 : decode cL_law 397 = .ok (.bipush 6, 2) := by decide +kernel
theorem dL_law_399 : decode cL_law 399 = .ok (.aload_n 3, 1) := by decide +kernel
theorem dL_law_400 : decode cL_law 400 = .ok (.iconst 1, 1) := by decide +kernel
theorem dL_law_401 : decode cL_law 401 = .ok (.iaload, 1) := by decide +kernel
theorem dL_law_402 : decode cL_law 402 = .ok (.imul, 1) := by decide +kernel
theorem dL_law_403 : decode cL_law 403 = .ok (.iload 6, 2) := by decide +kernel
theorem dL_law_405 : decode cL_law 405 = .ok (.aload_n 1, 1) := by decide +kernel
theorem dL_law_406 : decode cL_law 406 = .ok (.invokevirtual 27, 3) := by decide +kernel
theorem dL_law_409 : decode cL_law 409 = .ok (.irem, 1) := by decide +kernel
theorem dL_law_410 : decode cL_law 410 = .ok (.iload 7, 2) := by decide +kernel
theorem dL_law_412 : decode cL_law 412 = .ok (.iconst 5, 1) := by decide +kernel
theorem dL_law_413 : decode cL_law 413 = .ok (.ishr, 1) := by decide +kernel
theorem dL_law_414 : decode cL_law 414 = .ok (.invokestatic 136, 3) := by decide +kernel
theorem dL_law_417 : decode cL_law 417 = .ok (.ifCond .eq 17, 3) := by decide +kernel
theorem dL_law_420 : decode cL_law 420 = .ok (.aload_n 1, 1) := by decide +kernel
theorem dL_law_421 : decode cL_law 421 = .ok (.aload_n 3, 1) := by decide +kernel
theorem dL_law_422 : decode cL_law 422 = .ok (.iconst 0, 1) := by decide +kernel
theorem dL_law_423 : decode cL_law 423 = .ok (.iaload, 1) := by decide +kernel
theorem dL_law_424 : decode cL_law 424 = .ok (.invokestatic 133, 3) := by decide +kernel
theorem dL_law_427 : decode cL_law 427 = .ok (.ifCond .eq 7, 3) := by decide +kernel
theorem dL_law_430 : decode cL_law 430 = .ok (.iconst 1, 1) := by decide +kernel
theorem dL_law_431 : decode cL_law 431 = .ok (.goto 4, 3) := by decide +kernel
theorem dL_law_434 : decode cL_law 434 = .ok (.iconst 0, 1) := by decide +kernel
theorem dL_law_435 : decode cL_law 435 = .ok (.istore 4, 2) := by decide +kernel
theorem dL_law_437 : decode cL_law 437 = .ok (.iinc 5 1, 3) := by decide +kernel
theorem dL_law_440 : decode cL_law 440 = .ok (.goto (-369), 3) := by decide +kernel
theorem dL_law_443 : decode cL_law 443 = .ok (.aload_n 1, 1) := by decide +kernel
theorem dL_law_444 : decode cL_law 444 = .ok (.invokevirtual 44, 3) := by decide +kernel
theorem dL_law_447 : decode cL_law 447 = .ok (.lstore 5, 2) := by decide +kernel
theorem dL_law_449 : decode cL_law 449 = .ok (.aload_n 3, 1) := by decide +kernel
theorem dL_law_450 : decode cL_law 450 = .ok (.iconst 0, 1) := by decide +kernel
theorem dL_law_451 : decode cL_law 451 = .ok (.iaload, 1) := by decide +kernel
theorem dL_law_452 : decode cL_law 452 = .ok (.istore 7, 2) := by decide +kernel
theorem dL_law_454 : decode cL_law 454 = .ok (.iload 4, 2) := by decide +kernel
theorem dL_law_456 : decode cL_law 456 = .ok (.ifCond .eq 44, 3) := by decide +kernel
theorem dL_law_459 : decode cL_law 459 = .ok (.aload_n 1, 1) := by decide +kernel
theorem dL_law_460 : decode cL_law 460 = .ok (.iconst 1, 1) := by decide +kernel
theorem dL_law_461 : decode cL_law 461 = .ok (.invokevirtual 48, 3) := by decide +kernel
theorem dL_law_464 : decode cL_law 464 = .ok (.iload 7, 2) := by decide +kernel
theorem dL_law_466 : decode cL_law 466 = .ok (.if_icmp .ne 34, 3) := by decide +kernel
theorem dL_law_469 : decode cL_law 469 = .ok (.aload_n 1, 1) := by decide +kernel
theorem dL_law_470 : decode cL_law 470 = .ok (.iconst 5, 1) := by decide +kernel
theorem dL_law_471 : decode cL_law 471 = .ok (.invokevirtual 90, 3) := by decide +kernel
theorem dL_law_474 : decode cL_law 474 = .ok (.iload 7, 2) := by decide +kernel
theorem dL_law_476 : decode cL_law 476 = .ok (.if_icmp .ne 24, 3) := by decide +kernel
theorem dL_law_479 : decode cL_law 479 = .ok (.aload_n 1, 1) := by decide +kernel
theorem dL_law_480 : decode cL_law 480 = .ok (.invokevirtual 27, 3) := by decide +kernel
theorem dL_law_483 : decode cL_law 483 = .ok (.ifCond .ne 17, 3) := by decide +kernel
theorem dL_law_486 : decode cL_law 486 = .ok (.aload_n 1, 1) := by decide +kernel
theorem dL_law_487 : decode cL_law 487 = .ok (.iconst 1, 1) := by decide +kernel
theorem dL_law_488 : decode cL_law 488 = .ok (.invokevirtual 62, 3) := by decide +kernel
theorem dL_law_491 : decode cL_law 491 = .ok (.iload 7, 2) := by decide +kernel
theorem dL_law_493 : decode cL_law 493 = .ok (.if_icmp .ne 7, 3) := by decide +kernel
theorem dL_law_496 : decode cL_law 496 = .ok (.iconst 1, 1) := by decide +kernel
theorem dL_law_497 : decode cL_law 497 = .ok (.goto 4, 3) := by decide +kernel
theorem dL_law_500 : decode cL_law 500 = .ok (.iconst 0, 1) := by decide +kernel
theorem dL_law_501 : decode cL_law 501 = .ok (.istore 4, 2) := by decide +kernel
theorem dL_law_503 : decode cL_law 503 = .ok (.iload 4, 2) := by decide +kernel
theorem dL_law_505 : decode cL_law 505 = .ok (.ifCond .eq 17, 3) := by decide +kernel
theorem dL_law_508 : decode cL_law 508 = .ok (.aload_n 1, 1) := by decide +kernel
theorem dL_law_509 : decode cL_law 509 = .ok (.invokevirtual 44, 3) := by decide +kernel
theorem dL_law_512 : decode cL_law 512 = .ok (.lload 5, 2) := by decide +kernel
theorem dL_law_514 : decode cL_law 514 = .ok (.lcmp, 1) := by decide +kernel
theorem dL_law_515 : decode cL_law 515 = .ok (.ifCond .ne 7, 3) := by decide +kernel
theorem dL_law_518 : decode cL_law 518 = .ok (.iconst 1, 1) := by decide +kernel
theorem dL_law_519 : decode cL_law 519 = .ok (.goto 4, 3) := by decide +kernel
theorem dL_law_522 : decode cL_law 522 = .ok (.iconst 0, 1) := by decide +kernel
theorem dL_law_523 : decode cL_law 523 = .ok (.ireturn, 1) := by decide +kernel
theorem dM_abs_0 : decode Lib.Math.abs.code 0 = .ok (.iload_n 0, 1) := by decide +kernel
theorem dM_abs_1 : decode Lib.Math.abs.code 1 = .ok (.ifCond .ge 8, 3) := by decide +kernel
theorem dM_abs_4 : decode Lib.Math.abs.code 4 = .ok (.iload_n 0, 1) := by decide +kernel
theorem dM_abs_5 : decode Lib.Math.abs.code 5 = .ok (.ineg, 1) := by decide +kernel
theorem dM_abs_6 : decode Lib.Math.abs.code 6 = .ok (.goto 4, 3) := by decide +kernel
theorem dM_abs_9 : decode Lib.Math.abs.code 9 = .ok (.iload_n 0, 1) := by decide +kernel
theorem dM_abs_10 : decode Lib.Math.abs.code 10 = .ok (.ireturn, 1) := by decide +kernel
theorem dM_max_0 : decode Lib.Math.max.code 0 = .ok (.iload_n 0, 1) := by decide +kernel
theorem dM_max_1 : decode Lib.Math.max.code 1 = .ok (.iload_n 1, 1) := by decide +kernel
theorem dM_max_2 : decode Lib.Math.max.code 2 = .ok (.if_icmp .lt 7, 3) := by decide +kernel
theorem dM_max_5 : decode Lib.Math.max.code 5 = .ok (.iload_n 0, 1) := by decide +kernel
theorem dM_max_6 : decode Lib.Math.max.code 6 = .ok (.goto 4, 3) := by decide +kernel
theorem dM_max_9 : decode Lib.Math.max.code 9 = .ok (.iload_n 1, 1) := by decide +kernel
theorem dM_max_10 : decode Lib.Math.max.code 10 = .ok (.ireturn, 1) := by decide +kernel
theorem dM_min_0 : decode Lib.Math.min.code 0 = .ok (.iload_n 0, 1) := by decide +kernel
theorem dM_min_1 : decode Lib.Math.min.code 1 = .ok (.iload_n 1, 1) := by decide +kernel
theorem dM_min_2 : decode Lib.Math.min.code 2 = .ok (.if_icmp .gt 7, 3) := by decide +kernel
theorem dM_min_5 : decode Lib.Math.min.code 5 = .ok (.iload_n 0, 1) := by decide +kernel
theorem dM_min_6 : decode Lib.Math.min.code 6 = .ok (.goto 4, 3) := by decide +kernel
theorem dM_min_9 : decode Lib.Math.min.code 9 = .ok (.iload_n 1, 1) := by decide +kernel
theorem dM_min_10 : decode Lib.Math.min.code 10 = .ok (.ireturn, 1) := by decide +kernel
