theorem dL_flaws_0 : decode cL_flaws 0 = .ok (.iconst 0, 1) := by decide +kernel
theorem dL_flaws_1 : decode cL_flaws 1 = .ok (.istore_n 1, 1) := by decide +kernel
theorem dL_flaws_2 : decode cL_flaws 2 = .ok (.iload_n 1, 1) := by decide +kernel
theorem dL_flaws_3 : decode cL_flaws 3 = .ok (.aload_n 0, 1) := by decide +kernel
theorem dL_flaws_4 : decode cL_flaws 4 = .ok (.bipush 6, 2) := by decide +kernel
theorem dL_flaws_6 : decode cL_flaws 6 = .ok (.invokestatic 98, 3) := by decide +kernel
theorem dL_flaws_9 : decode cL_flaws 9 = .ok (.if_icmp .ge 359, 3) := by decide +kernel
theorem dL_flaws_12 : decode cL_flaws 12 = .ok (.iconst 0, 1) := by decide +kernel
theorem dL_flaws_13 : decode cL_flaws 13 = .ok (.istore_n 2, 1) := by decide +kernel
theorem dL_flaws_14 : decode cL_flaws 14 = .ok (.iload_n 2, 1) := by decide +kernel
theorem dL_flaws_15 : decode cL_flaws 15 = .ok (.iconst 4, 1) := by decide +kernel
theorem dL_flaws_16 : decode cL_flaws 16 = .ok (.if_icmp .ge 346, 3) := by decide +kernel
theorem dL_flaws_19 : decode cL_flaws 19 = .ok (.iconst 0, 1) := by decide +kernel
theorem dL_flaws_20 : decode cL_flaws 20 = .ok (.istore_n 3, 1) := by decide +kernel
theorem dL_flaws_21 : decode cL_flaws 21 = .ok (.iconst 0, 1) := by decide +kernel
theorem dL_flaws_22 : decode cL_flaws 22 = .ok (.istore 4, 2) := by decide +kernel
theorem dL_flaws_24 : decode cL_flaws 24 = .ok (.iconst 0, 1) := by decide +kernel
theorem dL_flaws_25 : decode cL_flaws 25 = .ok (.istore 5, 2) := by decide +kernel
theorem dL_flaws_27 : decode cL_flaws 27 = .ok (.iconst 0, 1) := by decide +kernel
theorem dL_flaws_28 : decode cL_flaws 28 = .ok (.istore 6, 2) := by decide +kernel
theorem dL_flaws_30 : decode cL_flaws 30 = .ok (.iconst 0, 1) := by decide +kernel
theorem dL_flaws_31 : decode cL_flaws 31 = .ok (.istore 7, 2) := by decide +kernel
theorem dL_flaws_33 : decode cL_flaws 33 = .ok (.aload_n 0, 1) := by decide +kernel
theorem dL_flaws_34 : decode cL_flaws 34 = .ok (.iload_n 1, 1) := by decide +kernel
theorem dL_flaws_35 : decode cL_flaws 35 = .ok (.iload_n 2, 1) := by decide +kernel
theorem dL_flaws_36 : decode cL_flaws 36 = .ok (.iload 5, 2) := by decide +kernel
theorem dL_flaws_38 : decode cL_flaws 38 = .ok (.invokestatic 113, 3) := by decide +kernel
theorem dL_flaws_41 : decode cL_flaws 41 = .ok (.ifCond .lt 166, 3) := by decide +kernel
theorem dL_flaws_44 : decode cL_flaws 44 = .ok (.aload_n 0, 1) := by decide +kernel
theorem dL_flaws_45 : decode cL_flaws 45 = .ok (.iload_n 1, 1) := by decide +kernel
theorem dL_flaws_46 : decode cL_flaws 46 = .ok (.iload_n 2, 1) := by decide +kernel
theorem dL_flaws_47 : decode cL_flaws 47 = .ok (.iload 5, 2) := by decide +kernel
theorem dL_flaws_49 : decode cL_flaws 49 = .ok (.invokestatic 113, 3) := by decide +kernel
theorem dL_flaws_52 : decode cL_flaws 52 = .ok (.istore 8, 2) := by decide +kernel
theorem dL_flaws_54 : decode cL_flaws 54 = .ok (.iload_n 3, 1) := by decide +kernel
theorem dL_flaws_55 : decode cL_flaws 55 = .ok (.aload_n 0, 1) := by decide +kernel
theorem dL_flaws_56 : decode cL_flaws 56 = .ok (.iload 8, 2) := by decide +kernel
theorem dL_flaws_58 : decode cL_flaws 58 = .ok (.iconst 2, 1) := by decide +kernel
theorem dL_flaws_59 : decode cL_flaws 59 = .ok (.invokestatic 116, 3) := by decide +kernel
theorem dL_flaws_62 : decode cL_flaws 62 = .ok (.iadd, 1) := by decide +kernel
theorem dL_flaws_63 : decode cL_flaws 63 = .ok (.istore_n 3, 1) := by decide +kernel
theorem dL_flaws_64 : decode cL_flaws 64 = .ok (.iload 4, 2) := by decide +kernel
theorem dL_flaws_66 : decode cL_flaws 66 = .ok (.iconst 1, 1) := by decide +kernel
theorem dL_flaws_67 : decode cL_flaws 67 = .ok (.aload_n 0, 1) := by decide +kernel
theorem dL_flaws_68 : decode cL_flaws 68 = .ok (.iload 8, 2) := by decide +kernel
theorem dL_flaws_70 : decode cL_flaws 70 = .ok (.iconst 1, 1) := by decide +kernel
theorem dL_flaws_71 : decode cL_flaws 71 = .ok (.invokestatic 116, 3) := by decide +kernel
theorem dL_flaws_74 : decode cL_flaws 74 = .ok (.ishl, 1) := by decide +kernel
theorem dL_flaws_75 : decode cL_flaws 75 = .ok (.ior, 1) := by decide +kernel
theorem dL_flaws_76 : decode cL_flaws 76 = .ok (.istore 4, 2) := by decide +kernel
theorem dL_flaws_78 : decode cL_flaws 78 = .ok (.iconst 0, 1) := by decide +kernel
theorem dL_flaws_79 : decode cL_flaws 79 = .ok (.istore 9, 2) := by decide +kernel
theorem dL_flaws_81 : decode cL_flaws 81 = .ok (.iconst 0, 1) := by decide +kernel
theorem dL_flaws_82 : decode cL_flaws 82 = .ok (.istore 10, 2) := by decide +kernel
theorem dL_flaws_84 : decode cL_flaws 84 = .ok (.iload 10, 2) := by decide +kernel
theorem dL_flaws_86 : decode cL_flaws 86 = .ok (.iconst 4, 1) := by decide +kernel
theorem dL_flaws_87 : decode cL_flaws 87 = .ok (.if_icmp .ge 51, 3) := by decide +kernel
theorem dL_flaws_90 : decode cL_flaws 90 = .ok (.aload_n 0, 1) := by decide +kernel
theorem dL_flaws_91 : decode cL_flaws 91 = .ok (.iload_n 1, 1) := by decide +kernel
theorem dL_flaws_92 : decode cL_flaws 92 = .ok (.iload_n 2, 1) := by decide +kernel
theorem dL_flaws_93 : decode cL_flaws 93 = .ok (.iload 10, 2) := by decide +kernel
theorem dL_flaws_95 : decode cL_flaws 95 = .ok (.invokestatic 113, 3) := by decide +kernel
theorem dL_flaws_98 : decode cL_flaws 98 = .ok (.istore 11, 2) := by decide +kernel
theorem dL_flaws_100 : decode cL_flaws 100 = .ok (.iload 9, 2) := by decide +kernel
theorem dL_flaws_102 : decode cL_flaws 102 = .ok (.iload 11, 2) := by decide +kernel
theorem dL_flaws_104 : decode cL_flaws 104 = .ok (.ifCond .lt 24, 3) := by decide +kernel
theorem dL_flaws_107 : decode cL_flaws 107 = .ok (.aload_n 0, 1) := by decide +kernel
theorem dL_flaws_108 : decode cL_flaws 108 = .ok (.iload 11, 2) := by decide +kernel
theorem dL_flaws_110 : decode cL_flaws 110 = .ok (.iconst 0, 1) := by decide +kernel
theorem dL_flaws_111 : decode cL_flaws 111 = .ok (.invokestatic 116, 3) := by decide +kernel
theorem dL_flaws_114 : decode cL_flaws 114 = .ok (.aload_n 0, 1) := by decide +kernel
theorem dL_flaws_115 : decode cL_flaws 115 = .ok (.iload 8, 2) := by decide +kernel
theorem dL_flaws_117 : decode cL_flaws 117 = .ok (.iconst 0, 1) := by decide +kernel
theorem dL_flaws_118 : decode cL_flaws 118 = .ok (.invokestatic 116, 3) := by decide +kernel
theorem dL_flaws_121 : decode cL_flaws 121 = .ok (.if_icmp .ne 7, 3) := by decide +kernel
theorem dL_flaws_124 : decode cL_flaws 124 = .ok (.iconst 1, 1) := by decide +kernel
theorem dL_flaws_125 : decode cL_flaws 125 = .ok (.goto 4, 3) := by decide +kernel
theorem dL_flaws_128 : decode cL_flaws 128 = .ok (.iconst 0, 1) := by decide +kernel
theorem dL_flaws_129 : decode cL_flaws 129 = .ok (.iadd, 1) := by decide +kernel
theorem dL_flaws_130 : decode cL_flaws 130 = .ok (.istore 9, 2) := by decide +kernel
theorem dL_flaws_132 : decode cL_flaws 132 = .ok (.iinc 10 1, 3) := by decide +kernel
theorem dL_flaws_135 : decode cL_flaws 135 = .ok (.goto (-51), 3) := by decide +kernel
theorem dL_flaws_138 : decode cL_flaws 138 = .ok (.iload 9, 2) := by decide +kernel
theorem dL_flaws_140 : decode cL_flaws 140 = .ok (.iload 6, 2) := by decide +kernel
theorem dL_flaws_142 : decode cL_flaws 142 = .ok (.if_icmp .le 8, 3) := by decide +kernel
theorem dL_flaws_145 : decode cL_flaws 145 = .ok (.iload 9, 2) := by decide +kernel
theorem dL_flaws_147 : decode cL_flaws 147 = .ok (.goto 5, 3) := by decide +kernel
theorem dL_flaws_150 : decode cL_flaws 150 = .ok (.iload 6, 2) := by decide +kernel
theorem dL_flaws_152 : decode cL_flaws 152 = .ok (.istore 6, 2) := by decide +kernel
theorem dL_flaws_154 : decode cL_flaws 154 = .ok (.iconst 0, 1) := by decide +kernel
theorem dL_flaws_155 : decode cL_flaws 155 = .ok (.istore 10, 2) := by decide +kernel
theorem dL_flaws_157 : decode cL_flaws 157 = .ok (.iload 10, 2) := by decide +kernel
theorem dL_flaws_159 : decode cL_flaws 159 = .ok (.iconst 4, 1) := by decide +kernel
theorem dL_flaws_160 : decode cL_flaws 160 = .ok (.iload_n 2, 1) := by decide +kernel
theorem dL_flaws_161 : decode cL_flaws 161 = .ok (.imul, 1) := by decide +kernel
theorem dL_flaws_162 : decode cL_flaws 162 = .ok (.if_icmp .ge 39, 3) := by decide +kernel
theorem dL_flaws_165 : decode cL_flaws 165 = .ok (.iload 7, 2) := by decide +kernel
theorem dL_flaws_167 : decode cL_flaws 167 = .ok (.ifCond .ne 21, 3) := by decide +kernel
theorem dL_flaws_170 : decode cL_flaws 170 = .ok (.aload_n 0, 1) := by decide +kernel
theorem dL_flaws_171 : decode cL_flaws 171 = .ok (.iload_n 1, 1) := by decide +kernel
theorem dL_flaws_172 : decode cL_flaws 172 = .ok (.iload 10, 2) := by decide +kernel
theorem dL_flaws_174 : decode cL_flaws 174 = .ok (.iconst 4, 1) := by decide +kernel
theorem dL_flaws_175 : decode cL_flaws 175 = .ok (.idiv, 1) := by decide +kernel
theorem dL_flaws_176 : decode cL_flaws 176 = .ok (.iload 10, 2) := by decide +kernel
theorem dL_flaws_178 : decode cL_flaws 178 = .ok (.iconst 4, 1) := by decide +kernel
theorem dL_flaws_179 : decode cL_flaws 179 = .ok (.irem, 1) := by decide +kernel
theorem dL_flaws_180 : decode cL_flaws 180 = .ok (.invokestatic 113, 3) := by decide +kernel
theorem dL_flaws_183 : decode cL_flaws 183 = .ok (.iload 8, 2) := by decide +kernel
theorem dL_flaws_185 : decode cL_flaws 185 = .ok (.if_icmp .ne 7, 3) := by decide +kernel
theorem dL_flaws_188 : decode cL_flaws 188 = .ok (.iconst 1, 1) := by decide +kernel
theorem dL_flaws_189 : decode cL_flaws 189 = .ok (.goto 4, 3) := by decide +kernel
theorem dL_flaws_192 : decode cL_flaws 192 = .ok (.iconst 0, 1) := by decide +kernel
theorem dL_flaws_193 : decode cL_flaws 193 = .ok (.istore 7, 2) := by decide +kernel
theorem dL_flaws_195 : decode cL_flaws 195 = .ok (.iinc 10 1, 3) := by decide +kernel
theorem dL_flaws_198 : decode cL_flaws 198 = .ok (.goto (-41), 3) := by decide +kernel
theorem dL_flaws_201 : decode cL_flaws 201 = .ok (.iinc 5 1, 3) := by decide +kernel
theorem dL_flaws_204 : decode cL_flaws 204 = .ok (.goto (-171), 3) := by decide +kernel
theorem dL_flaws_207 : decode cL_flaws 207 = .ok (.iload 5, 2) := by decide +kernel
theorem dL_flaws_209 : decode cL_flaws 209 = .ok (.ifCond .le 66, 3) := by decide +kernel
theorem dL_flaws_212 : decode cL_flaws 212 = .ok (.iload_n 3, 1) := by decide +kernel
theorem dL_flaws_213 : decode cL_flaws 213 = .ok (.aload_n 0, 1) := by decide +kernel
theorem dL_flaws_214 : decode cL_flaws 214 = .ok (.iload_n 2, 1) := by decide +kernel
theorem dL_flaws_215 : decode cL_flaws 215 = .ok (.iconst 0, 1) := by decide +kernel
theorem dL_flaws_216 : decode cL_flaws 216 = .ok (.invokestatic 118, 3) := by decide +kernel
theorem dL_flaws_219 : decode cL_flaws 219 = .ok (.if_icmp .lt 56, 3) := by decide +kernel
theorem dL_flaws_222 : decode cL_flaws 222 = .ok (.iload_n 3, 1) := by decide +kernel
theorem dL_flaws_223 : decode cL_flaws 223 = .ok (.aload_n 0, 1) := by decide +kernel
theorem dL_flaws_224 : decode cL_flaws 224 = .ok (.iload_n 2, 1) := by decide +kernel
theorem dL_flaws_225 : decode cL_flaws 225 = .ok (.iconst 1, 1) := by decide +kernel
theorem dL_flaws_226 : decode cL_flaws 226 = .ok (.invokestatic 118, 3) := by decide +kernel
theorem dL_flaws_229 : decode cL_flaws 229 = .ok (.if_icmp .gt 46, 3) := by decide +kernel
theorem dL_flaws_232 : decode cL_flaws 232 = .ok (.aload_n 0, 1) := by decide +kernel
theorem dL_flaws_233 : decode cL_flaws 233 = .ok (.iload_n 2, 1) := by decide +kernel
theorem dL_flaws_234 : decode cL_flaws 234 = .ok (.iconst 2, 1) := by decide +kernel
theorem dL_flaws_235 : decode cL_flaws 235 = .ok (.invokestatic 118, 3) := by decide +kernel
theorem dL_flaws_238 : decode cL_flaws 238 = .ok (.iload 4, 2) := by decide +kernel
theorem dL_flaws_240 : decode cL_flaws 240 = .ok (.iconst (-1), 1) := by decide +kernel
theorem dL_flaws_241 : decode cL_flaws 241 = .ok (.ixor, 1) := by decide +kernel
theorem dL_flaws_242 : decode cL_flaws 242 = .ok (.iand, 1) := by decide +kernel
theorem dL_flaws_243 : decode cL_flaws 243 = .ok (.ifCond .ne 32, 3) := by decide +kernel
theorem dL_flaws_246 : decode cL_flaws 246 = .ok (.iload 6, 2) := by decide +kernel
theorem dL_flaws_248 : decode cL_flaws 248 = .ok (.aload_n 0, 1) := by decide +kernel
theorem dL_flaws_249 : decode cL_flaws 249 = .ok (.iload_n 2, 1) := by decide +kernel
theorem dL_flaws_250 : decode cL_flaws 250 = .ok (.iconst 3, 1) := by decide +kernel
theorem dL_flaws_251 : decode cL_flaws 251 = .ok (.invokestatic 118, 3) := by decide +kernel
theorem dL_flaws_254 : decode cL_flaws 254 = .ok (.if_icmp .gt 21, 3) := by decide +kernel
theorem dL_flaws_257 : decode cL_flaws 257 = .ok (.aload_n 0, 1) := by decide +kernel
theorem dL_flaws_258 : decode cL_flaws 258 = .ok (.iload_n 2, 1) := by decide +kernel
theorem dL_flaws_259 : decode cL_flaws 259 = .ok (.iconst 4, 1) := by decide +kernel
theorem dL_flaws_260 : decode cL_flaws 260 = .ok (.invokestatic 118, 3) := by decide +kernel
theorem dL_flaws_263 : decode cL_flaws 263 = .ok (.ifCond .eq 8, 3) := by decide +kernel
theorem dL_flaws_266 : decode cL_flaws 266 = .ok (.iload 7, 2) := by decide +kernel
theorem dL_flaws_268 : decode cL_flaws 268 = .ok (.ifCond .ne 7, 3) := by decide +kernel
theorem dL_flaws_271 : decode cL_flaws 271 = .ok (.iconst 1, 1) := by decide +kernel
theorem dL_flaws_272 : decode cL_flaws 272 = .ok (.goto 4, 3) := by decide +kernel
theorem dL_flaws_275 : decode cL_flaws 275 = .ok (.iconst 0, 1) := by decide +kernel
theorem dL_flaws_276 : decode cL_flaws 276 = .ok (.istore 8, 2) := by decide +kernel
theorem dL_flaws_278 : decode cL_flaws 278 = .ok (.aload_n 0, 1) := by decide +kernel
theorem dL_flaws_279 : decode cL_flaws 279 = .ok (.iload_n 1, 1) := by decide +kernel
theorem dL_flaws_280 : decode cL_flaws 280 = .ok (.iload_n 2, 1) := by decide +kernel
theorem dL_flaws_281 : decode cL_flaws 281 = .ok (.invokestatic 120, 3) := by decide +kernel
theorem dL_flaws_284 : decode cL_flaws 284 = .ok (.istore 9, 2) := by decide +kernel
theorem dL_flaws_286 : decode cL_flaws 286 = .ok (.iload 8, 2) := by decide +kernel
theorem dL_flaws_288 : decode cL_flaws 288 = .ok (.iload 9, 2) := by decide +kernel
theorem dL_flaws_290 : decode cL_flaws 290 = .ok (.ifCond .ne 7, 3) := by decide +kernel
theorem dL_flaws_293 : decode cL_flaws 293 = .ok (.iconst 1, 1) := by decide +kernel
theorem dL_flaws_294 : decode cL_flaws 294 = .ok (.goto 4, 3) := by decide +kernel
theorem dL_flaws_297 : decode cL_flaws 297 = .ok (.iconst 0, 1) := by decide +kernel
theorem dL_flaws_298 : decode cL_flaws 298 = .ok (.if_icmp .ne 56, 3) := by decide +kernel
theorem dL_flaws_301 : decode cL_flaws 301 = .ok (.iload 9, 2) := by decide +kernel
theorem dL_flaws_303 : decode cL_flaws 303 = .ok (.ifCond .lt 51, 3) := by decide +kernel
theorem dL_flaws_306 : decode cL_flaws 306 = .ok (.iload 9, 2) := by decide +kernel
theorem dL_flaws_308 : decode cL_flaws 308 = .ok (.bipush 6, 2) := by decide +kernel
theorem dL_flaws_310 : decode cL_flaws 310 = .ok (.if_icmp .gt 44, 3) := by decide +kernel
theorem dL_flaws_313 : decode cL_flaws 313 = .ok (.iload 5, 2) := by decide +kernel
theorem dL_flaws_315 : decode cL_flaws 315 = .ok (.ifCond .ne 7, 3) := by decide +kernel
theorem dL_flaws_318 : decode cL_flaws 318 = .ok (.iconst 1, 1) := by decide +kernel
theorem dL_flaws_319 : decode cL_flaws 319 = .ok (.goto 4, 3) := by decide +kernel
theorem dL_flaws_322 : decode cL_flaws 322 = .ok (.iconst 0, 1) := by decide +kernel
theorem dL_flaws_323 : decode cL_flaws 323 = .ok (.iload 9, 2) := by decide +kernel
theorem dL_flaws_325 : decode cL_flaws 325 = .ok (.iconst 1, 1) := by decide +kernel
theorem dL_flaws_326 : decode cL_flaws 326 = .ok (.if_icmp .ne 7, 3) := by decide +kernel
theorem dL_flaws_329 : decode cL_flaws 329 = .ok (.iconst 1, 1) := by decide +kernel
theorem dL_flaws_330 : decode cL_flaws 330 = .ok (.goto 4, 3) := by decide +kernel
theorem dL_flaws_333 : decode cL_flaws 333 = .ok (.iconst 0, 1) := by decide +kernel
theorem dL_flaws_334 : decode cL_flaws 334 = .ok (.if_icmp .ne 20, 3) := by decide +kernel
theorem dL_flaws_337 : decode cL_flaws 337 = .ok (.iload 5, 2) := by decide +kernel
theorem dL_flaws_339 : decode cL_flaws 339 = .ok (.iconst 4, 1) := by decide +kernel
theorem dL_flaws_340 : decode cL_flaws 340 = .ok (.if_icmp .gt 14, 3) := by decide +kernel
theorem dL_flaws_343 : decode cL_flaws 343 = .ok (.aload_n 0, 1) := by decide +kernel
theorem dL_flaws_344 : decode cL_flaws 344 = .ok (.iload_n 1, 1) := by decide +kernel
theorem dL_flaws_345 : decode cL_flaws 345 = .ok (.iload_n 2, 1) := by decide +kernel
theorem dL_flaws_346 : decode cL_flaws 346 = .ok (.iconst (-1), 1) := by decide +kernel
theorem dL_flaws_347 : decode cL_flaws 347 = .ok (.invokestatic 113, 3) := by decide +kernel
theorem dL_flaws_350 : decode cL_flaws 350 = .ok (.iconst (-1), 1) := by decide +kernel
theorem dL_flaws_351 : decode cL_flaws 351 = .ok (.if_icmp .eq 5, 3) := by decide +kernel
theorem dL_flaws_354 : decode cL_flaws 354 = .ok (.iconst 0, 1) := by decide +kernel
theorem dL_flaws_355 : decode cL_flaws 355 = .ok (.ireturn, 1) := by decide +kernel
theorem dL_flaws_356 : decode cL_flaws 356 = .ok (.iinc 2 1, 3) := by decide +kernel
theorem dL_flaws_359 : decode cL_flaws 359 = .ok (.goto (-345), 3) := by decide +kernel
theorem dL_flaws_362 : decode cL_flaws 362 = .ok (.iinc 1 1, 3) := by decide +kernel
theorem dL_flaws_365 : decode cL_flaws 365 = .ok (.goto (-363), 3) := by decide +kernel
theorem dL_flaws_368 : decode cL_flaws 368 = .ok (.iconst 1, 1) := by decide +kernel
theorem dL_flaws_369 : decode cL_flaws 369 = .ok (.ireturn, 1) := by decide +kernel
set_option maxRecDepth 20000 in
theorem ggL_closes_L_info : GoodIn wsL_closes wsL_info := goodIn_ca (goodIn_r _ [5, 6, 7, 8, 9, 10, 11, 12, 13, 14, 15, 16, 17, 18, 19, 20, 21, 22, 23, 24, 25, 26, 27, 28, 29, 30, 31, 32, 33, 34, 35, 36, 37, 38, 39, 40, 41, 42, 43, 44, 45, 46, 47, 48, 49, 50, 51, 52, 53, 54, 55, 537, 538, 539, 540, 541, 542, 543, 544, 545, 546, 547, 548, 549, 550, 551, 552, 553, 554, 555, 556, 557, 558, 559, 560, 561, 562, 563, 564, 565, 566, 567, 568, 569, 570] (by decide +kernel) (by decide +kernel)) (goodIn_sub (fun _ h => List.mem_cons_of_mem _ (List.mem_append_left _ (List.mem_append_left _ (List.mem_append_right _ h)))) (by decide +kernel))
set_option maxRecDepth 20000 in
theorem gL_closes_L_info : GoodIn wsL_closes (va_wsS RL 98 yL_info wsL_info) := goodIn_app (goodIn_of _ (by decide +kernel)) ggL_closes_L_info
set_option maxRecDepth 20000 in
theorem ggL_closes_L_wouldBe : GoodIn wsL_closes wsL_wouldBe := goodIn_ca (goodIn_r _ [58, 6, 59, 60, 61, 10, 62, 12, 13, 14, 15, 16, 17, 18, 19, 20, 63, 64, 65, 24, 66, 29, 33, 67, 68, 69, 70, 71, 72, 73, 74, 75, 76, 77, 34, 26, 78, 79, 80, 53, 81, 55, 82, 83, 84, 85, 86, 87, 88, 89, 90, 91, 92, 93, 94, 95, 96, 97, 98, 99, 100, 101, 102, 103, 104, 105, 106, 107, 108, 109, 110, 111, 112, 113, 114, 115, 116, 117, 30, 118, 119, 120, 121, 122, 123, 124, 125, 126, 127, 128, 129, 130, 131, 132, 133, 134, 135, 136, 137, 138, 139, 140, 28, 141, 142, 143, 144, 145, 146, 147, 148, 149, 150, 151, 152, 153, 154, 155, 156, 157, 158, 159, 160, 161, 162, 163, 164, 165, 166, 167, 168, 169, 170, 171, 172, 173, 174, 175, 176, 177, 178, 537, 538, 539, 540, 541, 542, 543, 544, 545, 546, 547, 548, 549, 550, 551, 552, 553, 562, 563, 564, 565, 566, 567, 568, 569, 570, 554, 555, 571, 572, 573, 574, 575, 576, 577] (by decide +kernel) (by decide +kernel)) (goodIn_sub (fun _ h => List.mem_cons_of_mem _ (List.mem_append_left _ (List.mem_append_left _ (List.mem_append_right _ h)))) (by decide +kernel))
set_option maxRecDepth 20000 in
theorem gL_closes_L_wouldBe : GoodIn wsL_closes (va_wsS RL 122 yL_wouldBe wsL_wouldBe) := goodIn_app (goodIn_of _ (by decide +kernel)) ggL_closes_L_wouldBe
set_option maxRecDepth 20000 in
theorem ggL_closes_L_entrant : GoodIn wsL_closes wsL_entrant := goodIn_ca (goodIn_ca (goodIn_r _ [181, 182, 6, 183, 184, 185, 10, 186, 12, 187, 188, 189, 190, 191, 47, 48, 38, 49, 40, 192, 193, 194, 195, 196, 13, 14, 15, 16, 17, 18, 19, 20, 197, 198, 199, 24, 200, 32, 33, 34, 26, 201, 42, 43, 44, 45, 46, 202, 203, 204, 70, 205, 72, 206, 68, 69, 71, 73, 149, 109, 110, 111, 112, 207, 208, 209, 210, 211, 212, 213, 214, 29, 103, 215, 216, 217, 85, 218, 87, 219, 220, 221, 222, 93, 94, 95, 96, 97, 98, 88, 89, 90, 91, 92, 129, 130, 131, 132, 133, 134, 135, 136, 137, 138, 139, 140, 28, 141, 142, 143, 144, 145, 146, 147, 148, 99, 100, 101, 102, 104, 105, 106, 107, 108, 82, 83, 84, 86, 78, 79, 80, 53, 81, 55, 223, 224, 225, 226, 227, 537, 538, 539, 540, 541, 542, 543, 544, 545, 546, 547, 548, 549, 550, 551, 552, 553, 560, 561, 567, 568, 569, 570, 562, 563, 564, 565, 566, 554, 555, 571] (by decide +kernel) (by decide +kernel)) (goodIn_sub (fun _ h => List.mem_cons_of_mem _ (List.mem_append_left _ (List.mem_append_right _ h))) (by decide +kernel))) (goodIn_sub (fun _ h => List.mem_cons_of_mem _ (List.mem_append_left _ (List.mem_append_left _ (List.mem_append_right _ h)))) (by decide +kernel))
set_option maxRecDepth 20000 in
theorem gL_closes_L_entrant : GoodIn wsL_closes (va_wsS RL 106 yL_entrant wsL_entrant) := goodIn_app (goodIn_of _ (by decide +kernel)) ggL_closes_L_entrant
set_option maxRecDepth 20000 in
theorem ggL_closes_L_rule : GoodIn wsL_closes wsL_rule := goodIn_ca (goodIn_ca (goodIn_r _ [230, 182, 6, 231, 232, 233, 10, 234, 12, 235, 236, 237, 13, 14, 15, 192, 193, 194, 195, 196, 16, 17, 18, 19, 20, 537, 538, 539, 540, 541, 542, 543, 544, 545, 546, 547, 548, 549, 550, 551, 552, 553] (by decide +kernel) (by decide +kernel)) (goodIn_sub (fun _ h => List.mem_cons_of_mem _ (List.mem_append_left _ (List.mem_append_right _ h))) (by decide +kernel))) (goodIn_sub (fun _ h => List.mem_cons_of_mem _ (List.mem_append_left _ (List.mem_append_left _ (List.mem_append_right _ h)))) (by decide +kernel))
set_option maxRecDepth 20000 in
theorem gL_closes_L_rule : GoodIn wsL_closes (va_wsS RL 118 yL_rule wsL_rule) := goodIn_app (goodIn_of _ (by decide +kernel)) ggL_closes_L_rule
set_option maxRecDepth 20000 in
theorem ggL_closes_X11_checksum : GoodIn wsL_closes wsX11_checksum := goodIn_r _ [241, 242, 12, 243, 244, 21, 22, 23, 24, 25, 26, 27, 28, 29, 30, 31, 32, 33, 34, 35, 36, 37, 38, 39, 40, 41, 42, 43, 44, 45, 46, 47, 48, 49, 50, 51, 52, 53, 54, 55, 245, 246, 10, 247, 248, 249, 250, 251, 252, 253, 254, 255, 256, 257, 258, 259, 260, 261, 262, 263, 264, 265, 266, 267, 268, 269, 270, 271, 272, 273, 274, 275, 276, 277, 278, 279, 280, 281, 282, 283, 284, 285, 197, 198, 199, 200, 201, 202, 203, 204, 70, 205, 72, 206, 68, 69, 71, 73, 149, 109, 110, 111, 112, 14, 15, 207, 208, 209, 210, 211, 212, 213, 214, 103, 215, 216, 217, 85, 218, 87, 219, 220, 221, 222, 93, 94, 95, 96, 97, 98, 88, 89, 90, 91, 92, 129, 130, 131, 132, 133, 134, 135, 136, 137, 138, 139, 140, 141, 142, 143, 144, 145, 146, 147, 148, 99, 100, 101, 102, 104, 105, 106, 107, 108, 82, 83, 84, 86, 78, 79, 80, 81, 223, 224, 225, 226, 227, 286, 287, 288, 289, 290, 291, 292, 293, 294, 295, 296, 297, 298, 299, 300, 301, 302, 303, 304, 305, 306, 307, 308, 309, 310, 311, 312, 313, 314, 315, 316, 317, 318, 319, 320, 321, 322, 323, 324, 325, 326, 327, 328, 329, 330, 331, 332, 333, 334, 335, 336, 337, 338, 339, 340, 341, 342, 343, 344, 345, 346, 67, 347, 348, 537, 538, 539, 540, 541, 542, 543, 544, 545, 546, 547, 548, 549, 550, 551, 552, 553, 560, 561, 562, 563, 564, 565, 566, 578, 579, 580, 581, 582, 583, 584, 554, 555, 556, 557, 558, 559, 567, 568, 569, 570, 571, 585] (by decide +kernel) (by decide +kernel)
set_option maxRecDepth 20000 in
theorem gL_closes_X11_checksum : GoodIn wsL_closes (wsV RL 124 RX11 yX11_checksum wsX11_checksum) := goodIn_app (goodIn_of _ (by decide +kernel)) ggL_closes_X11_checksum
set_option maxRecDepth 20000 in
theorem ggL_closes_L_close : GoodIn wsL_closes wsL_close := goodIn_ca (goodIn_r _ [351, 352, 353, 354, 355, 10, 356, 12, 244, 63, 64, 65, 24, 66, 29, 33, 67, 68, 69, 70, 71, 72, 73, 74, 75, 76, 77, 34, 26, 78, 79, 80, 53, 81, 55, 14, 15, 82, 83, 84, 85, 86, 87, 88, 89, 90, 91, 92, 93, 94, 95, 96, 97, 98, 99, 100, 101, 102, 103, 104, 105, 106, 107, 108, 109, 110, 111, 112, 357, 358, 359, 360, 361, 362, 363, 364, 365, 366, 367, 368, 369, 370, 371, 372, 373, 374, 375, 376, 30, 27, 28, 31, 32, 118, 377, 378, 379, 380, 381, 256, 382, 267, 262, 272, 277, 383, 384, 385, 146, 139, 147, 386, 387, 388, 389, 390, 391, 392, 38, 393, 40, 45, 394, 395, 396, 397, 398, 293, 399, 303, 400, 401, 402, 403, 404, 405, 406, 407, 408, 409, 410, 411, 412, 413, 414, 415, 416, 417, 418, 419, 420, 421, 422, 423, 424, 425, 117, 426, 114, 115, 116, 119, 120, 121, 122, 123, 124, 125, 126, 127, 128, 129, 130, 131, 132, 133, 134, 135, 136, 137, 138, 140, 141, 142, 143, 144, 145, 148, 149, 150, 151, 152, 153, 154, 155, 156, 157, 158, 159, 160, 161, 162, 163, 164, 165, 166, 167, 168, 169, 170, 427, 428, 429, 430, 431, 432, 433, 434, 435, 436, 437, 438, 439, 440, 441, 442, 443, 444, 445, 446, 46, 47, 48, 49, 447, 176, 177, 178, 448, 449, 450, 451, 452, 453, 454, 455, 456, 457, 458, 459, 175, 460, 461, 462, 463, 464, 465, 466, 467, 468, 469, 470, 471, 472, 223, 224, 225, 226, 227, 473, 474, 475, 476, 477, 478, 479, 480, 481, 482, 483, 484, 485, 486, 487, 488, 489, 490, 491, 492, 493, 494, 495, 496, 497, 201, 42, 43, 44, 498, 291, 292, 294, 295, 296, 297, 298, 299, 300, 301, 302, 304, 305, 306, 307, 308, 274, 275, 276, 263, 264, 265, 266, 309, 310, 311, 312, 313, 269, 270, 271, 314, 315, 316, 317, 318, 319, 259, 260, 261, 320, 321, 322, 323, 324, 325, 326, 327, 499, 500, 501, 502, 503, 504, 505, 506, 507, 508, 509, 510, 511, 512, 513, 514, 537, 538, 539, 540, 541, 542, 543, 544, 545, 546, 547, 548, 549, 550, 551, 552, 553, 562, 563, 564, 565, 566, 567, 568, 569, 570, 554, 555, 571, 583, 584, 556, 557, 558, 559, 560, 561, 585, 572, 573, 574, 575, 576, 577] (by decide +kernel) (by decide +kernel)) (goodIn_sub (fun _ h => List.mem_cons_of_mem _ (List.mem_append_right _ h)) (by decide +kernel))
set_option maxRecDepth 20000 in
theorem gL_closes_L_close : GoodIn wsL_closes (va_wsS RL 128 yL_close wsL_close) := goodIn_app (goodIn_of _ (by decide +kernel)) ggL_closes_L_close
set_option maxRecDepth 20000 in
theorem ggL_closes_L_history : GoodIn wsL_closes wsL_history := goodIn_ca (goodIn_r _ [517, 182, 518, 519, 520, 10, 521, 12, 522, 523, 524, 525, 187, 188, 189, 190, 191, 47, 48, 38, 49, 40, 192, 193, 194, 195, 196, 235, 236, 237, 13, 14, 15, 537, 538, 539, 540, 541, 542, 543, 544, 545, 546, 547, 548, 549, 550, 551, 552, 553, 560, 561] (by decide +kernel) (by decide +kernel)) (goodIn_sub (fun _ h => List.mem_cons_of_mem _ (List.mem_append_left _ (List.mem_append_right _ h))) (by decide +kernel))
set_option maxRecDepth 20000 in
theorem gL_closes_L_history : GoodIn wsL_closes (va_wsS RL 131 yL_history wsL_history) := goodIn_app (goodIn_of _ (by decide +kernel)) ggL_closes_L_history
set_option maxRecDepth 20000 in
theorem ggL_closes_L_undo : GoodIn wsL_closes wsL_undo := goodIn_ca (goodIn_r _ [528, 352, 529, 530, 531, 10, 532, 244, 12, 357, 358, 359, 360, 361, 533, 534, 535, 365, 536, 367, 368, 373, 374, 375, 24, 376, 29, 30, 27, 28, 31, 32, 118, 377, 26, 33, 103, 34, 378, 379, 380, 381, 256, 382, 267, 262, 272, 277, 383, 384, 385, 146, 139, 147, 386, 387, 388, 389, 390, 391, 392, 38, 393, 40, 45, 394, 395, 396, 397, 398, 293, 399, 303, 400, 401, 402, 85, 403, 87, 92, 404, 405, 406, 70, 407, 72, 408, 409, 73, 112, 410, 411, 412, 96, 413, 98, 414, 415, 416, 53, 417, 418, 419, 55, 420, 421, 537, 538, 539, 583, 584, 540, 541, 542, 543, 544, 545, 546, 547, 548, 549, 550, 551, 552, 553, 556, 557, 558, 559, 560, 561, 585, 554, 555, 562, 563, 564, 565, 566, 571, 567, 568, 569, 570] (by decide +kernel) (by decide +kernel)) (goodIn_sub (fun _ h => List.mem_cons_of_mem _ (List.mem_append_right _ h)) (by decide +kernel))
set_option maxRecDepth 20000 in
theorem gL_closes_L_undo : GoodIn wsL_closes (va_wsS RL 133 yL_undo wsL_undo) := goodIn_app (goodIn_of _ (by decide +kernel)) ggL_closes_L_undo
theorem dL_closes_0 : decode cL_closes 0 = .ok (.aload_n 0, 1) := by decide +kernel
theorem dL_closes_1 : decode cL_closes 1 = .ok (.iconst 3, 1) := by decide +kernel
theorem dL_closes_2 : decode cL_closes 2 = .ok (.invokestatic 98, 3) := by decide +kernel
theorem dL_closes_5 : decode cL_closes 5 = .ok (.istore_n 1, 1) := by decide +kernel
theorem dL_closes_6 : decode cL_closes 6 = .ok (.aload_n 0, 1) := by decide +kernel
theorem dL_closes_7 : decode cL_closes 7 = .ok (.iconst 4, 1) := by decide +kernel
theorem dL_closes_8 : decode cL_closes 8 = .ok (.invokestatic 98, 3) := by decide +kernel
theorem dL_closes_11 : decode cL_closes 11 = .ok (.istore_n 2, 1) := by decide +kernel
theorem dL_closes_12 : decode cL_closes 12 = .ok (.aload_n 0, 1) := by decide +kernel
theorem dL_closes_13 : decode cL_closes 13 = .ok (.bipush 8, 2) := by decide +kernel
theorem dL_closes_15 : decode cL_closes 15 = .ok (.invokestatic 98, 3) := by decide +kernel
theorem dL_closes_18 : decode cL_closes 18 = .ok (.istore_n 3, 1) := by decide +kernel
theorem dL_closes_19 : decode cL_closes 19 = .ok (.bipush 12, 2) := by decide +kernel
theorem dL_closes_21 : decode cL_closes 21 = .ok (.newarray .int, 2) := by decide +kernel
theorem dL_closes_23 : decode cL_closes 23 = .ok (.astore 4, 2) := by decide +kernel
theorem dL_closes_25 : decode cL_closes 25 = .ok (.iconst 3, 1) := by decide +kernel
theorem dL_closes_26 : decode cL_closes 26 = .ok (.newarray .int, 2) := by decide +kernel
theorem dL_closes_28 : decode cL_closes 28 = .ok (.astore 5, 2) := by decide +kernel
theorem dL_closes_30 : decode cL_closes 30 = .ok (.iload_n 1, 1) := by decide +kernel
theorem dL_closes_31 : decode cL_closes 31 = .ok (.iconst 1, 1) := by decide +kernel
theorem dL_closes_32 : decode cL_closes 32 = .ok (.if_icmp .ne 7, 3) := by decide +kernel
theorem dL_closes_35 : decode cL_closes 35 = .ok (.iconst 1, 1) := by decide +kernel
theorem dL_closes_36 : decode cL_closes 36 = .ok (.goto 4, 3) := by decide +kernel
theorem dL_closes_39 : decode cL_closes 39 = .ok (.iconst 0, 1) := by decide +kernel
theorem dL_closes_40 : decode cL_closes 40 = .ok (.istore 6, 2) := by decide +kernel
theorem dL_closes_42 : decode cL_closes 42 = .ok (.iconst 0, 1) := by decide +kernel
theorem dL_closes_43 : decode cL_closes 43 = .ok (.istore 7, 2) := by decide +kernel
theorem dL_closes_45 : decode cL_closes 45 = .ok (.iload 7, 2) := by decide +kernel
theorem dL_closes_47 : decode cL_closes 47 = .ok (.iconst 3, 1) := by decide +kernel
theorem dL_closes_48 : decode cL_closes 48 = .ok (.if_icmp .ge 20, 3) := by decide +kernel
theorem dL_closes_51 : decode cL_closes 51 = .ok (.aload 5, 2) := by decide +kernel
theorem dL_closes_53 : decode cL_closes 53 = .ok (.iload 7, 2) := by decide +kernel
theorem dL_closes_55 : decode cL_closes 55 = .ok (.aload_n 0, 1) := by decide +kernel
theorem dL_closes_56 : decode cL_closes 56 = .ok (.iload 7, 2) := by decide +kernel
theorem dL_closes_58 : decode cL_closes 58 = .ok (.invokestatic 122, 3) := by decide +kernel
theorem dL_closes_61 : decode cL_closes 61 = .ok (.iastore, 1) := by decide +kernel
theorem dL_closes_62 : decode cL_closes 62 = .ok (.iinc 7 1, 3) := by decide +kernel
theorem dL_closes_65 : decode cL_closes 65 = .ok (.goto (-20), 3) := by decide +kernel
theorem dL_closes_68 : decode cL_closes 68 = .ok (.iconst 0, 1) := by decide +kernel
theorem dL_closes_69 : decode cL_closes 69 = .ok (.istore 7, 2) := by decide +kernel
theorem dL_closes_71 : decode cL_closes 71 = .ok (.iload 7, 2) := by decide +kernel
theorem dL_closes_73 : decode cL_closes 73 = .ok (.aload_n 0, 1) := by decide +kernel
theorem dL_closes_74 : decode cL_closes 74 = .ok (.bipush 6, 2) := by decide +kernel
theorem dL_closes_76 : decode cL_closes 76 = .ok (.invokestatic 98, 3) := by decide +kernel
theorem dL_closes_79 : decode cL_closes 79 = .ok (.if_icmp .ge 68, 3) := by decide +kernel
theorem dL_closes_82 : decode cL_closes 82 = .ok (.aload 4, 2) := by decide +kernel
theorem dL_closes_84 : decode cL_closes 84 = .ok (.iload 7, 2) := by decide +kernel
theorem dL_closes_86 : decode cL_closes 86 = .ok (.aload_n 0, 1) := by decide +kernel
theorem dL_closes_87 : decode cL_closes 87 = .ok (.iload 7, 2) := by decide +kernel
theorem dL_closes_89 : decode cL_closes 89 = .ok (.iconst 1, 1) := by decide +kernel
theorem dL_closes_90 : decode cL_closes 90 = .ok (.invokestatic 106, 3) := by decide +kernel
theorem dL_closes_93 : decode cL_closes 93 = .ok (.ifCond .ge 7, 3) := by decide +kernel
theorem dL_closes_96 : decode cL_closes 96 = .ok (.iconst (-1), 1) := by decide +kernel
theorem dL_closes_97 : decode cL_closes 97 = .ok (.goto 10, 3) := by decide +kernel
theorem dL_closes_100 : decode cL_closes 100 = .ok (.aload_n 0, 1) := by decide +kernel
theorem dL_closes_101 : decode cL_closes 101 = .ok (.iload 7, 2) := by decide +kernel
theorem dL_closes_103 : decode cL_closes 103 = .ok (.iconst 4, 1) := by decide +kernel
theorem dL_closes_104 : decode cL_closes 104 = .ok (.invokestatic 106, 3) := by decide +kernel
theorem dL_closes_107 : decode cL_closes 107 = .ok (.iastore, 1) := by decide +kernel
theorem dL_closes_108 : decode cL_closes 108 = .ok (.iload 6, 2) := by decide +kernel
theorem dL_closes_110 : decode cL_closes 110 = .ok (.ifCond .eq 28, 3) := by decide +kernel
theorem dL_closes_113 : decode cL_closes 113 = .ok (.aload_n 0, 1) := by decide +kernel
theorem dL_closes_114 : decode cL_closes 114 = .ok (.iload 7, 2) := by decide +kernel
theorem dL_closes_116 : decode cL_closes 116 = .ok (.iconst 1, 1) := by decide +kernel
theorem dL_closes_117 : decode cL_closes 117 = .ok (.invokestatic 106, 3) := by decide +kernel
theorem dL_closes_120 : decode cL_closes 120 = .ok (.ifCond .lt 14, 3) := by decide +kernel
theorem dL_closes_123 : decode cL_closes 123 = .ok (.aload_n 0, 1) := by decide +kernel
theorem dL_closes_124 : decode cL_closes 124 = .ok (.iload 7, 2) := by decide +kernel
theorem dL_closes_126 : decode cL_closes 126 = .ok (.iconst 5, 1) := by decide +kernel
theorem dL_closes_127 : decode cL_closes 127 = .ok (.invokestatic 106, 3) := by decide +kernel
theorem dL_closes_130 : decode cL_closes 130 = .ok (.iconst 1, 1) := by decide +kernel
theorem dL_closes_131 : decode cL_closes 131 = .ok (.if_icmp .ne 7, 3) := by decide +kernel
theorem dL_closes_134 : decode cL_closes 134 = .ok (.iconst 1, 1) := by decide +kernel
theorem dL_closes_135 : decode cL_closes 135 = .ok (.goto 4, 3) := by decide +kernel
theorem dL_closes_138 : decode cL_closes 138 = .ok (.iconst 0, 1) := by decide +kernel
theorem dL_closes_139 : decode cL_closes 139 = .ok (.istore 6, 2) := by decide +kernel
theorem dL_closes_141 : decode cL_closes 141 = .ok (.iinc 7 1, 3) := by decide +kernel
theorem dL_closes_144 : decode cL_closes 144 = .ok (.goto (-73), 3) := by decide +kernel
theorem dL_closes_147 : decode cL_closes 147 = .ok (.iload_n 1, 1) := by decide +kernel
theorem dL_closes_148 : decode cL_closes 148 = .ok (.iconst 1, 1) := by decide +kernel
theorem dL_closes_149 : decode cL_closes 149 = .ok (.if_icmp .ne 12, 3) := by decide +kernel
theorem dL_closes_152 : decode cL_closes 152 = .ok (.aload_n 0, 1) := by decide +kernel
theorem dL_closes_153 : decode cL_closes 153 = .ok (.iload_n 2, 1) := by decide +kernel
theorem dL_closes_154 : decode cL_closes 154 = .ok (.iconst 5, 1) := by decide +kernel
theorem dL_closes_155 : decode cL_closes 155 = .ok (.invokestatic 118, 3) := by decide +kernel
theorem dL_closes_158 : decode cL_closes 158 = .ok (.goto 9, 3) := by decide +kernel
theorem dL_closes_161 : decode cL_closes 161 = .ok (.aload_n 0, 1) := by decide +kernel
theorem dL_closes_162 : decode cL_closes 162 = .ok (.bipush 11, 2) := by decide +kernel
theorem dL_closes_164 : decode cL_closes 164 = .ok (.invokestatic 98, 3) := by decide +kernel
theorem dL_closes_167 : decode cL_closes 167 = .ok (.istore 7, 2) := by decide +kernel
theorem dL_closes_169 : decode cL_closes 169 = .ok (.aload_n 0, 1) := by decide +kernel
theorem dL_closes_170 : decode cL_closes 170 = .ok (.bipush 7, 2) := by decide +kernel
theorem dL_closes_172 : decode cL_closes 172 = .ok (.invokestatic 98, 3) := by decide +kernel
theorem dL_closes_175 : decode cL_closes 175 = .ok (.istore 8, 2) := by decide +kernel
theorem dL_closes_177 : decode cL_closes 177 = .ok (.aload_n 0, 1) := by decide +kernel
theorem dL_closes_178 : decode cL_closes 178 = .ok (.bipush 10, 2) := by decide +kernel
theorem dL_closes_180 : decode cL_closes 180 = .ok (.invokestatic 98, 3) := by decide +kernel
theorem dL_closes_183 : decode cL_closes 183 = .ok (.istore 9, 2) := by decide +kernel
theorem dL_closes_185 : decode cL_closes 185 = .ok (.aload_n 0, 1) := by decide +kernel
theorem dL_closes_186 : decode cL_closes 186 = .ok (.invokevirtual 124, 3) := by decide +kernel
theorem dL_closes_189 : decode cL_closes 189 = .ok (.lstore 10, 2) := by decide +kernel
theorem dL_closes_191 : decode cL_closes 191 = .ok (.aload_n 0, 1) := by decide +kernel
theorem dL_closes_192 : decode cL_closes 192 = .ok (.invokestatic 128, 3) := by decide +kernel
theorem dL_closes_195 : decode cL_closes 195 = .ok (.istore 12, 2) := by decide +kernel
theorem dL_closes_197 : decode cL_closes 197 = .ok (.iload_n 1, 1) := by decide +kernel
theorem dL_closes_198 : decode cL_closes 198 = .ok (.iconst 1, 1) := by decide +kernel
theorem dL_closes_199 : decode cL_closes 199 = .ok (.if_icmp .ne 21, 3) := by decide +kernel
theorem dL_closes_202 : decode cL_closes 202 = .ok (.iload 6, 2) := by decide +kernel
theorem dL_closes_204 : decode cL_closes 204 = .ok (.iload 12, 2) := by decide +kernel
theorem dL_closes_206 : decode cL_closes 206 = .ok (.sipush (-902), 3) := by decide +kernel
theorem dL_closes_209 : decode cL_closes 209 = .ok (.if_icmp .eq 7, 3) := by decide +kernel
theorem dL_closes_212 : decode cL_closes 212 = .ok (.iconst 1, 1) := by decide +kernel
theorem dL_closes_213 : decode cL_closes 213 = .ok (.goto 4, 3) := by decide +kernel
theorem dL_closes_216 : decode cL_closes 216 = .ok (.iconst 0, 1) := by decide +kernel
theorem dL_closes_217 : decode cL_closes 217 = .ok (.if_icmp .ne 20, 3) := by decide +kernel
theorem dL_closes_220 : decode cL_closes 220 = .ok (.iload 6, 2) := by decide +kernel
theorem dL_closes_222 : decode cL_closes 222 = .ok (.aload 5, 2) := by decide +kernel
theorem dL_closes_224 : decode cL_closes 224 = .ok (.iconst 0, 1) := by decide +kernel
theorem dL_closes_225 : decode cL_closes 225 = .ok (.iaload, 1) := by decide +kernel
theorem dL_closes_226 : decode cL_closes 226 = .ok (.ifCond .lt 7, 3) := by decide +kernel
theorem dL_closes_229 : decode cL_closes 229 = .ok (.iconst 1, 1) := by decide +kernel
theorem dL_closes_230 : decode cL_closes 230 = .ok (.goto 4, 3) := by decide +kernel
theorem dL_closes_233 : decode cL_closes 233 = .ok (.iconst 0, 1) := by decide +kernel
theorem dL_closes_234 : decode cL_closes 234 = .ok (.if_icmp .eq 5, 3) := by decide +kernel
theorem dL_closes_237 : decode cL_closes 237 = .ok (.iconst 0, 1) := by decide +kernel
theorem dL_closes_238 : decode cL_closes 238 = .ok (.ireturn, 1) := by decide +kernel
theorem dL_closes_239 : decode cL_closes 239 = .ok (.iload 12, 2) := by decide +kernel
theorem dL_closes_241 : decode cL_closes 241 = .ok (.sipush (-902), 3) := by decide +kernel
theorem dL_closes_244 : decode cL_closes 244 = .ok (.if_icmp .ne 19, 3) := by decide +kernel
theorem dL_closes_247 : decode cL_closes 247 = .ok (.aload_n 0, 1) := by decide +kernel
theorem dL_closes_248 : decode cL_closes 248 = .ok (.invokevirtual 124, 3) := by decide +kernel
theorem dL_closes_251 : decode cL_closes 251 = .ok (.lload 10, 2) := by decide +kernel
theorem dL_closes_253 : decode cL_closes 253 = .ok (.lcmp, 1) := by decide +kernel
theorem dL_closes_254 : decode cL_closes 254 = .ok (.ifCond .ne 7, 3) := by decide +kernel
theorem dL_closes_257 : decode cL_closes 257 = .ok (.iconst 1, 1) := by decide +kernel
theorem dL_closes_258 : decode cL_closes 258 = .ok (.goto 4, 3) := by decide +kernel
theorem dL_closes_261 : decode cL_closes 261 = .ok (.iconst 0, 1) := by decide +kernel
theorem dL_closes_262 : decode cL_closes 262 = .ok (.ireturn, 1) := by decide +kernel
theorem dL_closes_263 : decode cL_closes 263 = .ok (.iload_n 1, 1) := by decide +kernel
theorem dL_closes_264 : decode cL_closes 264 = .ok (.iconst 1, 1) := by decide +kernel
theorem dL_closes_265 : decode cL_closes 265 = .ok (.if_icmp .ne 211, 3) := by decide +kernel
theorem dL_closes_268 : decode cL_closes 268 = .ok (.aload 5, 2) := by decide +kernel
theorem dL_closes_270 : decode cL_closes 270 = .ok (.iconst 0, 1) := by decide +kernel
theorem dL_closes_271 : decode cL_closes 271 = .ok (.iaload, 1) := by decide +kernel
theorem dL_closes_272 : decode cL_closes 272 = .ok (.aload 5, 2) := by decide +kernel
theorem dL_closes_274 : decode cL_closes 274 = .ok (.iconst 1, 1) := by decide +kernel
theorem dL_closes_275 : decode cL_closes 275 = .ok (.iaload, 1) := by decide +kernel
theorem dL_closes_276 : decode cL_closes 276 = .ok (.iadd, 1) := by decide +kernel
theorem dL_closes_277 : decode cL_closes 277 = .ok (.aload 5, 2) := by decide +kernel
theorem dL_closes_279 : decode cL_closes 279 = .ok (.iconst 2, 1) := by decide +kernel
theorem dL_closes_280 : decode cL_closes 280 = .ok (.iaload, 1) := by decide +kernel
theorem dL_closes_281 : decode cL_closes 281 = .ok (.iadd, 1) := by decide +kernel
theorem dL_closes_282 : decode cL_closes 282 = .ok (.iload_n 3, 1) := by decide +kernel
theorem dL_closes_283 : decode cL_closes 283 = .ok (.if_icmp .ne 19, 3) := by decide +kernel
theorem dL_closes_286 : decode cL_closes 286 = .ok (.aload 5, 2) := by decide +kernel
theorem dL_closes_288 : decode cL_closes 288 = .ok (.iconst 1, 1) := by decide +kernel
theorem dL_closes_289 : decode cL_closes 289 = .ok (.iaload, 1) := by decide +kernel
theorem dL_closes_290 : decode cL_closes 290 = .ok (.ifCond .ne 14, 3) := by decide +kernel
theorem dL_closes_293 : decode cL_closes 293 = .ok (.aload 5, 2) := by decide +kernel
theorem dL_closes_295 : decode cL_closes 295 = .ok (.iconst 0, 1) := by decide +kernel
theorem dL_closes_296 : decode cL_closes 296 = .ok (.iaload, 1) := by decide +kernel
theorem dL_closes_297 : decode cL_closes 297 = .ok (.iload 7, 2) := by decide +kernel
theorem dL_closes_299 : decode cL_closes 299 = .ok (.if_icmp .le 5, 3) := by decide +kernel
theorem dL_closes_302 : decode cL_closes 302 = .ok (.iconst 0, 1) := by decide +kernel
theorem dL_closes_303 : decode cL_closes 303 = .ok (.ireturn, 1) := by decide +kernel
theorem dL_closes_304 : decode cL_closes 304 = .ok (.iconst 0, 1) := by decide +kernel
theorem dL_closes_305 : decode cL_closes 305 = .ok (.istore 13, 2) := by decide +kernel
theorem dL_closes_307 : decode cL_closes 307 = .ok (.iload 13, 2) := by decide +kernel
theorem dL_closes_309 : decode cL_closes 309 = .ok (.aload_n 0, 1) := by decide +kernel
theorem dL_closes_310 : decode cL_closes 310 = .ok (.bipush 6, 2) := by decide +kernel
theorem dL_closes_312 : decode cL_closes 312 = .ok (.invokestatic 98, 3) := by decide +kernel
theorem dL_closes_315 : decode cL_closes 315 = .ok (.if_icmp .ge 158, 3) := by decide +kernel
theorem dL_closes_318 : decode cL_closes 318 = .ok (.aload_n 0, 1) := by decide +kernel
theorem dL_closes_319 : decode cL_closes 319 = .ok (.iload 13, 2) := by decide +kernel
theorem dL_closes_321 : decode cL_closes 321 = .ok (.iload_n 2, 1) := by decide +kernel
theorem dL_closes_322 : decode cL_closes 322 = .ok (.invokestatic 131, 3) := by decide +kernel
theorem dL_closes_325 : decode cL_closes 325 = .ok (.aload 4, 2) := by decide +kernel
theorem dL_closes_327 : decode cL_closes 327 = .ok (.iload 13, 2) := by decide +kernel
theorem dL_closes_329 : decode cL_closes 329 = .ok (.iaload, 1) := by decide +kernel
theorem dL_closes_330 : decode cL_closes 330 = .ok (.if_icmp .eq 5, 3) := by decide +kernel
theorem dL_closes_333 : decode cL_closes 333 = .ok (.iconst 0, 1) := by decide +kernel
theorem dL_closes_334 : decode cL_closes 334 = .ok (.ireturn, 1) := by decide +kernel
theorem dL_closes_335 : decode cL_closes 335 = .ok (.iconst 0, 1) := by decide +kernel
theorem dL_closes_336 : decode cL_closes 336 = .ok (.istore 14, 2) := by decide +kernel
theorem dL_closes_338 : decode cL_closes 338 = .ok (.iload 14, 2) := by decide +kernel
theorem dL_closes_340 : decode cL_closes 340 = .ok (.aload_n 0, 1) := by decide +kernel
theorem dL_closes_341 : decode cL_closes 341 = .ok (.bipush 6, 2) := by decide +kernel
theorem dL_closes_343 : decode cL_closes 343 = .ok (.invokestatic 98, 3) := by decide +kernel
theorem dL_closes_346 : decode cL_closes 346 = .ok (.if_icmp .ge 121, 3) := by decide +kernel
theorem dL_closes_349 : decode cL_closes 349 = .ok (.aload_n 0, 1) := by decide +kernel
theorem dL_closes_350 : decode cL_closes 350 = .ok (.iconst 4, 1) := by decide +kernel
theorem dL_closes_351 : decode cL_closes 351 = .ok (.invokestatic 98, 3) := by decide +kernel
theorem dL_closes_354 : decode cL_closes 354 = .ok (.iload_n 2, 1) := by decide +kernel
theorem dL_closes_355 : decode cL_closes 355 = .ok (.if_icmp .ne 112, 3) := by decide +kernel
theorem dL_closes_358 : decode cL_closes 358 = .ok (.aload 4, 2) := by decide +kernel
theorem dL_closes_360 : decode cL_closes 360 = .ok (.iload 14, 2) := by decide +kernel
theorem dL_closes_362 : decode cL_closes 362 = .ok (.iaload, 1) := by decide +kernel
theorem dL_closes_363 : decode cL_closes 363 = .ok (.ifCond .lt 17, 3) := by decide +kernel
theorem dL_closes_366 : decode cL_closes 366 = .ok (.aload_n 0, 1) := by decide +kernel
theorem dL_closes_367 : decode cL_closes 367 = .ok (.iload 14, 2) := by decide +kernel
theorem dL_closes_369 : decode cL_closes 369 = .ok (.iconst 0, 1) := by decide +kernel
theorem dL_closes_370 : decode cL_closes 370 = .ok (.invokestatic 106, 3) := by decide +kernel
theorem dL_closes_373 : decode cL_closes 373 = .ok (.ifCond .ne 7, 3) := by decide +kernel
theorem dL_closes_376 : decode cL_closes 376 = .ok (.iconst 1, 1) := by decide +kernel
theorem dL_closes_377 : decode cL_closes 377 = .ok (.goto 4, 3) := by decide +kernel
theorem dL_closes_380 : decode cL_closes 380 = .ok (.iconst 0, 1) := by decide +kernel
theorem dL_closes_381 : decode cL_closes 381 = .ok (.istore 15, 2) := by decide +kernel
theorem dL_closes_383 : decode cL_closes 383 = .ok (.aload 4, 2) := by decide +kernel
theorem dL_closes_385 : decode cL_closes 385 = .ok (.iload 13, 2) := by decide +kernel
theorem dL_closes_387 : decode cL_closes 387 = .ok (.iaload, 1) := by decide +kernel
theorem dL_closes_388 : decode cL_closes 388 = .ok (.ifCond .lt 34, 3) := by decide +kernel
theorem dL_closes_391 : decode cL_closes 391 = .ok (.aload_n 0, 1) := by decide +kernel
theorem dL_closes_392 : decode cL_closes 392 = .ok (.iload 13, 2) := by decide +kernel
theorem dL_closes_394 : decode cL_closes 394 = .ok (.iconst 0, 1) := by decide +kernel
theorem dL_closes_395 : decode cL_closes 395 = .ok (.invokestatic 106, 3) := by decide +kernel
theorem dL_closes_398 : decode cL_closes 398 = .ok (.iconst 1, 1) := by decide +kernel
theorem dL_closes_399 : decode cL_closes 399 = .ok (.if_icmp .ne 23, 3) := by decide +kernel
theorem dL_closes_402 : decode cL_closes 402 = .ok (.iload 15, 2) := by decide +kernel
theorem dL_closes_404 : decode cL_closes 404 = .ok (.ifCond .eq 18, 3) := by decide +kernel
theorem dL_closes_407 : decode cL_closes 407 = .ok (.aload 4, 2) := by decide +kernel
theorem dL_closes_409 : decode cL_closes 409 = .ok (.iload 14, 2) := by decide +kernel
theorem dL_closes_411 : decode cL_closes 411 = .ok (.iaload, 1) := by decide +kernel
theorem dL_closes_412 : decode cL_closes 412 = .ok (.aload 4, 2) := by decide +kernel
theorem dL_closes_414 : decode cL_closes 414 = .ok (.iload 13, 2) := by decide +kernel
theorem dL_closes_416 : decode cL_closes 416 = .ok (.iaload, 1) := by decide +kernel
theorem dL_closes_417 : decode cL_closes 417 = .ok (.if_icmp .le 5, 3) := by decide +kernel
theorem dL_closes_420 : decode cL_closes 420 = .ok (.iconst 0, 1) := by decide +kernel
theorem dL_closes_421 : decode cL_closes 421 = .ok (.ireturn, 1) := by decide +kernel
theorem dL_closes_422 : decode cL_closes 422 = .ok (.aload_n 0, 1) := by decide +kernel
theorem dL_closes_423 : decode cL_closes 423 = .ok (.iload 13, 2) := by decide +kernel
theorem dL_closes_425 : decode cL_closes 425 = .ok (.bipush 6, 2) := by decide +kernel
theorem dL_closes_427 : decode cL_closes 427 = .ok (.invokestatic 106, 3) := by decide +kernel
theorem dL_closes_430 : decode cL_closes 430 = .ok (.iconst 1, 1) := by decide +kernel
theorem dL_closes_431 : decode cL_closes 431 = .ok (.if_icmp .ne 30, 3) := by decide +kernel
theorem dL_closes_434 : decode cL_closes 434 = .ok (.aload_n 0, 1) := by decide +kernel
theorem dL_closes_435 : decode cL_closes 435 = .ok (.iload 14, 2) := by decide +kernel
theorem dL_closes_437 : decode cL_closes 437 = .ok (.bipush 6, 2) := by decide +kernel
theorem dL_closes_439 : decode cL_closes 439 = .ok (.invokestatic 106, 3) := by decide +kernel
theorem dL_closes_442 : decode cL_closes 442 = .ok (.iconst 1, 1) := by decide +kernel
theorem dL_closes_443 : decode cL_closes 443 = .ok (.if_icmp .ne 18, 3) := by decide +kernel
theorem dL_closes_446 : decode cL_closes 446 = .ok (.aload 4, 2) := by decide +kernel
theorem dL_closes_448 : decode cL_closes 448 = .ok (.iload 14, 2) := by decide +kernel
theorem dL_closes_450 : decode cL_closes 450 = .ok (.iaload, 1) := by decide +kernel
theorem dL_closes_451 : decode cL_closes 451 = .ok (.aload 4, 2) := by decide +kernel
theorem dL_closes_453 : decode cL_closes 453 = .ok (.iload 13, 2) := by decide +kernel
theorem dL_closes_455 : decode cL_closes 455 = .ok (.iaload, 1) := by decide +kernel
theorem dL_closes_456 : decode cL_closes 456 = .ok (.if_icmp .eq 5, 3) := by decide +kernel
theorem dL_closes_459 : decode cL_closes 459 = .ok (.iconst 0, 1) := by decide +kernel
theorem dL_closes_460 : decode cL_closes 460 = .ok (.ireturn, 1) := by decide +kernel
theorem dL_closes_461 : decode cL_closes 461 = .ok (.iinc 14 1, 3) := by decide +kernel
theorem dL_closes_464 : decode cL_closes 464 = .ok (.goto (-126), 3) := by decide +kernel
theorem dL_closes_467 : decode cL_closes 467 = .ok (.iinc 13 1, 3) := by decide +kernel
theorem dL_closes_470 : decode cL_closes 470 = .ok (.goto (-163), 3) := by decide +kernel
theorem dL_closes_473 : decode cL_closes 473 = .ok (.goto 37, 3) := by decide +kernel
theorem dL_closes_476 : decode cL_closes 476 = .ok (.iload 12, 2) := by decide +kernel
theorem dL_closes_478 : decode cL_closes 478 = .ok (.iconst 2, 1) := by decide +kernel
theorem dL_closes_479 : decode cL_closes 479 = .ok (.if_icmp .eq 31, 3) := by decide +kernel
theorem dL_closes_482 : decode cL_closes 482 = .ok (.aload_n 0, 1) := by decide +kernel
theorem dL_closes_483 : decode cL_closes 483 = .ok (.iconst 4, 1) := by decide +kernel
theorem dL_closes_484 : decode cL_closes 484 = .ok (.invokestatic 98, 3) := by decide +kernel
theorem dL_closes_487 : decode cL_closes 487 = .ok (.iload_n 2, 1) := by decide +kernel
theorem dL_closes_488 : decode cL_closes 488 = .ok (.if_icmp .ne 22, 3) := by decide +kernel
theorem dL_closes_491 : decode cL_closes 491 = .ok (.aload_n 0, 1) := by decide +kernel
theorem dL_closes_492 : decode cL_closes 492 = .ok (.bipush 7, 2) := by decide +kernel
theorem dL_closes_494 : decode cL_closes 494 = .ok (.invokestatic 98, 3) := by decide +kernel
theorem dL_closes_497 : decode cL_closes 497 = .ok (.iload 8, 2) := by decide +kernel
theorem dL_closes_499 : decode cL_closes 499 = .ok (.iload 9, 2) := by decide +kernel
theorem dL_closes_501 : decode cL_closes 501 = .ok (.isub, 1) := by decide +kernel
theorem dL_closes_502 : decode cL_closes 502 = .ok (.iload 7, 2) := by decide +kernel
theorem dL_closes_504 : decode cL_closes 504 = .ok (.iadd, 1) := by decide +kernel
theorem dL_closes_505 : decode cL_closes 505 = .ok (.if_icmp .eq 5, 3) := by decide +kernel
theorem dL_closes_508 : decode cL_closes 508 = .ok (.iconst 0, 1) := by decide +kernel
theorem dL_closes_509 : decode cL_closes 509 = .ok (.ireturn, 1) := by decide +kernel
theorem dL_closes_510 : decode cL_closes 510 = .ok (.aload_n 0, 1) := by decide +kernel
theorem dL_closes_511 : decode cL_closes 511 = .ok (.invokestatic 133, 3) := by decide +kernel
theorem dL_closes_514 : decode cL_closes 514 = .ok (.ifCond .lt 47, 3) := by decide +kernel
theorem dL_closes_517 : decode cL_closes 517 = .ok (.aload_n 0, 1) := by decide +kernel
theorem dL_closes_518 : decode cL_closes 518 = .ok (.iconst 3, 1) := by decide +kernel
theorem dL_closes_519 : decode cL_closes 519 = .ok (.invokestatic 98, 3) := by decide +kernel
theorem dL_closes_522 : decode cL_closes 522 = .ok (.iload_n 1, 1) := by decide +kernel
theorem dL_closes_523 : decode cL_closes 523 = .ok (.if_icmp .ne 38, 3) := by decide +kernel
theorem dL_closes_526 : decode cL_closes 526 = .ok (.aload_n 0, 1) := by decide +kernel
theorem dL_closes_527 : decode cL_closes 527 = .ok (.bipush 7, 2) := by decide +kernel
theorem dL_closes_529 : decode cL_closes 529 = .ok (.invokestatic 98, 3) := by decide +kernel
theorem dL_closes_532 : decode cL_closes 532 = .ok (.iload 8, 2) := by decide +kernel
theorem dL_closes_534 : decode cL_closes 534 = .ok (.if_icmp .ne 27, 3) := by decide +kernel
theorem dL_closes_537 : decode cL_closes 537 = .ok (.aload_n 0, 1) := by decide +kernel
theorem dL_closes_538 : decode cL_closes 538 = .ok (.bipush 10, 2) := by decide +kernel
theorem dL_closes_540 : decode cL_closes 540 = .ok (.invokestatic 98, 3) := by decide +kernel
theorem dL_closes_543 : decode cL_closes 543 = .ok (.iload 9, 2) := by decide +kernel
theorem dL_closes_545 : decode cL_closes 545 = .ok (.if_icmp .ne 16, 3) := by decide +kernel
theorem dL_closes_548 : decode cL_closes 548 = .ok (.aload_n 0, 1) := by decide +kernel
theorem dL_closes_549 : decode cL_closes 549 = .ok (.invokestatic 128, 3) := by decide +kernel
theorem dL_closes_552 : decode cL_closes 552 = .ok (.iload 12, 2) := by decide +kernel
theorem dL_closes_554 : decode cL_closes 554 = .ok (.if_icmp .ne 7, 3) := by decide +kernel
theorem dL_closes_557 : decode cL_closes 557 = .ok (.iconst 1, 1) := by decide +kernel
theorem dL_closes_558 : decode cL_closes 558 = .ok (.goto 4, 3) := by decide +kernel
theorem dL_closes_561 : decode cL_closes 561 = .ok (.iconst 0, 1) := by decide +kernel
theorem dL_closes_562 : decode cL_closes 562 = .ok (.ireturn, 1) := by decide +kernel
set_option maxRecDepth 20000 in
theorem ggL_needs_L_neededMark : GoodIn wsL_needs wsL_neededMark := goodIn_ca (goodIn_ca (goodIn_ca (goodIn_r _ [4, 5, 6, 7, 8, 9, 10, 11, 12, 13, 14, 15, 16, 17, 18, 19, 20, 21, 22, 23, 24, 25, 26, 27, 28, 29, 30, 31, 32, 33, 34, 35, 36, 37, 38, 39, 40, 41, 42, 43, 44, 45, 46, 47, 48, 49, 50, 51, 52, 53, 54, 55, 56, 57, 58, 59, 60, 61, 62, 63, 64, 65, 66, 67, 68, 69, 70, 71, 72, 73, 74, 75, 76, 77, 78, 79, 80, 81, 82, 83, 84, 85, 86, 87, 88, 89, 90, 91, 92, 93, 94, 95, 96, 292, 293, 294, 295, 296, 297, 298, 299, 300, 301, 302, 303, 304, 305, 306, 307, 308, 309, 310, 311, 312, 313, 314, 315, 316, 317, 318] (by decide +kernel) (by decide +kernel)) (goodIn_sub (fun _ h => List.mem_cons_of_mem _ (List.mem_append_left _ (List.mem_append_left _ (List.mem_append_right _ h)))) (by decide +kernel))) (goodIn_sub (fun _ h => List.mem_cons_of_mem _ (List.mem_append_left _ (List.mem_append_right _ h))) (by decide +kernel))) (goodIn_sub (fun _ h => List.mem_cons_of_mem _ (List.mem_append_right _ h)) (by decide +kernel))
set_option maxRecDepth 20000 in
theorem gL_needs_L_neededMark : GoodIn wsL_needs (va_wsS RL 135 yL_neededMark wsL_neededMark) := goodIn_app (goodIn_of _ (by decide +kernel)) ggL_needs_L_neededMark
set_option maxRecDepth 20000 in
theorem ggL_needs_L_info : GoodIn wsL_needs wsL_info := goodIn_ca (goodIn_r _ [99, 6, 100, 101, 102, 11, 103, 14, 40, 41, 42, 43, 44, 45, 46, 47, 104, 105, 106, 71, 107, 73, 108, 80, 109, 110, 111, 112, 75, 113, 114, 115, 116, 37, 117, 39, 118, 119, 120, 121, 122, 123, 35, 36, 38, 124, 125, 126, 127, 128, 129, 292, 293, 294, 295, 296, 297, 298, 299, 300, 301, 302, 303, 304, 305, 306, 307, 308, 309, 310, 319, 320, 321, 322, 311, 312, 313, 314, 315, 316, 317, 323, 324, 325, 326] (by decide +kernel) (by decide +kernel)) (goodIn_sub (fun _ h => List.mem_cons_of_mem _ (List.mem_append_left _ (List.mem_append_right _ h))) (by decide +kernel))
set_option maxRecDepth 20000 in
theorem gL_needs_L_info : GoodIn wsL_needs (va_wsS RL 98 yL_info wsL_info) := goodIn_app (goodIn_of _ (by decide +kernel)) ggL_needs_L_info
set_option maxRecDepth 20000 in
theorem ggL_needs_L_entrant : GoodIn wsL_needs wsL_entrant := goodIn_ca (goodIn_ca (goodIn_r _ [132, 5, 6, 133, 134, 135, 11, 136, 14, 30, 31, 32, 33, 34, 35, 36, 37, 38, 39, 25, 26, 27, 28, 29, 40, 41, 42, 43, 44, 45, 46, 47, 137, 138, 139, 71, 140, 112, 75, 113, 73, 141, 119, 120, 121, 122, 123, 142, 143, 144, 56, 145, 146, 147, 148, 149, 150, 151, 96, 59, 60, 61, 62, 152, 153, 154, 155, 156, 157, 158, 159, 109, 74, 160, 161, 162, 22, 163, 24, 164, 165, 166, 167, 89, 90, 91, 92, 93, 94, 95, 64, 65, 66, 67, 168, 169, 170, 171, 172, 69, 70, 72, 76, 77, 78, 79, 80, 81, 82, 83, 84, 85, 86, 87, 88, 173, 174, 175, 176, 177, 54, 55, 57, 58, 178, 179, 180, 181, 182, 183, 184, 127, 185, 129, 186, 187, 188, 189, 190, 292, 293, 294, 295, 296, 297, 298, 299, 300, 301, 302, 303, 304, 305, 306, 307, 308, 311, 312, 323, 324, 325, 326, 313, 314, 315, 316, 317, 309, 310, 318] (by decide +kernel) (by decide +kernel)) (goodIn_sub (fun _ h => List.mem_cons_of_mem _ (List.mem_append_left _ (List.mem_append_left _ (List.mem_append_right _ h)))) (by decide +kernel))) (goodIn_sub (fun _ h => List.mem_cons_of_mem _ (List.mem_append_left _ (List.mem_append_right _ h))) (by decide +kernel))
set_option maxRecDepth 20000 in
theorem gL_needs_L_entrant : GoodIn wsL_needs (va_wsS RL 106 yL_entrant wsL_entrant) := goodIn_app (goodIn_of _ (by decide +kernel)) ggL_needs_L_entrant
set_option maxRecDepth 20000 in
theorem ggL_needs_L_mark : GoodIn wsL_needs wsL_mark := goodIn_ca (goodIn_ca (goodIn_ca (goodIn_r _ [193, 5, 6, 7, 194, 195, 196, 11, 197, 14, 15, 16, 17, 18, 19, 20, 21, 22, 23, 24, 25, 26, 27, 28, 29, 30, 31, 32, 33, 34, 35, 36, 37, 38, 39, 40, 41, 42, 43, 44, 45, 46, 47, 198, 199, 200, 201, 202, 203, 204, 205, 71, 206, 109, 113, 75, 182, 183, 184, 127, 185, 129, 177, 54, 55, 56, 57, 58, 59, 60, 61, 62, 63, 64, 65, 66, 67, 48, 49, 50, 51, 52, 207, 208, 209, 210, 211, 212, 213, 214, 215, 216, 217, 218, 219, 220, 221, 110, 108, 80, 111, 112, 222, 223, 73, 74, 224, 225, 226, 227, 228, 229, 230, 231, 232, 233, 234, 235, 236, 86, 78, 87, 237, 238, 239, 240, 241, 242, 243, 244, 122, 245, 246, 247, 248, 249, 250, 251, 252, 253, 254, 255, 256, 257, 258, 259, 260, 146, 261, 262, 151, 263, 264, 265, 92, 266, 94, 267, 268, 269, 270, 271, 272, 273, 274, 275, 157, 158, 159, 276, 277, 278, 279, 280, 153, 154, 155, 156, 160, 161, 162, 163, 164, 165, 166, 167, 89, 90, 91, 93, 95, 292, 293, 294, 295, 296, 297, 298, 299, 300, 301, 302, 303, 304, 305, 306, 307, 308, 309, 310, 311, 312, 323, 324, 325, 326, 313, 314, 315, 316, 317, 327, 328, 319, 320, 321, 322, 329, 318] (by decide +kernel) (by decide +kernel)) (goodIn_sub (fun _ h => List.mem_cons_of_mem _ (List.mem_append_left _ (List.mem_append_left _ (List.mem_append_right _ h)))) (by decide +kernel))) (goodIn_sub (fun _ h => List.mem_cons_of_mem _ (List.mem_append_left _ (List.mem_append_right _ h))) (by decide +kernel))) (goodIn_sub (fun _ h => List.mem_cons_of_mem _ (List.mem_append_right _ h)) (by decide +kernel))
set_option maxRecDepth 20000 in
theorem gL_needs_L_mark : GoodIn wsL_needs (va_wsS RL 137 yL_mark wsL_mark) := goodIn_app (goodIn_of _ (by decide +kernel)) ggL_needs_L_mark
set_option maxRecDepth 20000 in
theorem ggL_needs_L_undo : GoodIn wsL_needs wsL_undo := goodIn_ca (goodIn_r _ [283, 7, 284, 285, 286, 11, 287, 202, 14, 48, 49, 50, 51, 52, 288, 289, 290, 210, 291, 212, 213, 218, 219, 220, 71, 221, 109, 110, 108, 80, 111, 112, 222, 223, 73, 75, 74, 113, 224, 225, 226, 227, 228, 229, 230, 231, 232, 233, 234, 235, 236, 86, 78, 87, 237, 238, 239, 240, 241, 242, 243, 37, 244, 39, 122, 245, 246, 247, 248, 249, 250, 251, 252, 253, 254, 255, 22, 256, 24, 67, 257, 258, 259, 56, 260, 146, 261, 262, 151, 62, 263, 264, 265, 92, 266, 94, 267, 268, 269, 127, 270, 271, 272, 129, 273, 274, 292, 293, 294, 327, 328, 295, 296, 297, 298, 299, 300, 301, 302, 303, 304, 305, 306, 307, 308, 319, 320, 321, 322, 311, 312, 329, 309, 310, 313, 314, 315, 316, 317, 318, 323, 324, 325, 326] (by decide +kernel) (by decide +kernel)) (goodIn_sub (fun _ h => List.mem_cons_of_mem _ (List.mem_append_right _ h)) (by decide +kernel))
set_option maxRecDepth 20000 in
theorem gL_needs_L_undo : GoodIn wsL_needs (va_wsS RL 133 yL_undo wsL_undo) := goodIn_app (goodIn_of _ (by decide +kernel)) ggL_needs_L_undo
theorem dL_needs_0 : decode cL_needs 0 = .ok (.aload_n 0, 1) := by decide +kernel
theorem dL_needs_1 : decode cL_needs 1 = .ok (.iload_n 1, 1) := by decide +kernel
theorem dL_needs_2 : decode cL_needs 2 = .ok (.iload_n 2, 1) := by decide +kernel
theorem dL_needs_3 : decode cL_needs 3 = .ok (.iload_n 3, 1) := by decide +kernel
theorem dL_needs_4 : decode cL_needs 4 = .ok (.invokestatic 135, 3) := by decide +kernel
theorem dL_needs_7 : decode cL_needs 7 = .ok (.istore 4, 2) := by decide +kernel
theorem dL_needs_9 : decode cL_needs 9 = .ok (.aload_n 0, 1) := by decide +kernel
theorem dL_needs_10 : decode cL_needs 10 = .ok (.iload_n 1, 1) := by decide +kernel
theorem dL_needs_11 : decode cL_needs 11 = .ok (.iload_n 2, 1) := by decide +kernel
theorem dL_needs_12 : decode cL_needs 12 = .ok (.iconst 0, 1) := by decide +kernel
theorem dL_needs_13 : decode cL_needs 13 = .ok (.invokestatic 135, 3) := by decide +kernel
theorem dL_needs_16 : decode cL_needs 16 = .ok (.istore 5, 2) := by decide +kernel
theorem dL_needs_18 : decode cL_needs 18 = .ok (.iload 4, 2) := by decide +kernel
theorem dL_needs_20 : decode cL_needs 20 = .ok (.iconst (-1), 1) := by decide +kernel
theorem dL_needs_21 : decode cL_needs 21 = .ok (.if_icmp .ge 56, 3) := by decide +kernel
theorem dL_needs_24 : decode cL_needs 24 = .ok (.iload 4, 2) := by decide +kernel
theorem dL_needs_26 : decode cL_needs 26 = .ok (.sipush (-902), 3) := by decide +kernel
theorem dL_needs_29 : decode cL_needs 29 = .ok (.if_icmp .ne 46, 3) := by decide +kernel
theorem dL_needs_32 : decode cL_needs 32 = .ok (.iload 5, 2) := by decide +kernel
theorem dL_needs_34 : decode cL_needs 34 = .ok (.sipush (-902), 3) := by decide +kernel
theorem dL_needs_37 : decode cL_needs 37 = .ok (.if_icmp .ne 38, 3) := by decide +kernel
theorem dL_needs_40 : decode cL_needs 40 = .ok (.aload_n 0, 1) := by decide +kernel
theorem dL_needs_41 : decode cL_needs 41 = .ok (.iconst 3, 1) := by decide +kernel
theorem dL_needs_42 : decode cL_needs 42 = .ok (.invokestatic 98, 3) := by decide +kernel
theorem dL_needs_45 : decode cL_needs 45 = .ok (.iconst 1, 1) := by decide +kernel
theorem dL_needs_46 : decode cL_needs 46 = .ok (.if_icmp .ne 25, 3) := by decide +kernel
theorem dL_needs_49 : decode cL_needs 49 = .ok (.aload_n 0, 1) := by decide +kernel
theorem dL_needs_50 : decode cL_needs 50 = .ok (.iload_n 2, 1) := by decide +kernel
theorem dL_needs_51 : decode cL_needs 51 = .ok (.iconst 2, 1) := by decide +kernel
theorem dL_needs_52 : decode cL_needs 52 = .ok (.invokestatic 106, 3) := by decide +kernel
theorem dL_needs_55 : decode cL_needs 55 = .ok (.ifCond .lt 16, 3) := by decide +kernel
theorem dL_needs_58 : decode cL_needs 58 = .ok (.aload_n 0, 1) := by decide +kernel
theorem dL_needs_59 : decode cL_needs 59 = .ok (.iload_n 1, 1) := by decide +kernel
theorem dL_needs_60 : decode cL_needs 60 = .ok (.iload_n 2, 1) := by decide +kernel
theorem dL_needs_61 : decode cL_needs 61 = .ok (.iconst 0, 1) := by decide +kernel
theorem dL_needs_62 : decode cL_needs 62 = .ok (.invokestatic 137, 3) := by decide +kernel
theorem dL_needs_65 : decode cL_needs 65 = .ok (.sipush (-902), 3) := by decide +kernel
theorem dL_needs_68 : decode cL_needs 68 = .ok (.if_icmp .ne 7, 3) := by decide +kernel
theorem dL_needs_71 : decode cL_needs 71 = .ok (.iconst 1, 1) := by decide +kernel
theorem dL_needs_72 : decode cL_needs 72 = .ok (.goto 4, 3) := by decide +kernel
theorem dL_needs_75 : decode cL_needs 75 = .ok (.iconst 0, 1) := by decide +kernel
theorem dL_needs_76 : decode cL_needs 76 = .ok (.ireturn, 1) := by decide +kernel
theorem dL_needs_77 : decode cL_needs 77 = .ok (.iload 5, 2) := by decide +kernel
theorem dL_needs_79 : decode cL_needs 79 = .ok (.ifCond .eq 5, 3) := by decide +kernel
theorem dL_needs_82 : decode cL_needs 82 = .ok (.iconst 0, 1) := by decide +kernel
theorem dL_needs_83 : decode cL_needs 83 = .ok (.ireturn, 1) := by decide +kernel
theorem dL_needs_84 : decode cL_needs 84 = .ok (.iconst 1, 1) := by decide +kernel
theorem dL_needs_85 : decode cL_needs 85 = .ok (.istore 6, 2) := by decide +kernel
theorem dL_needs_87 : decode cL_needs 87 = .ok (.iload 4, 2) := by decide +kernel
theorem dL_needs_89 : decode cL_needs 89 = .ok (.ifCond .le 40, 3) := by decide +kernel
theorem dL_needs_92 : decode cL_needs 92 = .ok (.aload_n 0, 1) := by decide +kernel
theorem dL_needs_93 : decode cL_needs 93 = .ok (.iload_n 1, 1) := by decide +kernel
theorem dL_needs_94 : decode cL_needs 94 = .ok (.iload_n 2, 1) := by decide +kernel
theorem dL_needs_95 : decode cL_needs 95 = .ok (.iload 4, 2) := by decide +kernel
theorem dL_needs_97 : decode cL_needs 97 = .ok (.iconst 1, 1) := by decide +kernel
theorem dL_needs_98 : decode cL_needs 98 = .ok (.isub, 1) := by decide +kernel
theorem dL_needs_99 : decode cL_needs 99 = .ok (.invokestatic 137, 3) := by decide +kernel
theorem dL_needs_102 : decode cL_needs 102 = .ok (.ifCond .lt 24, 3) := by decide +kernel
theorem dL_needs_105 : decode cL_needs 105 = .ok (.aload_n 0, 1) := by decide +kernel
theorem dL_needs_106 : decode cL_needs 106 = .ok (.iload_n 2, 1) := by decide +kernel
theorem dL_needs_107 : decode cL_needs 107 = .ok (.iconst 4, 1) := by decide +kernel
theorem dL_needs_108 : decode cL_needs 108 = .ok (.invokestatic 106, 3) := by decide +kernel
theorem dL_needs_111 : decode cL_needs 111 = .ok (.iload_n 3, 1) := by decide +kernel
theorem dL_needs_112 : decode cL_needs 112 = .ok (.if_icmp .ge 14, 3) := by decide +kernel
theorem dL_needs_115 : decode cL_needs 115 = .ok (.aload_n 0, 1) := by decide +kernel
theorem dL_needs_116 : decode cL_needs 116 = .ok (.invokestatic 133, 3) := by decide +kernel
theorem dL_needs_119 : decode cL_needs 119 = .ok (.ifCond .lt 7, 3) := by decide +kernel
theorem dL_needs_122 : decode cL_needs 122 = .ok (.iconst 1, 1) := by decide +kernel
theorem dL_needs_123 : decode cL_needs 123 = .ok (.goto 4, 3) := by decide +kernel
theorem dL_needs_126 : decode cL_needs 126 = .ok (.iconst 0, 1) := by decide +kernel
theorem dL_needs_127 : decode cL_needs 127 = .ok (.istore 6, 2) := by decide +kernel
theorem dL_needs_129 : decode cL_needs 129 = .ok (.iload 4, 2) := by decide +kernel
theorem dL_needs_131 : decode cL_needs 131 = .ok (.ifCond .lt 46, 3) := by decide +kernel
theorem dL_needs_134 : decode cL_needs 134 = .ok (.iload 6, 2) := by decide +kernel
theorem dL_needs_136 : decode cL_needs 136 = .ok (.ifCond .eq 35, 3) := by decide +kernel
theorem dL_needs_139 : decode cL_needs 139 = .ok (.aload_n 0, 1) := by decide +kernel
theorem dL_needs_140 : decode cL_needs 140 = .ok (.iload_n 1, 1) := by decide +kernel
theorem dL_needs_141 : decode cL_needs 141 = .ok (.iload_n 2, 1) := by decide +kernel
theorem dL_needs_142 : decode cL_needs 142 = .ok (.iload 4, 2) := by decide +kernel
theorem dL_needs_144 : decode cL_needs 144 = .ok (.invokestatic 137, 3) := by decide +kernel
theorem dL_needs_147 : decode cL_needs 147 = .ok (.ifCond .lt 24, 3) := by decide +kernel
theorem dL_needs_150 : decode cL_needs 150 = .ok (.aload_n 0, 1) := by decide +kernel
theorem dL_needs_151 : decode cL_needs 151 = .ok (.iload_n 2, 1) := by decide +kernel
theorem dL_needs_152 : decode cL_needs 152 = .ok (.iconst 4, 1) := by decide +kernel
theorem dL_needs_153 : decode cL_needs 153 = .ok (.invokestatic 106, 3) := by decide +kernel
theorem dL_needs_156 : decode cL_needs 156 = .ok (.iload_n 3, 1) := by decide +kernel
theorem dL_needs_157 : decode cL_needs 157 = .ok (.if_icmp .lt 14, 3) := by decide +kernel
theorem dL_needs_160 : decode cL_needs 160 = .ok (.aload_n 0, 1) := by decide +kernel
theorem dL_needs_161 : decode cL_needs 161 = .ok (.invokestatic 133, 3) := by decide +kernel
theorem dL_needs_164 : decode cL_needs 164 = .ok (.ifCond .lt 7, 3) := by decide +kernel
theorem dL_needs_167 : decode cL_needs 167 = .ok (.iconst 1, 1) := by decide +kernel
theorem dL_needs_168 : decode cL_needs 168 = .ok (.goto 4, 3) := by decide +kernel
theorem dL_needs_171 : decode cL_needs 171 = .ok (.iconst 0, 1) := by decide +kernel
theorem dL_needs_172 : decode cL_needs 172 = .ok (.istore 6, 2) := by decide +kernel
theorem dL_needs_174 : decode cL_needs 174 = .ok (.goto 38, 3) := by decide +kernel
theorem dL_needs_177 : decode cL_needs 177 = .ok (.aload_n 0, 1) := by decide +kernel
theorem dL_needs_178 : decode cL_needs 178 = .ok (.iload_n 1, 1) := by decide +kernel
theorem dL_needs_179 : decode cL_needs 179 = .ok (.iload_n 2, 1) := by decide +kernel
theorem dL_needs_180 : decode cL_needs 180 = .ok (.bipush 100, 2) := by decide +kernel
theorem dL_needs_182 : decode cL_needs 182 = .ok (.invokestatic 137, 3) := by decide +kernel
theorem dL_needs_185 : decode cL_needs 185 = .ok (.ifCond .lt 24, 3) := by decide +kernel
theorem dL_needs_188 : decode cL_needs 188 = .ok (.aload_n 0, 1) := by decide +kernel
theorem dL_needs_189 : decode cL_needs 189 = .ok (.iload_n 2, 1) := by decide +kernel
theorem dL_needs_190 : decode cL_needs 190 = .ok (.iconst 4, 1) := by decide +kernel
theorem dL_needs_191 : decode cL_needs 191 = .ok (.invokestatic 106, 3) := by decide +kernel
theorem dL_needs_194 : decode cL_needs 194 = .ok (.iload_n 3, 1) := by decide +kernel
theorem dL_needs_195 : decode cL_needs 195 = .ok (.if_icmp .ge 14, 3) := by decide +kernel
theorem dL_needs_198 : decode cL_needs 198 = .ok (.aload_n 0, 1) := by decide +kernel
theorem dL_needs_199 : decode cL_needs 199 = .ok (.invokestatic 133, 3) := by decide +kernel
theorem dL_needs_202 : decode cL_needs 202 = .ok (.ifCond .lt 7, 3) := by decide +kernel
theorem dL_needs_205 : decode cL_needs 205 = .ok (.iconst 1, 1) := by decide +kernel
theorem dL_needs_206 : decode cL_needs 206 = .ok (.goto 4, 3) := by decide +kernel
theorem dL_needs_209 : decode cL_needs 209 = .ok (.iconst 0, 1) := by decide +kernel
theorem dL_needs_210 : decode cL_needs 210 = .ok (.istore 6, 2) := by decide +kernel
theorem dL_needs_212 : decode cL_needs 212 = .ok (.iload 6, 2) := by decide +kernel
theorem dL_needs_214 : decode cL_needs 214 = .ok (.ireturn, 1) := by decide +kernel
set_option maxRecDepth 20000 in
theorem ggL_refuses_X11_checksum : GoodIn wsL_refuses wsX11_checksum := goodIn_r _ [5, 6, 7, 8, 9, 10, 11, 12, 13, 14, 15, 16, 17, 18, 19, 20, 21, 22, 23, 24, 25, 26, 27, 28, 29, 30, 31, 32, 33, 34, 35, 36, 37, 38, 39, 40, 41, 42, 43, 44, 45, 46, 4, 47, 48, 49, 50, 51, 52, 53, 54, 55, 56, 57, 58, 59, 60, 61, 62, 63, 64, 65, 66, 67, 68, 69, 70, 71, 72, 73, 74, 75, 76, 77, 78, 79, 80, 81, 82, 83, 84, 85, 86, 87, 88, 89, 90, 91, 92, 93, 94, 95, 96, 97, 98, 99, 100, 101, 102, 103, 104, 105, 106, 107, 108, 109, 110, 111, 112, 113, 114, 115, 116, 117, 118, 119, 120, 121, 122, 123, 124, 125, 126, 127, 128, 129, 130, 131, 132, 133, 134, 135, 136, 137, 138, 139, 140, 141, 142, 143, 144, 145, 146, 147, 148, 149, 150, 151, 152, 153, 154, 155, 156, 157, 158, 159, 160, 161, 162, 163, 164, 165, 166, 167, 168, 169, 170, 171, 172, 173, 174, 175, 176, 177, 178, 179, 180, 181, 182, 183, 184, 185, 186, 187, 188, 189, 190, 191, 192, 193, 194, 195, 196, 197, 198, 199, 200, 201, 202, 203, 204, 205, 206, 207, 208, 209, 210, 211, 212, 213, 214, 215, 216, 217, 218, 219, 220, 221, 222, 223, 224, 225, 226, 227, 228, 229, 230, 231, 232, 233, 234, 235, 236, 237, 238, 239, 240, 241, 242, 243, 244, 683, 684, 685, 686, 687, 688, 689, 690, 691, 692, 693, 694, 695, 696, 697, 698, 699, 700, 701, 702, 703, 704, 705, 706, 707, 708, 709, 710, 711, 712, 713, 714, 715, 716, 717, 718, 719, 720, 721, 722, 723, 724, 725] (by decide +kernel) (by decide +kernel)
set_option maxRecDepth 20000 in
theorem gL_refuses_X11_checksum : GoodIn wsL_refuses (wsV RL 124 RX11 yX11_checksum wsX11_checksum) := goodIn_app (goodIn_of _ (by decide +kernel)) ggL_refuses_X11_checksum
set_option maxRecDepth 20000 in
theorem ggL_refuses_L_info : GoodIn wsL_refuses wsL_info := goodIn_ca (goodIn_r _ [248, 249, 250, 251, 252, 4, 253, 7, 254, 107, 108, 255, 256, 257, 258, 259, 10, 11, 12, 13, 14, 15, 16, 17, 18, 19, 20, 21, 22, 23, 24, 25, 26, 27, 28, 29, 30, 31, 32, 33, 34, 35, 36, 37, 38, 39, 40, 41, 42, 43, 44, 683, 684, 685, 686, 687, 688, 689, 690, 691, 692, 693, 694, 695, 696, 697, 698, 699, 714, 715, 716, 717, 718, 719, 700, 701, 702, 703, 704, 705, 706, 720, 721, 722, 723] (by decide +kernel) (by decide +kernel)) (goodIn_sub (fun _ h => List.mem_cons_of_mem _ (List.mem_append_left _ (List.mem_append_left _ (List.mem_append_right _ h)))) (by decide +kernel))
set_option maxRecDepth 20000 in
theorem gL_refuses_L_info : GoodIn wsL_refuses (va_wsS RL 98 yL_info wsL_info) := goodIn_app (goodIn_of _ (by decide +kernel)) ggL_refuses_L_info
set_option maxRecDepth 20000 in
theorem ggL_refuses_L_addWork : GoodIn wsL_refuses wsL_addWork := goodIn_ca (goodIn_ca (goodIn_r _ [262, 249, 263, 264, 265, 266, 4, 267, 7, 9, 254, 107, 108, 255, 256, 257, 258, 259, 268, 269, 270, 271, 272, 273, 274, 275, 276, 277, 278, 279, 280, 281, 282, 283, 284, 285, 286, 13, 287, 18, 19, 16, 17, 20, 21, 288, 289, 15, 22, 117, 23, 290, 291, 292, 293, 56, 294, 67, 62, 72, 77, 295, 296, 297, 156, 149, 157, 298, 299, 300, 301, 302, 303, 304, 27, 305, 29, 34, 306, 307, 308, 309, 310, 188, 311, 198, 312, 313, 314, 121, 315, 123, 138, 316, 317, 318, 94, 319, 96, 320, 321, 101, 106, 322, 323, 324, 131, 325, 133, 326, 327, 328, 42, 329, 330, 331, 44, 332, 333, 334, 335, 336, 337, 683, 684, 685, 686, 687, 688, 689, 690, 691, 692, 693, 694, 695, 696, 697, 698, 699, 716, 717, 718, 719, 712, 713, 700, 701, 725, 714, 715, 702, 703, 704, 705, 706, 724, 720, 721, 722, 723] (by decide +kernel) (by decide +kernel)) (goodIn_sub (fun _ h => List.mem_cons_of_mem _ (List.mem_append_left _ (List.mem_append_left _ (List.mem_append_right _ h)))) (by decide +kernel))) (goodIn_sub (fun _ h => List.mem_cons_of_mem _ (List.mem_append_left _ (List.mem_append_right _ h))) (by decide +kernel))
set_option maxRecDepth 20000 in
theorem gL_refuses_L_addWork : GoodIn wsL_refuses (va_wsS RL 139 yL_addWork wsL_addWork) := goodIn_app (goodIn_of _ (by decide +kernel)) ggL_refuses_L_addWork
set_option maxRecDepth 20000 in
theorem ggL_refuses_L_work : GoodIn wsL_refuses wsL_work := goodIn_ca (goodIn_ca (goodIn_r _ [340, 341, 249, 342, 343, 344, 4, 345, 7, 346, 64, 65, 56, 66, 67, 347, 348, 349, 350, 351, 254, 107, 108, 255, 256, 257, 258, 259, 53, 54, 55, 57, 58, 59, 60, 61, 62, 63, 68, 69, 70, 71, 72, 73, 74, 75, 76, 77, 683, 684, 685, 686, 687, 688, 689, 690, 691, 692, 693, 694, 695, 696, 697, 698, 699, 716, 717, 718, 719] (by decide +kernel) (by decide +kernel)) (goodIn_sub (fun _ h => List.mem_cons_of_mem _ (List.mem_append_right _ h)) (by decide +kernel))) (goodIn_sub (fun _ h => List.mem_cons_of_mem _ (List.mem_append_left _ (List.mem_append_left _ (List.mem_append_right _ h)))) (by decide +kernel))
set_option maxRecDepth 20000 in
theorem gL_refuses_L_work : GoodIn wsL_refuses (va_wsS RL 116 yL_work wsL_work) := goodIn_app (goodIn_of _ (by decide +kernel)) ggL_refuses_L_work
set_option maxRecDepth 20000 in
theorem ggL_refuses_L_bar : GoodIn wsL_refuses wsL_bar := goodIn_ca (goodIn_r _ [354, 341, 355, 356, 357, 4, 358, 9, 7, 359, 360, 361, 362, 363, 364, 365, 121, 366, 123, 347, 348, 349, 350, 351, 367, 368, 369, 370, 371, 36, 37, 27, 38, 29, 273, 274, 275, 276, 277, 278, 279, 280, 281, 282, 283, 284, 285, 286, 13, 287, 18, 19, 16, 17, 20, 21, 288, 289, 15, 22, 117, 23, 290, 291, 292, 293, 56, 294, 67, 62, 72, 77, 295, 296, 297, 156, 149, 157, 298, 299, 300, 301, 302, 303, 304, 305, 34, 306, 307, 308, 309, 310, 188, 311, 198, 312, 313, 314, 315, 138, 316, 317, 318, 94, 319, 96, 320, 321, 101, 106, 322, 323, 324, 131, 325, 133, 326, 327, 328, 42, 329, 330, 331, 44, 332, 333, 228, 135, 136, 137, 372, 373, 374, 375, 683, 684, 685, 686, 687, 688, 689, 690, 691, 692, 693, 694, 695, 696, 697, 698, 699, 714, 715, 700, 701, 712, 713, 716, 717, 718, 719, 725, 702, 703, 704, 705, 706, 724, 720, 721, 722, 723] (by decide +kernel) (by decide +kernel)) (goodIn_sub (fun _ h => List.mem_cons_of_mem _ (List.mem_append_right _ h)) (by decide +kernel))
set_option maxRecDepth 20000 in
theorem gL_refuses_L_bar : GoodIn wsL_refuses (va_wsS RL 141 yL_bar wsL_bar) := goodIn_app (goodIn_of _ (by decide +kernel)) ggL_refuses_L_bar
set_option maxRecDepth 20000 in
theorem ggL_refuses_L_set : GoodIn wsL_refuses wsL_set := goodIn_ca (goodIn_ca (goodIn_r _ [378, 249, 263, 379, 380, 381, 4, 382, 383, 384, 7, 9, 254, 107, 108, 255, 256, 257, 258, 259, 268, 269, 270, 271, 272, 273, 274, 275, 276, 277, 278, 279, 280, 281, 282, 283, 284, 285, 286, 13, 287, 18, 19, 16, 17, 20, 21, 288, 289, 15, 22, 117, 23, 290, 291, 292, 293, 56, 294, 67, 62, 72, 77, 295, 296, 297, 156, 149, 157, 298, 299, 300, 301, 302, 303, 304, 27, 305, 29, 34, 306, 307, 308, 309, 310, 188, 311, 198, 312, 313, 314, 121, 315, 123, 138, 316, 317, 318, 94, 319, 96, 320, 321, 101, 106, 322, 323, 324, 131, 325, 133, 326, 327, 328, 42, 329, 330, 331, 44, 332, 333, 10, 11, 12, 14, 24, 25, 26, 28, 30, 31, 32, 33, 35, 36, 37, 38, 39, 40, 41, 43, 385, 386, 387, 388, 683, 684, 685, 686, 687, 688, 689, 690, 691, 692, 693, 694, 695, 696, 697, 698, 699, 712, 713, 716, 717, 718, 719, 700, 701, 725, 714, 715, 702, 703, 704, 705, 706, 724, 720, 721, 722, 723] (by decide +kernel) (by decide +kernel)) (goodIn_sub (fun _ h => List.mem_cons_of_mem _ (List.mem_append_left _ (List.mem_append_left _ (List.mem_append_right _ h)))) (by decide +kernel))) (goodIn_sub (fun _ h => List.mem_cons_of_mem _ (List.mem_append_left _ (List.mem_append_right _ h))) (by decide +kernel))
set_option maxRecDepth 20000 in
theorem gL_refuses_L_set : GoodIn wsL_refuses (va_wsS RL 143 yL_set wsL_set) := goodIn_app (goodIn_of _ (by decide +kernel)) ggL_refuses_L_set
set_option maxRecDepth 20000 in
theorem ggL_refuses_L_setRule : GoodIn wsL_refuses wsL_setRule := goodIn_ca (goodIn_ca (goodIn_ca (goodIn_r _ [391, 341, 249, 263, 392, 393, 394, 4, 395, 396, 397, 7, 9, 398, 399, 400, 254, 107, 108, 347, 348, 349, 350, 351, 255, 256, 257, 258, 259, 268, 269, 270, 271, 272, 273, 274, 275, 276, 277, 278, 279, 280, 281, 282, 283, 284, 285, 286, 13, 287, 18, 19, 16, 17, 20, 21, 288, 289, 15, 22, 117, 23, 290, 291, 292, 293, 56, 294, 67, 62, 72, 77, 295, 296, 297, 156, 149, 157, 298, 299, 300, 301, 302, 303, 304, 27, 305, 29, 34, 306, 307, 308, 309, 310, 188, 311, 198, 312, 313, 314, 121, 315, 123, 138, 316, 317, 318, 94, 319, 96, 320, 321, 101, 106, 322, 323, 324, 131, 325, 133, 326, 327, 328, 42, 329, 330, 331, 44, 332, 333, 683, 684, 685, 686, 687, 688, 689, 690, 691, 692, 693, 694, 695, 696, 697, 698, 699, 712, 713, 716, 717, 718, 719, 700, 701, 725, 714, 715, 702, 703, 704, 705, 706, 724, 720, 721, 722, 723] (by decide +kernel) (by decide +kernel)) (goodIn_sub (fun _ h => List.mem_cons_of_mem _ (List.mem_append_right _ h)) (by decide +kernel))) (goodIn_sub (fun _ h => List.mem_cons_of_mem _ (List.mem_append_left _ (List.mem_append_left _ (List.mem_append_right _ h)))) (by decide +kernel))) (goodIn_sub (fun _ h => List.mem_cons_of_mem _ (List.mem_append_left _ (List.mem_append_right _ h))) (by decide +kernel))
set_option maxRecDepth 20000 in
theorem gL_refuses_L_setRule : GoodIn wsL_refuses (va_wsS RL 145 yL_setRule wsL_setRule) := goodIn_app (goodIn_of _ (by decide +kernel)) ggL_refuses_L_setRule
set_option maxRecDepth 20000 in
theorem ggL_refuses_L_rule : GoodIn wsL_refuses wsL_rule := goodIn_ca (goodIn_ca (goodIn_r _ [403, 341, 249, 404, 405, 406, 4, 407, 7, 398, 399, 400, 254, 107, 108, 347, 348, 349, 350, 351, 255, 256, 257, 258, 259, 683, 684, 685, 686, 687, 688, 689, 690, 691, 692, 693, 694, 695, 696, 697, 698, 699] (by decide +kernel) (by decide +kernel)) (goodIn_sub (fun _ h => List.mem_cons_of_mem _ (List.mem_append_right _ h)) (by decide +kernel))) (goodIn_sub (fun _ h => List.mem_cons_of_mem _ (List.mem_append_left _ (List.mem_append_left _ (List.mem_append_right _ h)))) (by decide +kernel))
set_option maxRecDepth 20000 in
theorem gL_refuses_L_rule : GoodIn wsL_refuses (va_wsS RL 118 yL_rule wsL_rule) := goodIn_app (goodIn_of _ (by decide +kernel)) ggL_refuses_L_rule
set_option maxRecDepth 20000 in
theorem ggL_refuses_L_setProgram : GoodIn wsL_refuses wsL_setProgram := goodIn_ca (goodIn_ca (goodIn_r _ [410, 341, 249, 411, 412, 413, 4, 414, 8, 7, 9, 415, 416, 417, 418, 367, 368, 369, 370, 371, 36, 37, 27, 38, 29, 347, 348, 349, 350, 351, 398, 399, 400, 254, 107, 108, 419, 420, 421, 422, 423, 424, 425, 426, 427, 428, 429, 430, 431, 432, 433, 434, 435, 436, 437, 438, 439, 440, 255, 256, 257, 258, 259, 273, 274, 275, 276, 277, 278, 279, 280, 281, 282, 283, 284, 285, 286, 13, 287, 18, 19, 16, 17, 20, 21, 288, 289, 15, 22, 117, 23, 290, 291, 292, 293, 56, 294, 67, 62, 72, 77, 295, 296, 297, 156, 149, 157, 298, 299, 300, 301, 302, 303, 304, 305, 34, 306, 307, 308, 309, 310, 188, 311, 198, 312, 313, 314, 121, 315, 123, 138, 316, 317, 318, 94, 319, 96, 320, 321, 101, 106, 322, 323, 324, 131, 325, 133, 326, 327, 328, 42, 329, 330, 331, 44, 332, 333, 441, 442, 443, 444, 445, 446, 447, 448, 449, 683, 684, 685, 686, 687, 688, 689, 690, 691, 692, 693, 694, 695, 696, 697, 698, 699, 716, 717, 718, 719, 707, 708, 709, 710, 711, 700, 701, 712, 713, 725, 714, 715, 702, 703, 704, 705, 706, 724, 720, 721, 722, 723] (by decide +kernel) (by decide +kernel)) (goodIn_sub (fun _ h => List.mem_cons_of_mem _ (List.mem_append_right _ h)) (by decide +kernel))) (goodIn_sub (fun _ h => List.mem_cons_of_mem _ (List.mem_append_left _ (List.mem_append_left _ (List.mem_append_right _ h)))) (by decide +kernel))
set_option maxRecDepth 20000 in
theorem gL_refuses_L_setProgram : GoodIn wsL_refuses (va_wsS RL 147 yL_setProgram wsL_setProgram) := goodIn_app (goodIn_of _ (by decide +kernel)) ggL_refuses_L_setProgram
set_option maxRecDepth 20000 in
theorem ggL_refuses_L_clearProgram : GoodIn wsL_refuses wsL_clearProgram := goodIn_ca (goodIn_r _ [452, 341, 453, 454, 455, 4, 456, 9, 7, 415, 416, 417, 418, 367, 368, 369, 370, 371, 36, 37, 27, 38, 29, 347, 348, 349, 350, 351, 398, 399, 400, 254, 107, 108, 273, 274, 275, 276, 277, 278, 279, 280, 281, 282, 283, 284, 285, 286, 13, 287, 18, 19, 16, 17, 20, 21, 288, 289, 15, 22, 117, 23, 290, 291, 292, 293, 56, 294, 67, 62, 72, 77, 295, 296, 297, 156, 149, 157, 298, 299, 300, 301, 302, 303, 304, 305, 34, 306, 307, 308, 309, 310, 188, 311, 198, 312, 313, 314, 121, 315, 123, 138, 316, 317, 318, 94, 319, 96, 320, 321, 101, 106, 322, 323, 324, 131, 325, 133, 326, 327, 328, 42, 329, 330, 331, 44, 332, 333, 457, 191, 192, 193, 194, 195, 196, 197, 441, 442, 443, 444, 445, 446, 447, 448, 683, 684, 685, 686, 687, 688, 689, 690, 691, 692, 693, 694, 695, 696, 697, 698, 699, 700, 701, 712, 713, 716, 717, 718, 719, 725, 714, 715, 702, 703, 704, 705, 706, 724, 720, 721, 722, 723] (by decide +kernel) (by decide +kernel)) (goodIn_sub (fun _ h => List.mem_cons_of_mem _ (List.mem_append_right _ h)) (by decide +kernel))
set_option maxRecDepth 20000 in
theorem gL_refuses_L_clearProgram : GoodIn wsL_refuses (va_wsS RL 149 yL_clearProgram wsL_clearProgram) := goodIn_app (goodIn_of _ (by decide +kernel)) ggL_refuses_L_clearProgram
set_option maxRecDepth 20000 in
theorem ggL_refuses_L_program : GoodIn wsL_refuses wsL_program := goodIn_ca (goodIn_r _ [460, 341, 461, 462, 463, 4, 464, 7, 415, 416, 417, 418, 367, 368, 369, 370, 371, 36, 37, 27, 38, 29, 347, 348, 349, 350, 351, 398, 399, 400, 254, 107, 108, 223, 195, 196, 188, 197, 198, 683, 684, 685, 686, 687, 688, 689, 690, 691, 692, 693, 694, 695, 696, 697, 698, 699, 700, 701, 725] (by decide +kernel) (by decide +kernel)) (goodIn_sub (fun _ h => List.mem_cons_of_mem _ (List.mem_append_right _ h)) (by decide +kernel))
set_option maxRecDepth 20000 in
theorem gL_refuses_L_program : GoodIn wsL_refuses (va_wsS RL 113 yL_program wsL_program) := goodIn_app (goodIn_of _ (by decide +kernel)) ggL_refuses_L_program
set_option maxRecDepth 20000 in
theorem ggL_refuses_L_flaw : GoodIn wsL_refuses wsL_flaw := goodIn_ca (goodIn_r _ [467, 341, 468, 469, 470, 4, 471, 7, 415, 416, 417, 418, 367, 368, 369, 370, 371, 36, 37, 27, 38, 29, 347, 348, 349, 350, 351, 398, 399, 400, 254, 107, 108, 185, 186, 187, 188, 189, 190, 191, 192, 193, 194, 195, 196, 197, 198, 199, 200, 201, 202, 203, 74, 75, 56, 76, 77, 63, 64, 65, 66, 67, 204, 205, 206, 207, 208, 69, 70, 71, 72, 209, 210, 211, 212, 213, 148, 149, 150, 214, 59, 60, 61, 62, 215, 216, 217, 218, 219, 220, 221, 222, 683, 684, 685, 686, 687, 688, 689, 690, 691, 692, 693, 694, 695, 696, 697, 698, 699, 700, 701, 725, 716, 717, 718, 719] (by decide +kernel) (by decide +kernel)) (goodIn_sub (fun _ h => List.mem_cons_of_mem _ (List.mem_append_right _ h)) (by decide +kernel))
set_option maxRecDepth 20000 in
theorem gL_refuses_L_flaw : GoodIn wsL_refuses (va_wsS RL 120 yL_flaw wsL_flaw) := goodIn_app (goodIn_of _ (by decide +kernel)) ggL_refuses_L_flaw
set_option maxRecDepth 20000 in
theorem ggL_refuses_L_begin : GoodIn wsL_refuses wsL_begin := goodIn_ca (goodIn_ca (goodIn_r _ [474, 249, 263, 475, 476, 477, 4, 478, 7, 9, 255, 256, 257, 258, 259, 268, 269, 270, 271, 272, 273, 274, 275, 276, 277, 278, 279, 280, 281, 282, 283, 284, 285, 286, 13, 287, 18, 19, 16, 17, 20, 21, 288, 289, 15, 22, 117, 23, 290, 291, 292, 293, 56, 294, 67, 62, 72, 77, 295, 296, 297, 156, 149, 157, 298, 299, 300, 301, 302, 303, 304, 27, 305, 29, 34, 306, 307, 308, 309, 310, 188, 311, 198, 312, 313, 314, 121, 315, 123, 138, 316, 317, 318, 94, 319, 96, 320, 321, 101, 106, 322, 323, 324, 131, 325, 133, 326, 327, 328, 42, 329, 330, 331, 44, 332, 333, 479, 480, 481, 482, 483, 484, 485, 486, 487, 488, 489, 490, 491, 492, 493, 494, 495, 90, 31, 32, 33, 35, 36, 37, 38, 496, 186, 187, 189, 190, 191, 192, 193, 194, 195, 196, 197, 199, 200, 201, 202, 203, 74, 75, 76, 63, 64, 65, 66, 204, 205, 206, 207, 208, 69, 70, 71, 209, 210, 211, 212, 213, 148, 150, 214, 59, 60, 61, 215, 216, 217, 218, 219, 220, 221, 222, 497, 498, 499, 500, 501, 502, 503, 504, 505, 506, 507, 508, 509, 510, 511, 512, 513, 514, 515, 516, 107, 108, 683, 684, 685, 686, 687, 688, 689, 690, 691, 692, 693, 694, 695, 696, 697, 698, 699, 702, 703, 704, 705, 706, 712, 713, 716, 717, 718, 719, 700, 701, 725, 714, 715, 724, 720, 721, 722, 723] (by decide +kernel) (by decide +kernel)) (goodIn_sub (fun _ h => List.mem_cons_of_mem _ (List.mem_append_left _ (List.mem_append_left _ (List.mem_append_right _ h)))) (by decide +kernel))) (goodIn_sub (fun _ h => List.mem_cons_of_mem _ (List.mem_append_left _ (List.mem_append_right _ h))) (by decide +kernel))
set_option maxRecDepth 20000 in
theorem gL_refuses_L_begin : GoodIn wsL_refuses (va_wsS RL 151 yL_begin wsL_begin) := goodIn_app (goodIn_of _ (by decide +kernel)) ggL_refuses_L_begin
set_option maxRecDepth 20000 in
theorem ggL_refuses_L_play : GoodIn wsL_refuses wsL_play := goodIn_ca (goodIn_ca (goodIn_r _ [519, 249, 263, 520, 521, 522, 4, 523, 7, 9, 254, 107, 108, 255, 256, 257, 258, 259, 268, 269, 270, 271, 272, 273, 274, 275, 276, 277, 278, 279, 280, 281, 282, 283, 284, 285, 286, 13, 287, 18, 19, 16, 17, 20, 21, 288, 289, 15, 22, 117, 23, 290, 291, 292, 293, 56, 294, 67, 62, 72, 77, 295, 296, 297, 156, 149, 157, 298, 299, 300, 301, 302, 303, 304, 27, 305, 29, 34, 306, 307, 308, 309, 310, 188, 311, 198, 312, 313, 314, 121, 315, 123, 138, 316, 317, 318, 94, 319, 96, 320, 321, 101, 106, 322, 323, 324, 131, 325, 133, 326, 327, 328, 42, 329, 330, 331, 44, 332, 333, 524, 525, 526, 527, 97, 98, 99, 100, 683, 684, 685, 686, 687, 688, 689, 690, 691, 692, 693, 694, 695, 696, 697, 698, 699, 702, 703, 704, 705, 706, 712, 713, 716, 717, 718, 719, 700, 701, 725, 714, 715, 724, 720, 721, 722, 723] (by decide +kernel) (by decide +kernel)) (goodIn_sub (fun _ h => List.mem_cons_of_mem _ (List.mem_append_left _ (List.mem_append_left _ (List.mem_append_right _ h)))) (by decide +kernel))) (goodIn_sub (fun _ h => List.mem_cons_of_mem _ (List.mem_append_left _ (List.mem_append_right _ h))) (by decide +kernel))
set_option maxRecDepth 20000 in
theorem gL_refuses_L_play : GoodIn wsL_refuses (va_wsS RL 153 yL_play wsL_play) := goodIn_app (goodIn_of _ (by decide +kernel)) ggL_refuses_L_play
set_option maxRecDepth 20000 in
theorem ggL_refuses_L_mark : GoodIn wsL_refuses wsL_mark := goodIn_ca (goodIn_ca (goodIn_ca (goodIn_r _ [530, 341, 249, 263, 531, 532, 533, 4, 534, 7, 359, 360, 361, 362, 363, 364, 365, 121, 366, 123, 347, 348, 349, 350, 351, 367, 368, 369, 370, 371, 36, 37, 27, 38, 29, 254, 107, 108, 255, 256, 257, 258, 259, 535, 536, 537, 538, 9, 539, 540, 541, 13, 542, 18, 23, 22, 172, 173, 174, 42, 175, 44, 163, 164, 165, 94, 166, 167, 103, 104, 105, 106, 228, 135, 136, 137, 138, 268, 269, 270, 271, 272, 273, 274, 275, 276, 277, 278, 279, 280, 281, 282, 283, 284, 285, 286, 287, 19, 16, 17, 20, 21, 288, 289, 15, 117, 290, 291, 292, 293, 56, 294, 67, 62, 72, 77, 295, 296, 297, 156, 149, 157, 298, 299, 300, 301, 302, 303, 304, 305, 34, 306, 307, 308, 309, 310, 188, 311, 198, 312, 313, 314, 315, 316, 317, 318, 319, 96, 320, 321, 101, 322, 323, 324, 131, 325, 133, 326, 327, 328, 329, 330, 331, 332, 333, 543, 114, 115, 116, 544, 545, 546, 547, 548, 110, 111, 112, 113, 118, 119, 120, 122, 124, 125, 126, 127, 128, 129, 130, 132, 134, 683, 684, 685, 686, 687, 688, 689, 690, 691, 692, 693, 694, 695, 696, 697, 698, 699, 714, 715, 700, 701, 720, 721, 722, 723, 702, 703, 704, 705, 706, 712, 713, 716, 717, 718, 719, 725, 724] (by decide +kernel) (by decide +kernel)) (goodIn_sub (fun _ h => List.mem_cons_of_mem _ (List.mem_append_right _ h)) (by decide +kernel))) (goodIn_sub (fun _ h => List.mem_cons_of_mem _ (List.mem_append_left _ (List.mem_append_left _ (List.mem_append_right _ h)))) (by decide +kernel))) (goodIn_sub (fun _ h => List.mem_cons_of_mem _ (List.mem_append_left _ (List.mem_append_right _ h))) (by decide +kernel))
set_option maxRecDepth 20000 in
theorem gL_refuses_L_mark : GoodIn wsL_refuses (va_wsS RL 137 yL_mark wsL_mark) := goodIn_app (goodIn_of _ (by decide +kernel)) ggL_refuses_L_mark
set_option maxRecDepth 20000 in
theorem ggL_refuses_L_abstain : GoodIn wsL_refuses wsL_abstain := goodIn_ca (goodIn_ca (goodIn_r _ [551, 341, 263, 552, 553, 554, 4, 555, 359, 360, 361, 362, 7, 363, 364, 365, 121, 366, 123, 347, 348, 349, 350, 351, 367, 368, 369, 370, 371, 36, 37, 27, 38, 29, 535, 536, 537, 538, 9, 539, 540, 541, 13, 542, 18, 23, 22, 172, 173, 174, 42, 175, 44, 107, 108, 163, 164, 165, 94, 166, 167, 103, 104, 105, 106, 228, 135, 136, 137, 138, 268, 269, 270, 271, 272, 273, 274, 275, 276, 277, 278, 279, 280, 281, 282, 283, 284, 285, 286, 287, 19, 16, 17, 20, 21, 288, 289, 15, 117, 290, 291, 292, 293, 56, 294, 67, 62, 72, 77, 295, 296, 297, 156, 149, 157, 298, 299, 300, 301, 302, 303, 304, 305, 34, 306, 307, 308, 309, 310, 188, 311, 198, 312, 313, 314, 315, 316, 317, 318, 319, 96, 320, 321, 101, 322, 323, 324, 131, 325, 133, 326, 327, 328, 329, 330, 331, 332, 333, 543, 114, 115, 116, 544, 545, 546, 547, 548, 110, 111, 112, 113, 118, 119, 120, 122, 124, 125, 126, 127, 128, 129, 130, 132, 134, 683, 684, 685, 686, 687, 688, 689, 690, 691, 692, 693, 694, 695, 696, 697, 698, 699, 714, 715, 700, 701, 720, 721, 722, 723, 702, 703, 704, 705, 706, 712, 713, 716, 717, 718, 719, 725, 724] (by decide +kernel) (by decide +kernel)) (goodIn_sub (fun _ h => List.mem_cons_of_mem _ (List.mem_append_right _ h)) (by decide +kernel))) (goodIn_sub (fun _ h => List.mem_cons_of_mem _ (List.mem_append_left _ (List.mem_append_right _ h))) (by decide +kernel))
set_option maxRecDepth 20000 in
theorem gL_refuses_L_abstain : GoodIn wsL_refuses (va_wsS RL 155 yL_abstain wsL_abstain) := goodIn_app (goodIn_of _ (by decide +kernel)) ggL_refuses_L_abstain
set_option maxRecDepth 20000 in
theorem ggL_refuses_L_withdraw : GoodIn wsL_refuses wsL_withdraw := goodIn_ca (goodIn_ca (goodIn_r _ [558, 341, 263, 559, 560, 561, 4, 562, 7, 9, 367, 368, 369, 370, 371, 36, 37, 27, 38, 29, 347, 348, 349, 350, 351, 563, 31, 32, 33, 34, 35, 268, 269, 270, 271, 272, 564, 164, 165, 94, 166, 167, 103, 104, 105, 106, 107, 108, 273, 274, 275, 276, 277, 278, 279, 280, 281, 282, 283, 284, 285, 286, 13, 287, 18, 19, 16, 17, 20, 21, 288, 289, 15, 22, 117, 23, 290, 291, 292, 293, 56, 294, 67, 62, 72, 77, 295, 296, 297, 156, 149, 157, 298, 299, 300, 301, 302, 303, 304, 305, 306, 307, 308, 309, 310, 188, 311, 198, 312, 313, 314, 121, 315, 123, 138, 316, 317, 318, 319, 96, 320, 321, 101, 322, 323, 324, 131, 325, 133, 326, 327, 328, 42, 329, 330, 331, 44, 332, 333, 565, 566, 567, 568, 501, 502, 503, 504, 569, 570, 571, 572, 573, 92, 93, 95, 97, 98, 99, 100, 513, 514, 515, 516, 574, 25, 26, 28, 30, 683, 684, 685, 686, 687, 688, 689, 690, 691, 692, 693, 694, 695, 696, 697, 698, 699, 700, 701, 702, 703, 704, 705, 706, 712, 713, 716, 717, 718, 719, 725, 714, 715, 724, 720, 721, 722, 723] (by decide +kernel) (by decide +kernel)) (goodIn_sub (fun _ h => List.mem_cons_of_mem _ (List.mem_append_right _ h)) (by decide +kernel))) (goodIn_sub (fun _ h => List.mem_cons_of_mem _ (List.mem_append_left _ (List.mem_append_right _ h))) (by decide +kernel))
set_option maxRecDepth 20000 in
theorem gL_refuses_L_withdraw : GoodIn wsL_refuses (va_wsS RL 157 yL_withdraw wsL_withdraw) := goodIn_app (goodIn_of _ (by decide +kernel)) ggL_refuses_L_withdraw
set_option maxRecDepth 20000 in
theorem ggL_refuses_L_entrant : GoodIn wsL_refuses wsL_entrant := goodIn_ca (goodIn_ca (goodIn_r _ [577, 341, 249, 578, 579, 580, 4, 581, 7, 367, 368, 369, 370, 371, 36, 37, 27, 38, 29, 347, 348, 349, 350, 351, 254, 107, 108, 255, 256, 257, 258, 259, 86, 87, 88, 13, 89, 21, 22, 23, 15, 90, 31, 32, 33, 34, 35, 91, 92, 93, 94, 95, 96, 97, 98, 99, 100, 101, 102, 103, 104, 105, 106, 109, 110, 111, 112, 113, 114, 115, 116, 18, 117, 118, 119, 120, 121, 122, 123, 124, 125, 126, 127, 128, 129, 130, 131, 132, 133, 134, 135, 136, 137, 138, 139, 140, 141, 142, 143, 144, 145, 146, 147, 148, 149, 150, 17, 151, 152, 153, 154, 155, 156, 157, 158, 159, 160, 161, 162, 163, 164, 165, 166, 167, 168, 169, 170, 171, 172, 173, 174, 42, 175, 44, 176, 177, 178, 179, 180, 683, 684, 685, 686, 687, 688, 689, 690, 691, 692, 693, 694, 695, 696, 697, 698, 699, 700, 701, 720, 721, 722, 723, 702, 703, 704, 705, 706, 714, 715, 724] (by decide +kernel) (by decide +kernel)) (goodIn_sub (fun _ h => List.mem_cons_of_mem _ (List.mem_append_right _ h)) (by decide +kernel))) (goodIn_sub (fun _ h => List.mem_cons_of_mem _ (List.mem_append_left _ (List.mem_append_left _ (List.mem_append_right _ h)))) (by decide +kernel))
set_option maxRecDepth 20000 in
theorem gL_refuses_L_entrant : GoodIn wsL_refuses (va_wsS RL 106 yL_entrant wsL_entrant) := goodIn_app (goodIn_of _ (by decide +kernel)) ggL_refuses_L_entrant
set_option maxRecDepth 20000 in
theorem ggL_refuses_L_marked : GoodIn wsL_refuses wsL_marked := goodIn_ca (goodIn_r _ [584, 341, 585, 586, 587, 4, 588, 7, 359, 360, 361, 362, 363, 364, 365, 121, 366, 123, 347, 348, 349, 350, 351, 367, 368, 369, 370, 371, 36, 37, 27, 38, 29, 229, 129, 130, 131, 132, 133, 683, 684, 685, 686, 687, 688, 689, 690, 691, 692, 693, 694, 695, 696, 697, 698, 699, 720, 721, 722, 723, 714, 715, 700, 701, 724] (by decide +kernel) (by decide +kernel)) (goodIn_sub (fun _ h => List.mem_cons_of_mem _ (List.mem_append_right _ h)) (by decide +kernel))
set_option maxRecDepth 20000 in
theorem gL_refuses_L_marked : GoodIn wsL_refuses (va_wsS RL 109 yL_marked wsL_marked) := goodIn_app (goodIn_of _ (by decide +kernel)) ggL_refuses_L_marked
set_option maxRecDepth 20000 in
theorem ggL_refuses_L_history : GoodIn wsL_refuses wsL_history := goodIn_ca (goodIn_r _ [591, 341, 592, 593, 594, 4, 595, 7, 415, 416, 417, 418, 367, 368, 369, 370, 371, 36, 37, 27, 38, 29, 347, 348, 349, 350, 351, 398, 399, 400, 254, 107, 108, 683, 684, 685, 686, 687, 688, 689, 690, 691, 692, 693, 694, 695, 696, 697, 698, 699, 700, 701] (by decide +kernel) (by decide +kernel)) (goodIn_sub (fun _ h => List.mem_cons_of_mem _ (List.mem_append_right _ h)) (by decide +kernel))
set_option maxRecDepth 20000 in
theorem gL_refuses_L_history : GoodIn wsL_refuses (va_wsS RL 131 yL_history wsL_history) := goodIn_app (goodIn_of _ (by decide +kernel)) ggL_refuses_L_history
set_option maxRecDepth 20000 in
theorem ggL_refuses_L_wouldBe : GoodIn wsL_refuses wsL_wouldBe := goodIn_ca (goodIn_r _ [598, 249, 599, 600, 601, 4, 602, 7, 254, 107, 108, 255, 256, 257, 258, 259, 603, 604, 605, 13, 606, 18, 22, 242, 98, 99, 94, 100, 96, 101, 607, 608, 609, 610, 23, 15, 172, 173, 174, 42, 175, 44, 168, 169, 170, 121, 171, 123, 134, 135, 136, 137, 138, 128, 129, 130, 131, 132, 133, 159, 160, 161, 162, 117, 163, 164, 165, 166, 167, 103, 104, 105, 106, 611, 612, 613, 614, 615, 19, 288, 616, 617, 618, 619, 620, 621, 622, 488, 489, 490, 139, 140, 141, 142, 143, 144, 145, 146, 147, 148, 149, 150, 17, 151, 152, 153, 154, 155, 156, 157, 158, 102, 623, 624, 625, 626, 627, 628, 629, 630, 631, 632, 633, 634, 635, 636, 637, 638, 639, 640, 641, 642, 643, 644, 645, 646, 647, 648, 649, 650, 651, 683, 684, 685, 686, 687, 688, 689, 690, 691, 692, 693, 694, 695, 696, 697, 698, 699, 702, 703, 704, 705, 706, 720, 721, 722, 723, 714, 715, 724, 726, 727, 728, 729, 730, 731] (by decide +kernel) (by decide +kernel)) (goodIn_sub (fun _ h => List.mem_cons_of_mem _ (List.mem_append_left _ (List.mem_append_left _ (List.mem_append_right _ h)))) (by decide +kernel))
set_option maxRecDepth 20000 in
theorem gL_refuses_L_wouldBe : GoodIn wsL_refuses (va_wsS RL 122 yL_wouldBe wsL_wouldBe) := goodIn_app (goodIn_of _ (by decide +kernel)) ggL_refuses_L_wouldBe
set_option maxRecDepth 20000 in
theorem ggL_refuses_L_neededMark : GoodIn wsL_refuses wsL_neededMark := goodIn_ca (goodIn_ca (goodIn_ca (goodIn_r _ [654, 341, 249, 263, 655, 656, 657, 4, 658, 659, 7, 359, 360, 361, 362, 363, 364, 365, 121, 366, 123, 347, 348, 349, 350, 351, 367, 368, 369, 370, 371, 36, 37, 27, 38, 29, 254, 107, 108, 255, 256, 257, 258, 259, 268, 269, 270, 271, 272, 564, 164, 165, 94, 166, 167, 103, 104, 105, 106, 228, 135, 136, 137, 138, 660, 144, 145, 13, 146, 15, 117, 22, 147, 148, 149, 150, 17, 151, 152, 153, 154, 155, 156, 157, 158, 128, 129, 130, 131, 132, 133, 134, 102, 683, 684, 685, 686, 687, 688, 689, 690, 691, 692, 693, 694, 695, 696, 697, 698, 699, 714, 715, 700, 701, 702, 703, 704, 705, 706, 724] (by decide +kernel) (by decide +kernel)) (goodIn_sub (fun _ h => List.mem_cons_of_mem _ (List.mem_append_right _ h)) (by decide +kernel))) (goodIn_sub (fun _ h => List.mem_cons_of_mem _ (List.mem_append_left _ (List.mem_append_left _ (List.mem_append_right _ h)))) (by decide +kernel))) (goodIn_sub (fun _ h => List.mem_cons_of_mem _ (List.mem_append_left _ (List.mem_append_right _ h))) (by decide +kernel))
set_option maxRecDepth 20000 in
theorem gL_refuses_L_neededMark : GoodIn wsL_refuses (va_wsS RL 135 yL_neededMark wsL_neededMark) := goodIn_app (goodIn_of _ (by decide +kernel)) ggL_refuses_L_neededMark
set_option maxRecDepth 20000 in
theorem ggL_refuses_L_type : GoodIn wsL_refuses wsL_type := goodIn_ca (goodIn_ca (goodIn_r _ [663, 249, 263, 664, 665, 666, 4, 667, 8, 254, 107, 108, 255, 256, 257, 258, 259, 268, 269, 270, 271, 272, 668, 669, 670, 422, 671, 431, 432, 683, 684, 685, 707, 708, 709, 710, 711] (by decide +kernel) (by decide +kernel)) (goodIn_sub (fun _ h => List.mem_cons_of_mem _ (List.mem_append_left _ (List.mem_append_left _ (List.mem_append_right _ h)))) (by decide +kernel))) (goodIn_sub (fun _ h => List.mem_cons_of_mem _ (List.mem_append_left _ (List.mem_append_right _ h))) (by decide +kernel))
set_option maxRecDepth 20000 in
theorem gL_refuses_L_type : GoodIn wsL_refuses (va_wsS RL 159 yL_type wsL_type) := goodIn_app (goodIn_of _ (by decide +kernel)) ggL_refuses_L_type
set_option maxRecDepth 20000 in
theorem ggL_refuses_L_addEntrant : GoodIn wsL_refuses wsL_addEntrant := goodIn_ca (goodIn_r _ [674, 263, 675, 676, 677, 4, 678, 7, 9, 268, 269, 270, 271, 272, 273, 274, 275, 276, 277, 278, 279, 280, 281, 282, 283, 284, 285, 286, 13, 287, 18, 19, 16, 17, 20, 21, 288, 289, 15, 22, 117, 23, 290, 291, 292, 293, 56, 294, 67, 62, 72, 77, 295, 296, 297, 156, 149, 157, 298, 299, 300, 301, 302, 303, 304, 27, 305, 29, 34, 306, 307, 308, 309, 310, 188, 311, 198, 312, 313, 314, 121, 315, 123, 138, 316, 317, 318, 94, 319, 96, 320, 321, 101, 106, 322, 323, 324, 131, 325, 133, 326, 327, 328, 42, 329, 330, 331, 44, 332, 333, 679, 680, 681, 682, 683, 684, 685, 686, 687, 688, 689, 690, 691, 692, 693, 694, 695, 696, 697, 698, 699, 700, 701, 712, 713, 716, 717, 718, 719, 725, 714, 715, 702, 703, 704, 705, 706, 724, 720, 721, 722, 723] (by decide +kernel) (by decide +kernel)) (goodIn_sub (fun _ h => List.mem_cons_of_mem _ (List.mem_append_left _ (List.mem_append_right _ h))) (by decide +kernel))
set_option maxRecDepth 20000 in
theorem gL_refuses_L_addEntrant : GoodIn wsL_refuses (va_wsS RL 161 yL_addEntrant wsL_addEntrant) := goodIn_app (goodIn_of _ (by decide +kernel)) ggL_refuses_L_addEntrant
theorem dL_refuses_0 : decode cL_refuses 0 = .ok (.aload_n 0, 1) := by decide +kernel
theorem dL_refuses_1 : decode cL_refuses 1 = .ok (.invokevirtual 124, 3) := by decide +kernel
theorem dL_refuses_4 : decode cL_refuses 4 = .ok (.lstore_n 1, 1) := by decide +kernel
theorem dL_refuses_5 : decode cL_refuses 5 = .ok (.aload_n 0, 1) := by decide +kernel
theorem dL_refuses_6 : decode cL_refuses 6 = .ok (.bipush 6, 2) := by decide +kernel
theorem dL_refuses_8 : decode cL_refuses 8 = .ok (.invokestatic 98, 3) := by decide +kernel
theorem dL_refuses_11 : decode cL_refuses 11 = .ok (.istore_n 3, 1) := by decide +kernel
theorem dL_refuses_12 : decode cL_refuses 12 = .ok (.aload_n 0, 1) := by decide +kernel
theorem dL_refuses_13 : decode cL_refuses 13 = .ok (.iconst 0, 1) := by decide +kernel
theorem dL_refuses_14 : decode cL_refuses 14 = .ok (.invokestatic 98, 3) := by decide +kernel
theorem dL_refuses_17 : decode cL_refuses 17 = .ok (.istore 4, 2) := by decide +kernel
theorem dL_refuses_19 : decode cL_refuses 19 = .ok (.aload_n 0, 1) := by decide +kernel
theorem dL_refuses_20 : decode cL_refuses 20 = .ok (.bipush 10, 2) := by decide +kernel
theorem dL_refuses_22 : decode cL_refuses 22 = .ok (.iconst 0, 1) := by decide +kernel
theorem dL_refuses_23 : decode cL_refuses 23 = .ok (.iconst 1, 1) := by decide +kernel
theorem dL_refuses_24 : decode cL_refuses 24 = .ok (.invokestatic 139, 3) := by decide +kernel
theorem dL_refuses_27 : decode cL_refuses 27 = .ok (.sipush (-901), 3) := by decide +kernel
theorem dL_refuses_30 : decode cL_refuses 30 = .ok (.if_icmp .ne 191, 3) := by decide +kernel
theorem dL_refuses_33 : decode cL_refuses 33 = .ok (.aload_n 0, 1) := by decide +kernel
theorem dL_refuses_34 : decode cL_refuses 34 = .ok (.iconst 0, 1) := by decide +kernel
theorem dL_refuses_35 : decode cL_refuses 35 = .ok (.iconst 5, 1) := by decide +kernel
theorem dL_refuses_36 : decode cL_refuses 36 = .ok (.iconst 1, 1) := by decide +kernel
theorem dL_refuses_37 : decode cL_refuses 37 = .ok (.invokestatic 139, 3) := by decide +kernel
theorem dL_refuses_40 : decode cL_refuses 40 = .ok (.sipush (-901), 3) := by decide +kernel
theorem dL_refuses_43 : decode cL_refuses 43 = .ok (.if_icmp .ne 178, 3) := by decide +kernel
theorem dL_refuses_46 : decode cL_refuses 46 = .ok (.aload_n 0, 1) := by decide +kernel
theorem dL_refuses_47 : decode cL_refuses 47 = .ok (.iconst 0, 1) := by decide +kernel
theorem dL_refuses_48 : decode cL_refuses 48 = .ok (.iconst 0, 1) := by decide +kernel
theorem dL_refuses_49 : decode cL_refuses 49 = .ok (.iconst 0, 1) := by decide +kernel
theorem dL_refuses_50 : decode cL_refuses 50 = .ok (.invokestatic 139, 3) := by decide +kernel
theorem dL_refuses_53 : decode cL_refuses 53 = .ok (.sipush (-901), 3) := by decide +kernel
theorem dL_refuses_56 : decode cL_refuses 56 = .ok (.if_icmp .ne 165, 3) := by decide +kernel
theorem dL_refuses_59 : decode cL_refuses 59 = .ok (.aload_n 0, 1) := by decide +kernel
theorem dL_refuses_60 : decode cL_refuses 60 = .ok (.aload_n 0, 1) := by decide +kernel
theorem dL_refuses_61 : decode cL_refuses 61 = .ok (.iconst 5, 1) := by decide +kernel
theorem dL_refuses_62 : decode cL_refuses 62 = .ok (.invokestatic 98, 3) := by decide +kernel
theorem dL_refuses_65 : decode cL_refuses 65 = .ok (.bipush 9, 2) := by decide +kernel
theorem dL_refuses_67 : decode cL_refuses 67 = .ok (.invokestatic 116, 3) := by decide +kernel
theorem dL_refuses_70 : decode cL_refuses 70 = .ok (.sipush (-903), 3) := by decide +kernel
theorem dL_refuses_73 : decode cL_refuses 73 = .ok (.if_icmp .ne 148, 3) := by decide +kernel
theorem dL_refuses_76 : decode cL_refuses 76 = .ok (.aload_n 0, 1) := by decide +kernel
theorem dL_refuses_77 : decode cL_refuses 77 = .ok (.iload 4, 2) := by decide +kernel
theorem dL_refuses_79 : decode cL_refuses 79 = .ok (.iconst 0, 1) := by decide +kernel
theorem dL_refuses_80 : decode cL_refuses 80 = .ok (.iconst 1, 1) := by decide +kernel
theorem dL_refuses_81 : decode cL_refuses 81 = .ok (.invokestatic 141, 3) := by decide +kernel
theorem dL_refuses_84 : decode cL_refuses 84 = .ok (.sipush (-903), 3) := by decide +kernel
theorem dL_refuses_87 : decode cL_refuses 87 = .ok (.if_icmp .ne 134, 3) := by decide +kernel
theorem dL_refuses_90 : decode cL_refuses 90 = .ok (.aload_n 0, 1) := by decide +kernel
theorem dL_refuses_91 : decode cL_refuses 91 = .ok (.iconst 0, 1) := by decide +kernel
theorem dL_refuses_92 : decode cL_refuses 92 = .ok (.iload_n 3, 1) := by decide +kernel
theorem dL_refuses_93 : decode cL_refuses 93 = .ok (.iconst 1, 1) := by decide +kernel
theorem dL_refuses_94 : decode cL_refuses 94 = .ok (.invokestatic 141, 3) := by decide +kernel
theorem dL_refuses_97 : decode cL_refuses 97 = .ok (.sipush (-903), 3) := by decide +kernel
theorem dL_refuses_100 : decode cL_refuses 100 = .ok (.if_icmp .ne 121, 3) := by decide +kernel
theorem dL_refuses_103 : decode cL_refuses 103 = .ok (.aload_n 0, 1) := by decide +kernel
theorem dL_refuses_104 : decode cL_refuses 104 = .ok (.iconst 3, 1) := by decide +kernel
theorem dL_refuses_105 : decode cL_refuses 105 = .ok (.iconst 0, 1) := by decide +kernel
theorem dL_refuses_106 : decode cL_refuses 106 = .ok (.invokestatic 143, 3) := by decide +kernel
theorem dL_refuses_109 : decode cL_refuses 109 = .ok (.sipush (-901), 3) := by decide +kernel
theorem dL_refuses_112 : decode cL_refuses 112 = .ok (.if_icmp .ne 109, 3) := by decide +kernel
theorem dL_refuses_115 : decode cL_refuses 115 = .ok (.aload_n 0, 1) := by decide +kernel
theorem dL_refuses_116 : decode cL_refuses 116 = .ok (.iconst 0, 1) := by decide +kernel
theorem dL_refuses_117 : decode cL_refuses 117 = .ok (.iconst 2, 1) := by decide +kernel
theorem dL_refuses_118 : decode cL_refuses 118 = .ok (.invokestatic 143, 3) := by decide +kernel
theorem dL_refuses_121 : decode cL_refuses 121 = .ok (.sipush (-901), 3) := by decide +kernel
theorem dL_refuses_124 : decode cL_refuses 124 = .ok (.if_icmp .ne 97, 3) := by decide +kernel
theorem dL_refuses_127 : decode cL_refuses 127 = .ok (.aload_n 0, 1) := by decide +kernel
theorem dL_refuses_128 : decode cL_refuses 128 = .ok (.iconst 4, 1) := by decide +kernel
theorem dL_refuses_129 : decode cL_refuses 129 = .ok (.bipush 9, 2) := by decide +kernel
theorem dL_refuses_131 : decode cL_refuses 131 = .ok (.bipush 9, 2) := by decide +kernel
theorem dL_refuses_133 : decode cL_refuses 133 = .ok (.invokestatic 145, 3) := by decide +kernel
theorem dL_refuses_136 : decode cL_refuses 136 = .ok (.sipush (-903), 3) := by decide +kernel
theorem dL_refuses_139 : decode cL_refuses 139 = .ok (.if_icmp .ne 82, 3) := by decide +kernel
theorem dL_refuses_142 : decode cL_refuses 142 = .ok (.aload_n 0, 1) := by decide +kernel
theorem dL_refuses_143 : decode cL_refuses 143 = .ok (.iconst 0, 1) := by decide +kernel
theorem dL_refuses_144 : decode cL_refuses 144 = .ok (.iconst 0, 1) := by decide +kernel
theorem dL_refuses_145 : decode cL_refuses 145 = .ok (.iconst 0, 1) := by decide +kernel
theorem dL_refuses_146 : decode cL_refuses 146 = .ok (.invokestatic 145, 3) := by decide +kernel
theorem dL_refuses_149 : decode cL_refuses 149 = .ok (.sipush (-901), 3) := by decide +kernel
theorem dL_refuses_152 : decode cL_refuses 152 = .ok (.if_icmp .ne 69, 3) := by decide +kernel
theorem dL_refuses_155 : decode cL_refuses 155 = .ok (.aload_n 0, 1) := by decide +kernel
theorem dL_refuses_156 : decode cL_refuses 156 = .ok (.iconst 0, 1) := by decide +kernel
theorem dL_refuses_157 : decode cL_refuses 157 = .ok (.bipush 6, 2) := by decide +kernel
theorem dL_refuses_159 : decode cL_refuses 159 = .ok (.invokestatic 118, 3) := by decide +kernel
theorem dL_refuses_162 : decode cL_refuses 162 = .ok (.sipush (-901), 3) := by decide +kernel
theorem dL_refuses_165 : decode cL_refuses 165 = .ok (.if_icmp .ne 56, 3) := by decide +kernel
theorem dL_refuses_168 : decode cL_refuses 168 = .ok (.aload_n 0, 1) := by decide +kernel
theorem dL_refuses_169 : decode cL_refuses 169 = .ok (.iload_n 3, 1) := by decide +kernel
theorem dL_refuses_170 : decode cL_refuses 170 = .ok (.iconst 0, 1) := by decide +kernel
theorem dL_refuses_171 : decode cL_refuses 171 = .ok (.invokestatic 147, 3) := by decide +kernel
theorem dL_refuses_174 : decode cL_refuses 174 = .ok (.sipush (-903), 3) := by decide +kernel
theorem dL_refuses_177 : decode cL_refuses 177 = .ok (.if_icmp .ne 44, 3) := by decide +kernel
theorem dL_refuses_180 : decode cL_refuses 180 = .ok (.aload_n 0, 1) := by decide +kernel
theorem dL_refuses_181 : decode cL_refuses 181 = .ok (.iload_n 3, 1) := by decide +kernel
theorem dL_refuses_182 : decode cL_refuses 182 = .ok (.iconst 0, 1) := by decide +kernel
theorem dL_refuses_183 : decode cL_refuses 183 = .ok (.invokestatic 149, 3) := by decide +kernel
theorem dL_refuses_186 : decode cL_refuses 186 = .ok (.sipush (-903), 3) := by decide +kernel
theorem dL_refuses_189 : decode cL_refuses 189 = .ok (.if_icmp .ne 32, 3) := by decide +kernel
theorem dL_refuses_192 : decode cL_refuses 192 = .ok (.aload_n 0, 1) := by decide +kernel
theorem dL_refuses_193 : decode cL_refuses 193 = .ok (.iconst (-1), 1) := by decide +kernel
theorem dL_refuses_194 : decode cL_refuses 194 = .ok (.iconst 0, 1) := by decide +kernel
theorem dL_refuses_195 : decode cL_refuses 195 = .ok (.iconst 0, 1) := by decide +kernel
theorem dL_refuses_196 : decode cL_refuses 196 = .ok (.invokestatic 113, 3) := by decide +kernel
theorem dL_refuses_199 : decode cL_refuses 199 = .ok (.sipush (-903), 3) := by decide +kernel
theorem dL_refuses_202 : decode cL_refuses 202 = .ok (.if_icmp .ne 19, 3) := by decide +kernel
theorem dL_refuses_205 : decode cL_refuses 205 = .ok (.aload_n 0, 1) := by decide +kernel
theorem dL_refuses_206 : decode cL_refuses 206 = .ok (.iconst 0, 1) := by decide +kernel
theorem dL_refuses_207 : decode cL_refuses 207 = .ok (.iconst 4, 1) := by decide +kernel
theorem dL_refuses_208 : decode cL_refuses 208 = .ok (.invokestatic 120, 3) := by decide +kernel
theorem dL_refuses_211 : decode cL_refuses 211 = .ok (.sipush (-903), 3) := by decide +kernel
theorem dL_refuses_214 : decode cL_refuses 214 = .ok (.if_icmp .ne 7, 3) := by decide +kernel
theorem dL_refuses_217 : decode cL_refuses 217 = .ok (.iconst 1, 1) := by decide +kernel
theorem dL_refuses_218 : decode cL_refuses 218 = .ok (.goto 4, 3) := by decide +kernel
theorem dL_refuses_221 : decode cL_refuses 221 = .ok (.iconst 0, 1) := by decide +kernel
theorem dL_refuses_222 : decode cL_refuses 222 = .ok (.istore 5, 2) := by decide +kernel
theorem dL_refuses_224 : decode cL_refuses 224 = .ok (.iload 5, 2) := by decide +kernel
theorem dL_refuses_226 : decode cL_refuses 226 = .ok (.ifCond .eq 170, 3) := by decide +kernel
theorem dL_refuses_229 : decode cL_refuses 229 = .ok (.aload_n 0, 1) := by decide +kernel
theorem dL_refuses_230 : decode cL_refuses 230 = .ok (.iconst (-1), 1) := by decide +kernel
theorem dL_refuses_231 : decode cL_refuses 231 = .ok (.invokestatic 151, 3) := by decide +kernel
theorem dL_refuses_234 : decode cL_refuses 234 = .ok (.sipush (-901), 3) := by decide +kernel
theorem dL_refuses_237 : decode cL_refuses 237 = .ok (.if_icmp .ne 159, 3) := by decide +kernel
theorem dL_refuses_240 : decode cL_refuses 240 = .ok (.aload_n 0, 1) := by decide +kernel
theorem dL_refuses_241 : decode cL_refuses 241 = .ok (.bipush 21, 2) := by decide +kernel
theorem dL_refuses_243 : decode cL_refuses 243 = .ok (.invokestatic 153, 3) := by decide +kernel
theorem dL_refuses_246 : decode cL_refuses 246 = .ok (.sipush (-901), 3) := by decide +kernel
theorem dL_refuses_249 : decode cL_refuses 249 = .ok (.if_icmp .ne 147, 3) := by decide +kernel
theorem dL_refuses_252 : decode cL_refuses 252 = .ok (.aload_n 0, 1) := by decide +kernel
theorem dL_refuses_253 : decode cL_refuses 253 = .ok (.iload 4, 2) := by decide +kernel
theorem dL_refuses_255 : decode cL_refuses 255 = .ok (.iconst 0, 1) := by decide +kernel
theorem dL_refuses_256 : decode cL_refuses 256 = .ok (.bipush 101, 2) := by decide +kernel
theorem dL_refuses_258 : decode cL_refuses 258 = .ok (.invokestatic 137, 3) := by decide +kernel
theorem dL_refuses_261 : decode cL_refuses 261 = .ok (.sipush (-903), 3) := by decide +kernel
theorem dL_refuses_264 : decode cL_refuses 264 = .ok (.if_icmp .ne 132, 3) := by decide +kernel
theorem dL_refuses_267 : decode cL_refuses 267 = .ok (.aload_n 0, 1) := by decide +kernel
theorem dL_refuses_268 : decode cL_refuses 268 = .ok (.iconst 0, 1) := by decide +kernel
theorem dL_refuses_269 : decode cL_refuses 269 = .ok (.iload_n 3, 1) := by decide +kernel
theorem dL_refuses_270 : decode cL_refuses 270 = .ok (.bipush 101, 2) := by decide +kernel
theorem dL_refuses_272 : decode cL_refuses 272 = .ok (.invokestatic 137, 3) := by decide +kernel
theorem dL_refuses_275 : decode cL_refuses 275 = .ok (.sipush (-903), 3) := by decide +kernel
theorem dL_refuses_278 : decode cL_refuses 278 = .ok (.if_icmp .ne 118, 3) := by decide +kernel
theorem dL_refuses_281 : decode cL_refuses 281 = .ok (.aload_n 0, 1) := by decide +kernel
theorem dL_refuses_282 : decode cL_refuses 282 = .ok (.iconst (-1), 1) := by decide +kernel
theorem dL_refuses_283 : decode cL_refuses 283 = .ok (.iconst 0, 1) := by decide +kernel
theorem dL_refuses_284 : decode cL_refuses 284 = .ok (.invokestatic 155, 3) := by decide +kernel
theorem dL_refuses_287 : decode cL_refuses 287 = .ok (.sipush (-903), 3) := by decide +kernel
theorem dL_refuses_290 : decode cL_refuses 290 = .ok (.if_icmp .ne 106, 3) := by decide +kernel
theorem dL_refuses_293 : decode cL_refuses 293 = .ok (.aload_n 0, 1) := by decide +kernel
theorem dL_refuses_294 : decode cL_refuses 294 = .ok (.iload_n 3, 1) := by decide +kernel
theorem dL_refuses_295 : decode cL_refuses 295 = .ok (.invokestatic 157, 3) := by decide +kernel
theorem dL_refuses_298 : decode cL_refuses 298 = .ok (.sipush (-903), 3) := by decide +kernel
theorem dL_refuses_301 : decode cL_refuses 301 = .ok (.if_icmp .ne 95, 3) := by decide +kernel
theorem dL_refuses_304 : decode cL_refuses 304 = .ok (.aload_n 0, 1) := by decide +kernel
theorem dL_refuses_305 : decode cL_refuses 305 = .ok (.bipush 13, 2) := by decide +kernel
theorem dL_refuses_307 : decode cL_refuses 307 = .ok (.invokestatic 98, 3) := by decide +kernel
theorem dL_refuses_310 : decode cL_refuses 310 = .ok (.sipush (-901), 3) := by decide +kernel
theorem dL_refuses_313 : decode cL_refuses 313 = .ok (.if_icmp .ne 83, 3) := by decide +kernel
theorem dL_refuses_316 : decode cL_refuses 316 = .ok (.aload_n 0, 1) := by decide +kernel
theorem dL_refuses_317 : decode cL_refuses 317 = .ok (.iload_n 3, 1) := by decide +kernel
theorem dL_refuses_318 : decode cL_refuses 318 = .ok (.bipush 9, 2) := by decide +kernel
theorem dL_refuses_320 : decode cL_refuses 320 = .ok (.invokestatic 106, 3) := by decide +kernel
theorem dL_refuses_323 : decode cL_refuses 323 = .ok (.sipush (-903), 3) := by decide +kernel
theorem dL_refuses_326 : decode cL_refuses 326 = .ok (.if_icmp .ne 70, 3) := by decide +kernel
theorem dL_refuses_329 : decode cL_refuses 329 = .ok (.aload_n 0, 1) := by decide +kernel
theorem dL_refuses_330 : decode cL_refuses 330 = .ok (.iload 4, 2) := by decide +kernel
theorem dL_refuses_332 : decode cL_refuses 332 = .ok (.iconst 0, 1) := by decide +kernel
theorem dL_refuses_333 : decode cL_refuses 333 = .ok (.iconst 1, 1) := by decide +kernel
theorem dL_refuses_334 : decode cL_refuses 334 = .ok (.invokestatic 109, 3) := by decide +kernel
theorem dL_refuses_337 : decode cL_refuses 337 = .ok (.sipush (-903), 3) := by decide +kernel
theorem dL_refuses_340 : decode cL_refuses 340 = .ok (.if_icmp .ne 56, 3) := by decide +kernel
theorem dL_refuses_343 : decode cL_refuses 343 = .ok (.aload_n 0, 1) := by decide +kernel
theorem dL_refuses_344 : decode cL_refuses 344 = .ok (.iload_n 3, 1) := by decide +kernel
theorem dL_refuses_345 : decode cL_refuses 345 = .ok (.iconst 0, 1) := by decide +kernel
theorem dL_refuses_346 : decode cL_refuses 346 = .ok (.invokestatic 131, 3) := by decide +kernel
theorem dL_refuses_349 : decode cL_refuses 349 = .ok (.sipush (-903), 3) := by decide +kernel
theorem dL_refuses_352 : decode cL_refuses 352 = .ok (.if_icmp .ne 44, 3) := by decide +kernel
theorem dL_refuses_355 : decode cL_refuses 355 = .ok (.aload_n 0, 1) := by decide +kernel
theorem dL_refuses_356 : decode cL_refuses 356 = .ok (.iconst (-1), 1) := by decide +kernel
theorem dL_refuses_357 : decode cL_refuses 357 = .ok (.invokestatic 122, 3) := by decide +kernel
theorem dL_refuses_360 : decode cL_refuses 360 = .ok (.sipush (-901), 3) := by decide +kernel
theorem dL_refuses_363 : decode cL_refuses 363 = .ok (.if_icmp .ne 33, 3) := by decide +kernel
theorem dL_refuses_366 : decode cL_refuses 366 = .ok (.aload_n 0, 1) := by decide +kernel
theorem dL_refuses_367 : decode cL_refuses 367 = .ok (.iload 4, 2) := by decide +kernel
theorem dL_refuses_369 : decode cL_refuses 369 = .ok (.iconst 0, 1) := by decide +kernel
theorem dL_refuses_370 : decode cL_refuses 370 = .ok (.iconst (-1), 1) := by decide +kernel
theorem dL_refuses_371 : decode cL_refuses 371 = .ok (.invokestatic 135, 3) := by decide +kernel
theorem dL_refuses_374 : decode cL_refuses 374 = .ok (.sipush (-903), 3) := by decide +kernel
theorem dL_refuses_377 : decode cL_refuses 377 = .ok (.if_icmp .ne 19, 3) := by decide +kernel
theorem dL_refuses_380 : decode cL_refuses 380 = .ok (.aload_n 0, 1) := by decide +kernel
theorem dL_refuses_381 : decode cL_refuses 381 = .ok (.bipush 31, 2) := by decide +kernel
theorem dL_refuses_383 : decode cL_refuses 383 = .ok (.invokestatic 159, 3) := by decide +kernel
theorem dL_refuses_386 : decode cL_refuses 386 = .ok (.sipush (-901), 3) := by decide +kernel
theorem dL_refuses_389 : decode cL_refuses 389 = .ok (.if_icmp .ne 7, 3) := by decide +kernel
theorem dL_refuses_392 : decode cL_refuses 392 = .ok (.iconst 1, 1) := by decide +kernel
theorem dL_refuses_393 : decode cL_refuses 393 = .ok (.goto 4, 3) := by decide +kernel
theorem dL_refuses_396 : decode cL_refuses 396 = .ok (.iconst 0, 1) := by decide +kernel
theorem dL_refuses_397 : decode cL_refuses 397 = .ok (.istore 5, 2) := by decide +kernel
theorem dL_refuses_399 : decode cL_refuses 399 = .ok (.iload 5, 2) := by decide +kernel
theorem dL_refuses_401 : decode cL_refuses 401 = .ok (.ifCond .eq 94, 3) := by decide +kernel
theorem dL_refuses_404 : decode cL_refuses 404 = .ok (.aload_n 0, 1) := by decide +kernel
theorem dL_refuses_405 : decode cL_refuses 405 = .ok (.iconst 3, 1) := by decide +kernel
theorem dL_refuses_406 : decode cL_refuses 406 = .ok (.invokestatic 98, 3) := by decide +kernel
theorem dL_refuses_409 : decode cL_refuses 409 = .ok (.ifCond .eq 62, 3) := by decide +kernel
theorem dL_refuses_412 : decode cL_refuses 412 = .ok (.aload_n 0, 1) := by decide +kernel
theorem dL_refuses_413 : decode cL_refuses 413 = .ok (.iconst 1, 1) := by decide +kernel
theorem dL_refuses_414 : decode cL_refuses 414 = .ok (.invokestatic 151, 3) := by decide +kernel
theorem dL_refuses_417 : decode cL_refuses 417 = .ok (.sipush (-902), 3) := by decide +kernel
theorem dL_refuses_420 : decode cL_refuses 420 = .ok (.if_icmp .ne 75, 3) := by decide +kernel
theorem dL_refuses_423 : decode cL_refuses 423 = .ok (.aload_n 0, 1) := by decide +kernel
theorem dL_refuses_424 : decode cL_refuses 424 = .ok (.invokestatic 161, 3) := by decide +kernel
theorem dL_refuses_427 : decode cL_refuses 427 = .ok (.sipush (-902), 3) := by decide +kernel
theorem dL_refuses_430 : decode cL_refuses 430 = .ok (.if_icmp .ne 65, 3) := by decide +kernel
theorem dL_refuses_433 : decode cL_refuses 433 = .ok (.aload_n 0, 1) := by decide +kernel
theorem dL_refuses_434 : decode cL_refuses 434 = .ok (.iconst 0, 1) := by decide +kernel
theorem dL_refuses_435 : decode cL_refuses 435 = .ok (.iconst 0, 1) := by decide +kernel
theorem dL_refuses_436 : decode cL_refuses 436 = .ok (.iconst 1, 1) := by decide +kernel
theorem dL_refuses_437 : decode cL_refuses 437 = .ok (.invokestatic 139, 3) := by decide +kernel
theorem dL_refuses_440 : decode cL_refuses 440 = .ok (.sipush (-902), 3) := by decide +kernel
theorem dL_refuses_443 : decode cL_refuses 443 = .ok (.if_icmp .ne 52, 3) := by decide +kernel
theorem dL_refuses_446 : decode cL_refuses 446 = .ok (.aload_n 0, 1) := by decide +kernel
theorem dL_refuses_447 : decode cL_refuses 447 = .ok (.iconst 0, 1) := by decide +kernel
theorem dL_refuses_448 : decode cL_refuses 448 = .ok (.iconst 5, 1) := by decide +kernel
theorem dL_refuses_449 : decode cL_refuses 449 = .ok (.iconst 3, 1) := by decide +kernel
theorem dL_refuses_450 : decode cL_refuses 450 = .ok (.invokestatic 145, 3) := by decide +kernel
theorem dL_refuses_453 : decode cL_refuses 453 = .ok (.sipush (-902), 3) := by decide +kernel
theorem dL_refuses_456 : decode cL_refuses 456 = .ok (.if_icmp .ne 39, 3) := by decide +kernel
theorem dL_refuses_459 : decode cL_refuses 459 = .ok (.aload_n 0, 1) := by decide +kernel
theorem dL_refuses_460 : decode cL_refuses 460 = .ok (.iconst 1, 1) := by decide +kernel
theorem dL_refuses_461 : decode cL_refuses 461 = .ok (.iconst 2, 1) := by decide +kernel
theorem dL_refuses_462 : decode cL_refuses 462 = .ok (.invokestatic 143, 3) := by decide +kernel
theorem dL_refuses_465 : decode cL_refuses 465 = .ok (.sipush (-902), 3) := by decide +kernel
theorem dL_refuses_468 : decode cL_refuses 468 = .ok (.if_icmp .ne 27, 3) := by decide +kernel
theorem dL_refuses_471 : decode cL_refuses 471 = .ok (.aload_n 0, 1) := by decide +kernel
theorem dL_refuses_472 : decode cL_refuses 472 = .ok (.iconst 3, 1) := by decide +kernel
theorem dL_refuses_473 : decode cL_refuses 473 = .ok (.invokestatic 98, 3) := by decide +kernel
theorem dL_refuses_476 : decode cL_refuses 476 = .ok (.iconst 1, 1) := by decide +kernel
theorem dL_refuses_477 : decode cL_refuses 477 = .ok (.if_icmp .eq 14, 3) := by decide +kernel
theorem dL_refuses_480 : decode cL_refuses 480 = .ok (.aload_n 0, 1) := by decide +kernel
theorem dL_refuses_481 : decode cL_refuses 481 = .ok (.iconst 0, 1) := by decide +kernel
theorem dL_refuses_482 : decode cL_refuses 482 = .ok (.invokestatic 153, 3) := by decide +kernel
theorem dL_refuses_485 : decode cL_refuses 485 = .ok (.sipush (-902), 3) := by decide +kernel
theorem dL_refuses_488 : decode cL_refuses 488 = .ok (.if_icmp .ne 7, 3) := by decide +kernel
theorem dL_refuses_491 : decode cL_refuses 491 = .ok (.iconst 1, 1) := by decide +kernel
theorem dL_refuses_492 : decode cL_refuses 492 = .ok (.goto 4, 3) := by decide +kernel
theorem dL_refuses_495 : decode cL_refuses 495 = .ok (.iconst 0, 1) := by decide +kernel
theorem dL_refuses_496 : decode cL_refuses 496 = .ok (.istore 5, 2) := by decide +kernel
theorem dL_refuses_498 : decode cL_refuses 498 = .ok (.iload 5, 2) := by decide +kernel
theorem dL_refuses_500 : decode cL_refuses 500 = .ok (.ifCond .eq 16, 3) := by decide +kernel
theorem dL_refuses_503 : decode cL_refuses 503 = .ok (.aload_n 0, 1) := by decide +kernel
theorem dL_refuses_504 : decode cL_refuses 504 = .ok (.invokevirtual 124, 3) := by decide +kernel
theorem dL_refuses_507 : decode cL_refuses 507 = .ok (.lload_n 1, 1) := by decide +kernel
theorem dL_refuses_508 : decode cL_refuses 508 = .ok (.lcmp, 1) := by decide +kernel
theorem dL_refuses_509 : decode cL_refuses 509 = .ok (.ifCond .ne 7, 3) := by decide +kernel
theorem dL_refuses_512 : decode cL_refuses 512 = .ok (.iconst 1, 1) := by decide +kernel
theorem dL_refuses_513 : decode cL_refuses 513 = .ok (.goto 4, 3) := by decide +kernel
theorem dL_refuses_516 : decode cL_refuses 516 = .ok (.iconst 0, 1) := by decide +kernel
theorem dL_refuses_517 : decode cL_refuses 517 = .ok (.ireturn, 1) := by decide +kernel
abbrev vwCl : List vw_C := [(RX0, TX0, 14), (RX1, TX1, 6), (RX2, TX2, 2), (RX3, TX3, 2), (RX4, TX4, 1), (RX5, TX5, 2), (RX6, TX6, 1), (RX7, TX7, 5), (RX8, TX8, 5), (RX9, TX9, 4), (RX10, TX10, 4), (RX11, TX11, 3)]
