theorem dX9_part_41 : decode cX9_part 41 = .ok (.iload_n 2, 1) := by decide +kernel
theorem dX9_part_42 : decode cX9_part 42 = .ok (.invokevirtual 378, 3) := by decide +kernel
theorem dX9_part_45 : decode cX9_part 45 = .ok (.ifCond .ne 5, 3) := by decide +kernel
theorem dX9_part_48 : decode cX9_part 48 = .ok (.iconst 0, 1) := by decide +kernel
theorem dX9_part_49 : decode cX9_part 49 = .ok (.ireturn, 1) := by decide +kernel
theorem dX9_part_50 : decode cX9_part 50 = .ok (.aload_n 0, 1) := by decide +kernel
theorem dX9_part_51 : decode cX9_part 51 = .ok (.iconst 4, 1) := by decide +kernel
theorem dX9_part_52 : decode cX9_part 52 = .ok (.invokevirtual 372, 3) := by decide +kernel
theorem dX9_part_55 : decode cX9_part 55 = .ok (.ifCond .eq 12, 3) := by decide +kernel
theorem dX9_part_58 : decode cX9_part 58 = .ok (.aload_n 0, 1) := by decide +kernel
theorem dX9_part_59 : decode cX9_part 59 = .ok (.bipush (-3), 2) := by decide +kernel
theorem dX9_part_61 : decode cX9_part 61 = .ok (.invokevirtual 381, 3) := by decide +kernel
theorem dX9_part_64 : decode cX9_part 64 = .ok (.goto 98, 3) := by decide +kernel
theorem dX9_part_67 : decode cX9_part 67 = .ok (.aload_n 0, 1) := by decide +kernel
theorem dX9_part_68 : decode cX9_part 68 = .ok (.bipush 45, 2) := by decide +kernel
theorem dX9_part_70 : decode cX9_part 70 = .ok (.invokevirtual 375, 3) := by decide +kernel
theorem dX9_part_73 : decode cX9_part 73 = .ok (.ifCond .eq 14, 3) := by decide +kernel
theorem dX9_part_76 : decode cX9_part 76 = .ok (.aload_n 0, 1) := by decide +kernel
theorem dX9_part_77 : decode cX9_part 77 = .ok (.bipush (-9), 2) := by decide +kernel
theorem dX9_part_79 : decode cX9_part 79 = .ok (.invokevirtual 381, 3) := by decide +kernel
theorem dX9_part_82 : decode cX9_part 82 = .ok (.iconst 0, 1) := by decide +kernel
theorem dX9_part_83 : decode cX9_part 83 = .ok (.istore_n 2, 1) := by decide +kernel
theorem dX9_part_84 : decode cX9_part 84 = .ok (.goto 78, 3) := by decide +kernel
theorem dX9_part_87 : decode cX9_part 87 = .ok (.aload_n 0, 1) := by decide +kernel
theorem dX9_part_88 : decode cX9_part 88 = .ok (.bipush 40, 2) := by decide +kernel
theorem dX9_part_90 : decode cX9_part 90 = .ok (.invokevirtual 375, 3) := by decide +kernel
theorem dX9_part_93 : decode cX9_part 93 = .ok (.ifCond .eq 34, 3) := by decide +kernel
theorem dX9_part_96 : decode cX9_part 96 = .ok (.aload_n 0, 1) := by decide +kernel
theorem dX9_part_97 : decode cX9_part 97 = .ok (.bipush (-10), 2) := by decide +kernel
theorem dX9_part_99 : decode cX9_part 99 = .ok (.invokevirtual 381, 3) := by decide +kernel
theorem dX9_part_102 : decode cX9_part 102 = .ok (.aload_n 0, 1) := by decide +kernel
theorem dX9_part_103 : decode cX9_part 103 = .ok (.dup, 1) := by decide +kernel
theorem dX9_part_104 : decode cX9_part 104 = .ok (.getfield 128, 3) := by decide +kernel
theorem dX9_part_107 : decode cX9_part 107 = .ok (.iconst 1, 1) := by decide +kernel
theorem dX9_part_108 : decode cX9_part 108 = .ok (.iadd, 1) := by decide +kernel
theorem dX9_part_109 : decode cX9_part 109 = .ok (.putfield 128, 3) := by decide +kernel
theorem dX9_part_112 : decode cX9_part 112 = .ok (.aload_n 0, 1) := by decide +kernel
theorem dX9_part_113 : decode cX9_part 113 = .ok (.getfield 122, 3) := by decide +kernel
theorem dX9_part_116 : decode cX9_part 116 = .ok (.aload_n 0, 1) := by decide +kernel
theorem dX9_part_117 : decode cX9_part 117 = .ok (.getfield 128, 3) := by decide +kernel
theorem dX9_part_120 : decode cX9_part 120 = .ok (.iconst 0, 1) := by decide +kernel
theorem dX9_part_121 : decode cX9_part 121 = .ok (.bastore, 1) := by decide +kernel
theorem dX9_part_122 : decode cX9_part 122 = .ok (.iconst 1, 1) := by decide +kernel
theorem dX9_part_123 : decode cX9_part 123 = .ok (.istore_n 2, 1) := by decide +kernel
theorem dX9_part_124 : decode cX9_part 124 = .ok (.goto 38, 3) := by decide +kernel
theorem dX9_part_127 : decode cX9_part 127 = .ok (.aload_n 0, 1) := by decide +kernel
theorem dX9_part_128 : decode cX9_part 128 = .ok (.aload_n 0, 1) := by decide +kernel
theorem dX9_part_129 : decode cX9_part 129 = .ok (.getfield 110, 3) := by decide +kernel
theorem dX9_part_132 : decode cX9_part 132 = .ok (.iconst 1, 1) := by decide +kernel
theorem dX9_part_133 : decode cX9_part 133 = .ok (.if_icmp .ne 10, 3) := by decide +kernel
theorem dX9_part_136 : decode cX9_part 136 = .ok (.aload_n 0, 1) := by decide +kernel
theorem dX9_part_137 : decode cX9_part 137 = .ok (.getfield 113, 3) := by decide +kernel
theorem dX9_part_140 : decode cX9_part 140 = .ok (.goto 11, 3) := by decide +kernel
theorem dX9_part_143 : decode cX9_part 143 = .ok (.sipush 10000, 3) := by decide +kernel
theorem dX9_part_146 : decode cX9_part 146 = .ok (.aload_n 0, 1) := by decide +kernel
theorem dX9_part_147 : decode cX9_part 147 = .ok (.getfield 113, 3) := by decide +kernel
theorem dX9_part_150 : decode cX9_part 150 = .ok (.iadd, 1) := by decide +kernel
theorem dX9_part_151 : decode cX9_part 151 = .ok (.invokevirtual 369, 3) := by decide +kernel
theorem dX9_part_154 : decode cX9_part 154 = .ok (.aload_n 0, 1) := by decide +kernel
theorem dX9_part_155 : decode cX9_part 155 = .ok (.bipush 7, 2) := by decide +kernel
theorem dX9_part_157 : decode cX9_part 157 = .ok (.invokevirtual 384, 3) := by decide +kernel
theorem dX9_part_160 : decode cX9_part 160 = .ok (.iconst 0, 1) := by decide +kernel
theorem dX9_part_161 : decode cX9_part 161 = .ok (.istore_n 1, 1) := by decide +kernel
theorem dX9_part_162 : decode cX9_part 162 = .ok (.aload_n 0, 1) := by decide +kernel
theorem dX9_part_163 : decode cX9_part 163 = .ok (.invokevirtual 387, 3) := by decide +kernel
theorem dX9_part_166 : decode cX9_part 166 = .ok (.goto (-130), 3) := by decide +kernel
theorem dX9_part_169 : decode cX9_part 169 = .ok (.aload_n 0, 1) := by decide +kernel
theorem dX9_part_170 : decode cX9_part 170 = .ok (.bipush 59, 2) := by decide +kernel
theorem dX9_part_172 : decode cX9_part 172 = .ok (.invokevirtual 375, 3) := by decide +kernel
theorem dX9_part_175 : decode cX9_part 175 = .ok (.ifCond .eq 21, 3) := by decide +kernel
theorem dX9_part_178 : decode cX9_part 178 = .ok (.aload_n 0, 1) := by decide +kernel
theorem dX9_part_179 : decode cX9_part 179 = .ok (.iconst 1, 1) := by decide +kernel
theorem dX9_part_180 : decode cX9_part 180 = .ok (.invokevirtual 384, 3) := by decide +kernel
theorem dX9_part_183 : decode cX9_part 183 = .ok (.aload_n 0, 1) := by decide +kernel
theorem dX9_part_184 : decode cX9_part 184 = .ok (.getfield 128, 3) := by decide +kernel
theorem dX9_part_187 : decode cX9_part 187 = .ok (.ifCond .ne 7, 3) := by decide +kernel
theorem dX9_part_190 : decode cX9_part 190 = .ok (.iconst 1, 1) := by decide +kernel
theorem dX9_part_191 : decode cX9_part 191 = .ok (.goto 4, 3) := by decide +kernel
theorem dX9_part_194 : decode cX9_part 194 = .ok (.iconst 0, 1) := by decide +kernel
theorem dX9_part_195 : decode cX9_part 195 = .ok (.ireturn, 1) := by decide +kernel
theorem dX9_part_196 : decode cX9_part 196 = .ok (.aload_n 0, 1) := by decide +kernel
theorem dX9_part_197 : decode cX9_part 197 = .ok (.bipush 41, 2) := by decide +kernel
theorem dX9_part_199 : decode cX9_part 199 = .ok (.invokevirtual 375, 3) := by decide +kernel
theorem dX9_part_202 : decode cX9_part 202 = .ok (.ifCond .eq 60, 3) := by decide +kernel
theorem dX9_part_205 : decode cX9_part 205 = .ok (.aload_n 0, 1) := by decide +kernel
theorem dX9_part_206 : decode cX9_part 206 = .ok (.getfield 128, 3) := by decide +kernel
theorem dX9_part_209 : decode cX9_part 209 = .ok (.ifCond .ne 5, 3) := by decide +kernel
theorem dX9_part_212 : decode cX9_part 212 = .ok (.iconst 0, 1) := by decide +kernel
theorem dX9_part_213 : decode cX9_part 213 = .ok (.ireturn, 1) := by decide +kernel
theorem dX9_part_214 : decode cX9_part 214 = .ok (.aload_n 0, 1) := by decide +kernel
theorem dX9_part_215 : decode cX9_part 215 = .ok (.iconst 1, 1) := by decide +kernel
theorem dX9_part_216 : decode cX9_part 216 = .ok (.invokevirtual 384, 3) := by decide +kernel
theorem dX9_part_219 : decode cX9_part 219 = .ok (.aload_n 0, 1) := by decide +kernel
theorem dX9_part_220 : decode cX9_part 220 = .ok (.dup, 1) := by decide +kernel
theorem dX9_part_221 : decode cX9_part 221 = .ok (.getfield 125, 3) := by decide +kernel
theorem dX9_part_224 : decode cX9_part 224 = .ok (.iconst 1, 1) := by decide +kernel
theorem dX9_part_225 : decode cX9_part 225 = .ok (.isub, 1) := by decide +kernel
theorem dX9_part_226 : decode cX9_part 226 = .ok (.putfield 125, 3) := by decide +kernel
theorem dX9_part_229 : decode cX9_part 229 = .ok (.aload_n 0, 1) := by decide +kernel
theorem dX9_part_230 : decode cX9_part 230 = .ok (.dup, 1) := by decide +kernel
theorem dX9_part_231 : decode cX9_part 231 = .ok (.getfield 131, 3) := by decide +kernel
theorem dX9_part_234 : decode cX9_part 234 = .ok (.iconst 1, 1) := by decide +kernel
theorem dX9_part_235 : decode cX9_part 235 = .ok (.isub, 1) := by decide +kernel
theorem dX9_part_236 : decode cX9_part 236 = .ok (.putfield 131, 3) := by decide +kernel
theorem dX9_part_239 : decode cX9_part 239 = .ok (.aload_n 0, 1) := by decide +kernel
theorem dX9_part_240 : decode cX9_part 240 = .ok (.dup, 1) := by decide +kernel
theorem dX9_part_241 : decode cX9_part 241 = .ok (.getfield 128, 3) := by decide +kernel
theorem dX9_part_244 : decode cX9_part 244 = .ok (.iconst 1, 1) := by decide +kernel
theorem dX9_part_245 : decode cX9_part 245 = .ok (.isub, 1) := by decide +kernel
theorem dX9_part_246 : decode cX9_part 246 = .ok (.putfield 128, 3) := by decide +kernel
theorem dX9_part_249 : decode cX9_part 249 = .ok (.aload_n 0, 1) := by decide +kernel
theorem dX9_part_250 : decode cX9_part 250 = .ok (.bipush 7, 2) := by decide +kernel
theorem dX9_part_252 : decode cX9_part 252 = .ok (.invokevirtual 384, 3) := by decide +kernel
theorem dX9_part_255 : decode cX9_part 255 = .ok (.aload_n 0, 1) := by decide +kernel
theorem dX9_part_256 : decode cX9_part 256 = .ok (.invokevirtual 387, 3) := by decide +kernel
theorem dX9_part_259 : decode cX9_part 259 = .ok (.goto (-223), 3) := by decide +kernel
theorem dX9_part_262 : decode cX9_part 262 = .ok (.aload_n 0, 1) := by decide +kernel
theorem dX9_part_263 : decode cX9_part 263 = .ok (.invokevirtual 390, 3) := by decide +kernel
theorem dX9_part_266 : decode cX9_part 266 = .ok (.istore_n 3, 1) := by decide +kernel
theorem dX9_part_267 : decode cX9_part 267 = .ok (.iload_n 3, 1) := by decide +kernel
theorem dX9_part_268 : decode cX9_part 268 = .ok (.ifCond .eq 24, 3) := by decide +kernel
theorem dX9_part_271 : decode cX9_part 271 = .ok (.aload_n 0, 1) := by decide +kernel
theorem dX9_part_272 : decode cX9_part 272 = .ok (.iload_n 3, 1) := by decide +kernel
theorem dX9_part_273 : decode cX9_part 273 = .ok (.invokevirtual 366, 3) := by decide +kernel
theorem dX9_part_276 : decode cX9_part 276 = .ok (.iconst 4, 1) := by decide +kernel
theorem dX9_part_277 : decode cX9_part 277 = .ok (.if_icmp .ne 17, 3) := by decide +kernel
theorem dX9_part_280 : decode cX9_part 280 = .ok (.aload_n 0, 1) := by decide +kernel
theorem dX9_part_281 : decode cX9_part 281 = .ok (.getfield 122, 3) := by decide +kernel
theorem dX9_part_284 : decode cX9_part 284 = .ok (.aload_n 0, 1) := by decide +kernel
theorem dX9_part_285 : decode cX9_part 285 = .ok (.getfield 128, 3) := by decide +kernel
theorem dX9_part_288 : decode cX9_part 288 = .ok (.baload, 1) := by decide +kernel
theorem dX9_part_289 : decode cX9_part 289 = .ok (.ifCond .eq 5, 3) := by decide +kernel
theorem dX9_part_292 : decode cX9_part 292 = .ok (.iconst 0, 1) := by decide +kernel
theorem dX9_part_293 : decode cX9_part 293 = .ok (.ireturn, 1) := by decide +kernel
theorem dX9_part_294 : decode cX9_part 294 = .ok (.aload_n 0, 1) := by decide +kernel
theorem dX9_part_295 : decode cX9_part 295 = .ok (.getfield 122, 3) := by decide +kernel
theorem dX9_part_298 : decode cX9_part 298 = .ok (.aload_n 0, 1) := by decide +kernel
theorem dX9_part_299 : decode cX9_part 299 = .ok (.getfield 128, 3) := by decide +kernel
theorem dX9_part_302 : decode cX9_part 302 = .ok (.aload_n 0, 1) := by decide +kernel
theorem dX9_part_303 : decode cX9_part 303 = .ok (.iload_n 3, 1) := by decide +kernel
theorem dX9_part_304 : decode cX9_part 304 = .ok (.invokevirtual 366, 3) := by decide +kernel
theorem dX9_part_307 : decode cX9_part 307 = .ok (.iconst 4, 1) := by decide +kernel
theorem dX9_part_308 : decode cX9_part 308 = .ok (.if_icmp .eq 24, 3) := by decide +kernel
theorem dX9_part_311 : decode cX9_part 311 = .ok (.aload_n 0, 1) := by decide +kernel
theorem dX9_part_312 : decode cX9_part 312 = .ok (.iload_n 3, 1) := by decide +kernel
theorem dX9_part_313 : decode cX9_part 313 = .ok (.invokevirtual 366, 3) := by decide +kernel
theorem dX9_part_316 : decode cX9_part 316 = .ok (.iconst 2, 1) := by decide +kernel
theorem dX9_part_317 : decode cX9_part 317 = .ok (.if_icmp .le 19, 3) := by decide +kernel
theorem dX9_part_320 : decode cX9_part 320 = .ok (.aload_n 0, 1) := by decide +kernel
theorem dX9_part_321 : decode cX9_part 321 = .ok (.getfield 122, 3) := by decide +kernel
theorem dX9_part_324 : decode cX9_part 324 = .ok (.aload_n 0, 1) := by decide +kernel
theorem dX9_part_325 : decode cX9_part 325 = .ok (.getfield 128, 3) := by decide +kernel
theorem dX9_part_328 : decode cX9_part 328 = .ok (.baload, 1) := by decide +kernel
theorem dX9_part_329 : decode cX9_part 329 = .ok (.ifCond .eq 7, 3) := by decide +kernel
theorem dX9_part_332 : decode cX9_part 332 = .ok (.iconst 1, 1) := by decide +kernel
theorem dX9_part_333 : decode cX9_part 333 = .ok (.goto 4, 3) := by decide +kernel
theorem dX9_part_336 : decode cX9_part 336 = .ok (.iconst 0, 1) := by decide +kernel
theorem dX9_part_337 : decode cX9_part 337 = .ok (.bastore, 1) := by decide +kernel
theorem dX9_part_338 : decode cX9_part 338 = .ok (.aload_n 0, 1) := by decide +kernel
theorem dX9_part_339 : decode cX9_part 339 = .ok (.aload_n 0, 1) := by decide +kernel
theorem dX9_part_340 : decode cX9_part 340 = .ok (.iload_n 3, 1) := by decide +kernel
theorem dX9_part_341 : decode cX9_part 341 = .ok (.invokevirtual 366, 3) := by decide +kernel
theorem dX9_part_344 : decode cX9_part 344 = .ok (.invokevirtual 384, 3) := by decide +kernel
theorem dX9_part_347 : decode cX9_part 347 = .ok (.aload_n 0, 1) := by decide +kernel
theorem dX9_part_348 : decode cX9_part 348 = .ok (.iload_n 3, 1) := by decide +kernel
theorem dX9_part_349 : decode cX9_part 349 = .ok (.invokevirtual 381, 3) := by decide +kernel
theorem dX9_part_352 : decode cX9_part 352 = .ok (.iconst 1, 1) := by decide +kernel
theorem dX9_part_353 : decode cX9_part 353 = .ok (.istore_n 1, 1) := by decide +kernel
theorem dX9_part_354 : decode cX9_part 354 = .ok (.aload_n 0, 1) := by decide +kernel
theorem dX9_part_355 : decode cX9_part 355 = .ok (.iload_n 3, 1) := by decide +kernel
theorem dX9_part_356 : decode cX9_part 356 = .ok (.invokevirtual 366, 3) := by decide +kernel
theorem dX9_part_359 : decode cX9_part 359 = .ok (.iconst 3, 1) := by decide +kernel
theorem dX9_part_360 : decode cX9_part 360 = .ok (.if_icmp .ge 7, 3) := by decide +kernel
theorem dX9_part_363 : decode cX9_part 363 = .ok (.iconst 1, 1) := by decide +kernel
theorem dX9_part_364 : decode cX9_part 364 = .ok (.goto 4, 3) := by decide +kernel
theorem dX9_part_367 : decode cX9_part 367 = .ok (.iconst 0, 1) := by decide +kernel
theorem dX9_part_368 : decode cX9_part 368 = .ok (.istore_n 2, 1) := by decide +kernel
theorem dX9_part_369 : decode cX9_part 369 = .ok (.aload_n 0, 1) := by decide +kernel
theorem dX9_part_370 : decode cX9_part 370 = .ok (.invokevirtual 387, 3) := by decide +kernel
theorem dX9_part_373 : decode cX9_part 373 = .ok (.goto (-337), 3) := by decide +kernel
theorem dX9_isText_0 : decode cX9_isText 0 = .ok (.aload_n 0, 1) := by decide +kernel
theorem dX9_isText_1 : decode cX9_isText 1 = .ok (.iconst 0, 1) := by decide +kernel
theorem dX9_isText_2 : decode cX9_isText 2 = .ok (.putfield 107, 3) := by decide +kernel
theorem dX9_isText_5 : decode cX9_isText 5 = .ok (.aload_n 0, 1) := by decide +kernel
theorem dX9_isText_6 : decode cX9_isText 6 = .ok (.invokevirtual 387, 3) := by decide +kernel
theorem dX9_isText_9 : decode cX9_isText 9 = .ok (.iconst 0, 1) := by decide +kernel
theorem dX9_isText_10 : decode cX9_isText 10 = .ok (.istore_n 1, 1) := by decide +kernel
theorem dX9_isText_11 : decode cX9_isText 11 = .ok (.iload_n 1, 1) := by decide +kernel
theorem dX9_isText_12 : decode cX9_isText 12 = .ok (.iconst 2, 1) := by decide +kernel
theorem dX9_isText_13 : decode cX9_isText 13 = .ok (.if_icmp .ge 48, 3) := by decide +kernel
theorem dX9_isText_16 : decode cX9_isText 16 = .ok (.aload_n 0, 1) := by decide +kernel
theorem dX9_isText_17 : decode cX9_isText 17 = .ok (.iload_n 1, 1) := by decide +kernel
theorem dX9_isText_18 : decode cX9_isText 18 = .ok (.invokevirtual 372, 3) := by decide +kernel
theorem dX9_isText_21 : decode cX9_isText 21 = .ok (.ifCond .ne 5, 3) := by decide +kernel
theorem dX9_isText_24 : decode cX9_isText 24 = .ok (.iconst 0, 1) := by decide +kernel
theorem dX9_isText_25 : decode cX9_isText 25 = .ok (.ireturn, 1) := by decide +kernel
theorem dX9_isText_26 : decode cX9_isText 26 = .ok (.aload_n 0, 1) := by decide +kernel
theorem dX9_isText_27 : decode cX9_isText 27 = .ok (.invokevirtual 387, 3) := by decide +kernel
theorem dX9_isText_30 : decode cX9_isText 30 = .ok (.aload_n 0, 1) := by decide +kernel
theorem dX9_isText_31 : decode cX9_isText 31 = .ok (.iconst 2, 1) := by decide +kernel
theorem dX9_isText_32 : decode cX9_isText 32 = .ok (.aload_n 0, 1) := by decide +kernel
theorem dX9_isText_33 : decode cX9_isText 33 = .ok (.getfield 95, 3) := by decide +kernel
theorem dX9_isText_36 : decode cX9_isText 36 = .ok (.imul, 1) := by decide +kernel
theorem dX9_isText_37 : decode cX9_isText 37 = .ok (.iload_n 1, 1) := by decide +kernel
theorem dX9_isText_38 : decode cX9_isText 38 = .ok (.iadd, 1) := by decide +kernel
theorem dX9_isText_39 : decode cX9_isText 39 = .ok (.putfield 134, 3) := by decide +kernel
theorem dX9_isText_42 : decode cX9_isText 42 = .ok (.aload_n 0, 1) := by decide +kernel
theorem dX9_isText_43 : decode cX9_isText 43 = .ok (.invokevirtual 393, 3) := by decide +kernel
theorem dX9_isText_46 : decode cX9_isText 46 = .ok (.ifCond .ne 5, 3) := by decide +kernel
theorem dX9_isText_49 : decode cX9_isText 49 = .ok (.iconst 0, 1) := by decide +kernel
theorem dX9_isText_50 : decode cX9_isText 50 = .ok (.ireturn, 1) := by decide +kernel
theorem dX9_isText_51 : decode cX9_isText 51 = .ok (.aload_n 0, 1) := by decide +kernel
theorem dX9_isText_52 : decode cX9_isText 52 = .ok (.invokevirtual 387, 3) := by decide +kernel
theorem dX9_isText_55 : decode cX9_isText 55 = .ok (.iinc 1 1, 3) := by decide +kernel
theorem dX9_isText_58 : decode cX9_isText 58 = .ok (.goto (-47), 3) := by decide +kernel
theorem dX9_isText_61 : decode cX9_isText 61 = .ok (.aload_n 0, 1) := by decide +kernel
theorem dX9_isText_62 : decode cX9_isText 62 = .ok (.getfield 110, 3) := by decide +kernel
theorem dX9_isText_65 : decode cX9_isText 65 = .ok (.ifCond .ne 7, 3) := by decide +kernel
theorem dX9_isText_68 : decode cX9_isText 68 = .ok (.iconst 1, 1) := by decide +kernel
theorem dX9_isText_69 : decode cX9_isText 69 = .ok (.goto 4, 3) := by decide +kernel
theorem dX9_isText_72 : decode cX9_isText 72 = .ok (.iconst 0, 1) := by decide +kernel
theorem dX9_isText_73 : decode cX9_isText 73 = .ok (.ireturn, 1) := by decide +kernel
theorem dX9_text_0 : decode cX9_text 0 = .ok (.aload_n 0, 1) := by decide +kernel
theorem dX9_text_1 : decode cX9_text 1 = .ok (.getfield 95, 3) := by decide +kernel
theorem dX9_text_4 : decode cX9_text 4 = .ok (.bipush 6, 2) := by decide +kernel
theorem dX9_text_6 : decode cX9_text 6 = .ok (.if_icmp .ne 6, 3) := by decide +kernel
theorem dX9_text_9 : decode cX9_text 9 = .ok (.bipush (-4), 2) := by decide +kernel
theorem dX9_text_11 : decode cX9_text 11 = .ok (.ireturn, 1) := by decide +kernel
theorem dX9_text_12 : decode cX9_text 12 = .ok (.aload_n 0, 1) := by decide +kernel
theorem dX9_text_13 : decode cX9_text 13 = .ok (.invokevirtual 397, 3) := by decide +kernel
theorem dX9_text_16 : decode cX9_text 16 = .ok (.istore_n 1, 1) := by decide +kernel
theorem dX9_text_17 : decode cX9_text 17 = .ok (.aload_n 0, 1) := by decide +kernel
theorem dX9_text_18 : decode cX9_text 18 = .ok (.getfield 116, 3) := by decide +kernel
theorem dX9_text_21 : decode cX9_text 21 = .ok (.istore_n 2, 1) := by decide +kernel
theorem dX9_text_22 : decode cX9_text 22 = .ok (.aload_n 0, 1) := by decide +kernel
theorem dX9_text_23 : decode cX9_text 23 = .ok (.iconst 0, 1) := by decide +kernel
theorem dX9_text_24 : decode cX9_text 24 = .ok (.putfield 92, 3) := by decide +kernel
theorem dX9_text_27 : decode cX9_text 27 = .ok (.iload_n 1, 1) := by decide +kernel
theorem dX9_text_28 : decode cX9_text 28 = .ok (.ifCond .ne 8, 3) := by decide +kernel
theorem dX9_text_31 : decode cX9_text 31 = .ok (.bipush (-100), 2) := by decide +kernel
theorem dX9_text_33 : decode cX9_text 33 = .ok (.iload_n 2, 1) := by decide +kernel
theorem dX9_text_34 : decode cX9_text 34 = .ok (.isub, 1) := by decide +kernel
theorem dX9_text_35 : decode cX9_text 35 = .ok (.ireturn, 1) := by decide +kernel
theorem dX9_text_36 : decode cX9_text 36 = .ok (.aload_n 0, 1) := by decide +kernel
theorem dX9_text_37 : decode cX9_text 37 = .ok (.dup, 1) := by decide +kernel
theorem dX9_text_38 : decode cX9_text 38 = .ok (.getfield 95, 3) := by decide +kernel
theorem dX9_text_41 : decode cX9_text 41 = .ok (.iconst 1, 1) := by decide +kernel
theorem dX9_text_42 : decode cX9_text 42 = .ok (.iadd, 1) := by decide +kernel
theorem dX9_text_43 : decode cX9_text 43 = .ok (.putfield 95, 3) := by decide +kernel
theorem dX9_text_46 : decode cX9_text 46 = .ok (.aload_n 0, 1) := by decide +kernel
theorem dX9_text_47 : decode cX9_text 47 = .ok (.getfield 95, 3) := by decide +kernel
theorem dX9_text_50 : decode cX9_text 50 = .ok (.iconst 1, 1) := by decide +kernel
theorem dX9_text_51 : decode cX9_text 51 = .ok (.isub, 1) := by decide +kernel
theorem dX9_text_52 : decode cX9_text 52 = .ok (.ireturn, 1) := by decide +kernel
theorem dX9_force_0 : decode cX9_force 0 = .ok (.aload_n 0, 1) := by decide +kernel
theorem dX9_force_1 : decode cX9_force 1 = .ok (.iload_n 1, 1) := by decide +kernel
theorem dX9_force_2 : decode cX9_force 2 = .ok (.iconst 0, 1) := by decide +kernel
theorem dX9_force_3 : decode cX9_force 3 = .ok (.aload_n 0, 1) := by decide +kernel
theorem dX9_force_4 : decode cX9_force 4 = .ok (.getfield 95, 3) := by decide +kernel
theorem dX9_force_7 : decode cX9_force 7 = .ok (.iconst 1, 1) := by decide +kernel
theorem dX9_force_8 : decode cX9_force 8 = .ok (.isub, 1) := by decide +kernel
theorem dX9_force_9 : decode cX9_force 9 = .ok (.invokevirtual 155, 3) := by decide +kernel
theorem dX9_force_12 : decode cX9_force 12 = .ok (.ifCond .ne 6, 3) := by decide +kernel
theorem dX9_force_15 : decode cX9_force 15 = .ok (.bipush (-2), 2) := by decide +kernel
theorem dX9_force_17 : decode cX9_force 17 = .ok (.ireturn, 1) := by decide +kernel
theorem dX9_force_18 : decode cX9_force 18 = .ok (.aload_n 0, 1) := by decide +kernel
theorem dX9_force_19 : decode cX9_force 19 = .ok (.getfield 98, 3) := by decide +kernel
theorem dX9_force_22 : decode cX9_force 22 = .ok (.istore_n 2, 1) := by decide +kernel
theorem dX9_force_23 : decode cX9_force 23 = .ok (.aload_n 0, 1) := by decide +kernel
theorem dX9_force_24 : decode cX9_force 24 = .ok (.iload_n 1, 1) := by decide +kernel
theorem dX9_force_25 : decode cX9_force 25 = .ok (.putfield 98, 3) := by decide +kernel
theorem dX9_force_28 : decode cX9_force 28 = .ok (.iload_n 2, 1) := by decide +kernel
theorem dX9_force_29 : decode cX9_force 29 = .ok (.ireturn, 1) := by decide +kernel
theorem dX9_named_0 : decode cX9_named 0 = .ok (.iload_n 1, 1) := by decide +kernel
theorem dX9_named_1 : decode cX9_named 1 = .ok (.ifCond .ne 11, 3) := by decide +kernel
theorem dX9_named_4 : decode cX9_named 4 = .ok (.aload_n 0, 1) := by decide +kernel
theorem dX9_named_5 : decode cX9_named 5 = .ok (.iconst 0, 1) := by decide +kernel
theorem dX9_named_6 : decode cX9_named 6 = .ok (.invokevirtual 254, 3) := by decide +kernel
theorem dX9_named_9 : decode cX9_named 9 = .ok (.goto 57, 3) := by decide +kernel
theorem dX9_named_12 : decode cX9_named 12 = .ok (.iload_n 1, 1) := by decide +kernel
theorem dX9_named_13 : decode cX9_named 13 = .ok (.iconst 1, 1) := by decide +kernel
theorem dX9_named_14 : decode cX9_named 14 = .ok (.if_icmp .ne 11, 3) := by decide +kernel
theorem dX9_named_17 : decode cX9_named 17 = .ok (.aload_n 0, 1) := by decide +kernel
theorem dX9_named_18 : decode cX9_named 18 = .ok (.iconst 1, 1) := by decide +kernel
theorem dX9_named_19 : decode cX9_named 19 = .ok (.invokevirtual 254, 3) := by decide +kernel
theorem dX9_named_22 : decode cX9_named 22 = .ok (.goto 44, 3) := by decide +kernel
theorem dX9_named_25 : decode cX9_named 25 = .ok (.iload_n 1, 1) := by decide +kernel
theorem dX9_named_26 : decode cX9_named 26 = .ok (.iconst 2, 1) := by decide +kernel
theorem dX9_named_27 : decode cX9_named 27 = .ok (.if_icmp .ne 11, 3) := by decide +kernel
theorem dX9_named_30 : decode cX9_named 30 = .ok (.aload_n 0, 1) := by decide +kernel
theorem dX9_named_31 : decode cX9_named 31 = .ok (.iconst 2, 1) := by decide +kernel
theorem dX9_named_32 : decode cX9_named 32 = .ok (.invokevirtual 254, 3) := by decide +kernel
theorem dX9_named_35 : decode cX9_named 35 = .ok (.goto 31, 3) := by decide +kernel
theorem dX9_named_38 : decode cX9_named 38 = .ok (.iload_n 1, 1) := by decide +kernel
theorem dX9_named_39 : decode cX9_named 39 = .ok (.iconst 3, 1) := by decide +kernel
theorem dX9_named_40 : decode cX9_named 40 = .ok (.if_icmp .ne 10, 3) := by decide +kernel
theorem dX9_named_43 : decode cX9_named 43 = .ok (.aload_n 0, 1) := by decide +kernel
theorem dX9_named_44 : decode cX9_named 44 = .ok (.invokevirtual 400, 3) := by decide +kernel
theorem dX9_named_47 : decode cX9_named 47 = .ok (.goto 19, 3) := by decide +kernel
theorem dX9_named_50 : decode cX9_named 50 = .ok (.iload_n 1, 1) := by decide +kernel
theorem dX9_named_51 : decode cX9_named 51 = .ok (.iconst 4, 1) := by decide +kernel
theorem dX9_named_52 : decode cX9_named 52 = .ok (.if_icmp .ne 10, 3) := by decide +kernel
theorem dX9_named_55 : decode cX9_named 55 = .ok (.aload_n 0, 1) := by decide +kernel
theorem dX9_named_56 : decode cX9_named 56 = .ok (.getfield 7, 3) := by decide +kernel
theorem dX9_named_59 : decode cX9_named 59 = .ok (.goto 7, 3) := by decide +kernel
theorem dX9_named_62 : decode cX9_named 62 = .ok (.aload_n 0, 1) := by decide +kernel
theorem dX9_named_63 : decode cX9_named 63 = .ok (.invokevirtual 403, 3) := by decide +kernel
theorem dX9_named_66 : decode cX9_named 66 = .ok (.ireturn, 1) := by decide +kernel
theorem dX9_both_0 : decode cX9_both 0 = .ok (.iload_n 1, 1) := by decide +kernel
theorem dX9_both_1 : decode cX9_both 1 = .ok (.tableswitch 101 (-7) (-1) #[97, 93, 82, 71, 101, 57, 43], 43) := by decide +kernel
theorem dX9_both_44 : decode cX9_both 44 = .ok (.iload_n 2, 1) := by decide +kernel
theorem dX9_both_45 : decode cX9_both 45 = .ok (.ifCond .ne 7, 3) := by decide +kernel
theorem dX9_both_48 : decode cX9_both 48 = .ok (.iload_n 3, 1) := by decide +kernel
theorem dX9_both_49 : decode cX9_both 49 = .ok (.ifCond .eq 7, 3) := by decide +kernel
theorem dX9_both_52 : decode cX9_both 52 = .ok (.iconst 1, 1) := by decide +kernel
theorem dX9_both_53 : decode cX9_both 53 = .ok (.goto 4, 3) := by decide +kernel
theorem dX9_both_56 : decode cX9_both 56 = .ok (.iconst 0, 1) := by decide +kernel
theorem dX9_both_57 : decode cX9_both 57 = .ok (.ireturn, 1) := by decide +kernel
theorem dX9_both_58 : decode cX9_both 58 = .ok (.iload_n 2, 1) := by decide +kernel
theorem dX9_both_59 : decode cX9_both 59 = .ok (.ifCond .eq 11, 3) := by decide +kernel
theorem dX9_both_62 : decode cX9_both 62 = .ok (.iload_n 3, 1) := by decide +kernel
theorem dX9_both_63 : decode cX9_both 63 = .ok (.ifCond .eq 7, 3) := by decide +kernel
theorem dX9_both_66 : decode cX9_both 66 = .ok (.iconst 1, 1) := by decide +kernel
theorem dX9_both_67 : decode cX9_both 67 = .ok (.goto 4, 3) := by decide +kernel
theorem dX9_both_70 : decode cX9_both 70 = .ok (.iconst 0, 1) := by decide +kernel
theorem dX9_both_71 : decode cX9_both 71 = .ok (.ireturn, 1) := by decide +kernel
theorem dX9_both_72 : decode cX9_both 72 = .ok (.iload_n 2, 1) := by decide +kernel
theorem dX9_both_73 : decode cX9_both 73 = .ok (.iload_n 3, 1) := by decide +kernel
theorem dX9_both_74 : decode cX9_both 74 = .ok (.if_icmp .ge 7, 3) := by decide +kernel
theorem dX9_both_77 : decode cX9_both 77 = .ok (.iconst 1, 1) := by decide +kernel
theorem dX9_both_78 : decode cX9_both 78 = .ok (.goto 4, 3) := by decide +kernel
theorem dX9_both_81 : decode cX9_both 81 = .ok (.iconst 0, 1) := by decide +kernel
theorem dX9_both_82 : decode cX9_both 82 = .ok (.ireturn, 1) := by decide +kernel
theorem dX9_both_83 : decode cX9_both 83 = .ok (.iload_n 2, 1) := by decide +kernel
theorem dX9_both_84 : decode cX9_both 84 = .ok (.iload_n 3, 1) := by decide +kernel
theorem dX9_both_85 : decode cX9_both 85 = .ok (.if_icmp .ne 7, 3) := by decide +kernel
theorem dX9_both_88 : decode cX9_both 88 = .ok (.iconst 1, 1) := by decide +kernel
theorem dX9_both_89 : decode cX9_both 89 = .ok (.goto 4, 3) := by decide +kernel
theorem dX9_both_92 : decode cX9_both 92 = .ok (.iconst 0, 1) := by decide +kernel
theorem dX9_both_93 : decode cX9_both 93 = .ok (.ireturn, 1) := by decide +kernel
theorem dX9_both_94 : decode cX9_both 94 = .ok (.iload_n 2, 1) := by decide +kernel
theorem dX9_both_95 : decode cX9_both 95 = .ok (.iload_n 3, 1) := by decide +kernel
theorem dX9_both_96 : decode cX9_both 96 = .ok (.iadd, 1) := by decide +kernel
theorem dX9_both_97 : decode cX9_both 97 = .ok (.ireturn, 1) := by decide +kernel
theorem dX9_both_98 : decode cX9_both 98 = .ok (.iload_n 2, 1) := by decide +kernel
theorem dX9_both_99 : decode cX9_both 99 = .ok (.iload_n 3, 1) := by decide +kernel
theorem dX9_both_100 : decode cX9_both 100 = .ok (.isub, 1) := by decide +kernel
theorem dX9_both_101 : decode cX9_both 101 = .ok (.ireturn, 1) := by decide +kernel
theorem dX9_both_102 : decode cX9_both 102 = .ok (.iload_n 2, 1) := by decide +kernel
theorem dX9_both_103 : decode cX9_both 103 = .ok (.iload_n 3, 1) := by decide +kernel
theorem dX9_both_104 : decode cX9_both 104 = .ok (.imul, 1) := by decide +kernel
theorem dX9_both_105 : decode cX9_both 105 = .ok (.ireturn, 1) := by decide +kernel
theorem dX9_says_0 : decode cX9_says 0 = .ok (.aload_n 0, 1) := by decide +kernel
theorem dX9_says_1 : decode cX9_says 1 = .ok (.iload_n 1, 1) := by decide +kernel
theorem dX9_says_2 : decode cX9_says 2 = .ok (.iconst 0, 1) := by decide +kernel
theorem dX9_says_3 : decode cX9_says 3 = .ok (.iconst 1, 1) := by decide +kernel
theorem dX9_says_4 : decode cX9_says 4 = .ok (.invokevirtual 155, 3) := by decide +kernel
theorem dX9_says_7 : decode cX9_says 7 = .ok (.ifCond .ne 7, 3) := by decide +kernel
theorem dX9_says_10 : decode cX9_says 10 = .ok (.ldc2_w 406, 3) := by decide +kernel
theorem dX9_says_13 : decode cX9_says 13 = .ok (.lreturn, 1) := by decide +kernel
theorem dX9_says_14 : decode cX9_says 14 = .ok (.iconst 2, 1) := by decide +kernel
theorem dX9_says_15 : decode cX9_says 15 = .ok (.aload_n 0, 1) := by decide +kernel
theorem dX9_says_16 : decode cX9_says 16 = .ok (.getfield 98, 3) := by decide +kernel
theorem dX9_says_19 : decode cX9_says 19 = .ok (.imul, 1) := by decide +kernel
theorem dX9_says_20 : decode cX9_says 20 = .ok (.iload_n 1, 1) := by decide +kernel
theorem dX9_says_21 : decode cX9_says 21 = .ok (.iadd, 1) := by decide +kernel
theorem dX9_says_22 : decode cX9_says 22 = .ok (.istore_n 2, 1) := by decide +kernel
theorem dX9_says_23 : decode cX9_says 23 = .ok (.iconst 0, 1) := by decide +kernel
theorem dX9_says_24 : decode cX9_says 24 = .ok (.istore_n 3, 1) := by decide +kernel
theorem dX9_says_25 : decode cX9_says 25 = .ok (.iconst 0, 1) := by decide +kernel
theorem dX9_says_26 : decode cX9_says 26 = .ok (.istore 4, 2) := by decide +kernel
theorem dX9_says_28 : decode cX9_says 28 = .ok (.iload 4, 2) := by decide +kernel
theorem dX9_says_30 : decode cX9_says 30 = .ok (.aload_n 0, 1) := by decide +kernel
theorem dX9_says_31 : decode cX9_says 31 = .ok (.getfield 101, 3) := by decide +kernel
theorem dX9_says_34 : decode cX9_says 34 = .ok (.iload_n 2, 1) := by decide +kernel
theorem dX9_says_35 : decode cX9_says 35 = .ok (.iaload, 1) := by decide +kernel
theorem dX9_says_36 : decode cX9_says 36 = .ok (.if_icmp .ge 154, 3) := by decide +kernel
theorem dX9_says_39 : decode cX9_says 39 = .ok (.aload_n 0, 1) := by decide +kernel
theorem dX9_says_40 : decode cX9_says 40 = .ok (.getfield 104, 3) := by decide +kernel
theorem dX9_says_43 : decode cX9_says 43 = .ok (.bipush 120, 2) := by decide +kernel
theorem dX9_says_45 : decode cX9_says 45 = .ok (.iload_n 2, 1) := by decide +kernel
theorem dX9_says_46 : decode cX9_says 46 = .ok (.imul, 1) := by decide +kernel
theorem dX9_says_47 : decode cX9_says 47 = .ok (.iload 4, 2) := by decide +kernel
theorem dX9_says_49 : decode cX9_says 49 = .ok (.iadd, 1) := by decide +kernel
theorem dX9_says_50 : decode cX9_says 50 = .ok (.iaload, 1) := by decide +kernel
theorem dX9_says_51 : decode cX9_says 51 = .ok (.istore 5, 2) := by decide +kernel
theorem dX9_says_53 : decode cX9_says 53 = .ok (.iload 5, 2) := by decide +kernel
theorem dX9_says_55 : decode cX9_says 55 = .ok (.ifCond .lt 38, 3) := by decide +kernel
theorem dX9_says_58 : decode cX9_says 58 = .ok (.aload_n 0, 1) := by decide +kernel
theorem dX9_says_59 : decode cX9_says 59 = .ok (.getfield 137, 3) := by decide +kernel
theorem dX9_says_62 : decode cX9_says 62 = .ok (.iload_n 3, 1) := by decide +kernel
theorem dX9_says_63 : decode cX9_says 63 = .ok (.iload 5, 2) := by decide +kernel
theorem dX9_says_65 : decode cX9_says 65 = .ok (.sipush 10000, 3) := by decide +kernel
theorem dX9_says_68 : decode cX9_says 68 = .ok (.if_icmp .ge 8, 3) := by decide +kernel
theorem dX9_says_71 : decode cX9_says 71 = .ok (.iload 5, 2) := by decide +kernel
theorem dX9_says_73 : decode cX9_says 73 = .ok (.goto 13, 3) := by decide +kernel
theorem dX9_says_76 : decode cX9_says 76 = .ok (.aload_n 0, 1) := by decide +kernel
theorem dX9_says_77 : decode cX9_says 77 = .ok (.iload 5, 2) := by decide +kernel
theorem dX9_says_79 : decode cX9_says 79 = .ok (.sipush 10000, 3) := by decide +kernel
theorem dX9_says_82 : decode cX9_says 82 = .ok (.isub, 1) := by decide +kernel
theorem dX9_says_83 : decode cX9_says 83 = .ok (.invokevirtual 408, 3) := by decide +kernel
theorem dX9_says_86 : decode cX9_says 86 = .ok (.iastore, 1) := by decide +kernel
theorem dX9_says_87 : decode cX9_says 87 = .ok (.iinc 3 1, 3) := by decide +kernel
theorem dX9_says_90 : decode cX9_says 90 = .ok (.goto 94, 3) := by decide +kernel
theorem dX9_says_93 : decode cX9_says 93 = .ok (.iload 5, 2) := by decide +kernel
theorem dX9_says_95 : decode cX9_says 95 = .ok (.bipush (-3), 2) := by decide +kernel
theorem dX9_says_97 : decode cX9_says 97 = .ok (.if_icmp .eq 10, 3) := by decide +kernel
theorem dX9_says_100 : decode cX9_says 100 = .ok (.iload 5, 2) := by decide +kernel
theorem dX9_says_102 : decode cX9_says 102 = .ok (.bipush (-9), 2) := by decide +kernel
theorem dX9_says_104 : decode cX9_says 104 = .ok (.if_icmp .ne 49, 3) := by decide +kernel
theorem dX9_says_107 : decode cX9_says 107 = .ok (.aload_n 0, 1) := by decide +kernel
theorem dX9_says_108 : decode cX9_says 108 = .ok (.getfield 137, 3) := by decide +kernel
theorem dX9_says_111 : decode cX9_says 111 = .ok (.iload_n 3, 1) := by decide +kernel
theorem dX9_says_112 : decode cX9_says 112 = .ok (.iconst 1, 1) := by decide +kernel
theorem dX9_says_113 : decode cX9_says 113 = .ok (.isub, 1) := by decide +kernel
theorem dX9_says_114 : decode cX9_says 114 = .ok (.iload 5, 2) := by decide +kernel
theorem dX9_says_116 : decode cX9_says 116 = .ok (.bipush (-9), 2) := by decide +kernel
theorem dX9_says_118 : decode cX9_says 118 = .ok (.if_icmp .ne 15, 3) := by decide +kernel
theorem dX9_says_121 : decode cX9_says 121 = .ok (.aload_n 0, 1) := by decide +kernel
theorem dX9_says_122 : decode cX9_says 122 = .ok (.getfield 137, 3) := by decide +kernel
theorem dX9_says_125 : decode cX9_says 125 = .ok (.iload_n 3, 1) := by decide +kernel
theorem dX9_says_126 : decode cX9_says 126 = .ok (.iconst 1, 1) := by decide +kernel
theorem dX9_says_127 : decode cX9_says 127 = .ok (.isub, 1) := by decide +kernel
theorem dX9_says_128 : decode cX9_says 128 = .ok (.iaload, 1) := by decide +kernel
theorem dX9_says_129 : decode cX9_says 129 = .ok (.ineg, 1) := by decide +kernel
theorem dX9_says_130 : decode cX9_says 130 = .ok (.goto 19, 3) := by decide +kernel
theorem dX9_says_133 : decode cX9_says 133 = .ok (.aload_n 0, 1) := by decide +kernel
theorem dX9_says_134 : decode cX9_says 134 = .ok (.getfield 137, 3) := by decide +kernel
theorem dX9_says_137 : decode cX9_says 137 = .ok (.iload_n 3, 1) := by decide +kernel
theorem dX9_says_138 : decode cX9_says 138 = .ok (.iconst 1, 1) := by decide +kernel
theorem dX9_says_139 : decode cX9_says 139 = .ok (.isub, 1) := by decide +kernel
theorem dX9_says_140 : decode cX9_says 140 = .ok (.iaload, 1) := by decide +kernel
theorem dX9_says_141 : decode cX9_says 141 = .ok (.ifCond .ne 7, 3) := by decide +kernel
theorem dX9_says_144 : decode cX9_says 144 = .ok (.iconst 1, 1) := by decide +kernel
theorem dX9_says_145 : decode cX9_says 145 = .ok (.goto 4, 3) := by decide +kernel
theorem dX9_says_148 : decode cX9_says 148 = .ok (.iconst 0, 1) := by decide +kernel
theorem dX9_says_149 : decode cX9_says 149 = .ok (.iastore, 1) := by decide +kernel
theorem dX9_says_150 : decode cX9_says 150 = .ok (.goto 34, 3) := by decide +kernel
theorem dX9_says_153 : decode cX9_says 153 = .ok (.iinc 3 (-1), 3) := by decide +kernel
theorem dX9_says_156 : decode cX9_says 156 = .ok (.aload_n 0, 1) := by decide +kernel
theorem dX9_says_157 : decode cX9_says 157 = .ok (.getfield 137, 3) := by decide +kernel
theorem dX9_says_160 : decode cX9_says 160 = .ok (.iload_n 3, 1) := by decide +kernel
theorem dX9_says_161 : decode cX9_says 161 = .ok (.iconst 1, 1) := by decide +kernel
theorem dX9_says_162 : decode cX9_says 162 = .ok (.isub, 1) := by decide +kernel
theorem dX9_says_163 : decode cX9_says 163 = .ok (.aload_n 0, 1) := by decide +kernel
theorem dX9_says_164 : decode cX9_says 164 = .ok (.iload 5, 2) := by decide +kernel
theorem dX9_says_166 : decode cX9_says 166 = .ok (.aload_n 0, 1) := by decide +kernel
theorem dX9_says_167 : decode cX9_says 167 = .ok (.getfield 137, 3) := by decide +kernel
theorem dX9_says_170 : decode cX9_says 170 = .ok (.iload_n 3, 1) := by decide +kernel
theorem dX9_says_171 : decode cX9_says 171 = .ok (.iconst 1, 1) := by decide +kernel
theorem dX9_says_172 : decode cX9_says 172 = .ok (.isub, 1) := by decide +kernel
theorem dX9_says_173 : decode cX9_says 173 = .ok (.iaload, 1) := by decide +kernel
theorem dX9_says_174 : decode cX9_says 174 = .ok (.aload_n 0, 1) := by decide +kernel
theorem dX9_says_175 : decode cX9_says 175 = .ok (.getfield 137, 3) := by decide +kernel
theorem dX9_says_178 : decode cX9_says 178 = .ok (.iload_n 3, 1) := by decide +kernel
theorem dX9_says_179 : decode cX9_says 179 = .ok (.iaload, 1) := by decide +kernel
theorem dX9_says_180 : decode cX9_says 180 = .ok (.invokevirtual 410, 3) := by decide +kernel
theorem dX9_says_183 : decode cX9_says 183 = .ok (.iastore, 1) := by decide +kernel
theorem dX9_says_184 : decode cX9_says 184 = .ok (.iinc 4 1, 3) := by decide +kernel
theorem dX9_says_187 : decode cX9_says 187 = .ok (.goto (-159), 3) := by decide +kernel
theorem dX9_says_190 : decode cX9_says 190 = .ok (.aload_n 0, 1) := by decide +kernel
theorem dX9_says_191 : decode cX9_says 191 = .ok (.getfield 137, 3) := by decide +kernel
theorem dX9_says_194 : decode cX9_says 194 = .ok (.iconst 0, 1) := by decide +kernel
theorem dX9_says_195 : decode cX9_says 195 = .ok (.iaload, 1) := by decide +kernel
theorem dX9_says_196 : decode cX9_says 196 = .ok (.i2l, 1) := by decide +kernel
theorem dX9_says_197 : decode cX9_says 197 = .ok (.lreturn, 1) := by decide +kernel
theorem dX9_count_0 : decode cX9_count 0 = .ok (.iload_n 1, 1) := by decide +kernel
theorem dX9_count_1 : decode cX9_count 1 = .ok (.tableswitch 104 0 8 #[51, 56, 61, 66, 71, 76, 81, 86, 91], 51) := by decide +kernel
theorem dX9_count_52 : decode cX9_count 52 = .ok (.aload_n 0, 1) := by decide +kernel
theorem dX9_count_53 : decode cX9_count 53 = .ok (.getfield 149, 3) := by decide +kernel
theorem dX9_count_56 : decode cX9_count 56 = .ok (.ireturn, 1) := by decide +kernel
theorem dX9_count_57 : decode cX9_count 57 = .ok (.aload_n 0, 1) := by decide +kernel
theorem dX9_count_58 : decode cX9_count 58 = .ok (.getfield 7, 3) := by decide +kernel
theorem dX9_count_61 : decode cX9_count 61 = .ok (.ireturn, 1) := by decide +kernel
theorem dX9_count_62 : decode cX9_count 62 = .ok (.aload_n 0, 1) := by decide +kernel
theorem dX9_count_63 : decode cX9_count 63 = .ok (.invokevirtual 166, 3) := by decide +kernel
theorem dX9_count_66 : decode cX9_count 66 = .ok (.ireturn, 1) := by decide +kernel
theorem dX9_count_67 : decode cX9_count 67 = .ok (.aload_n 0, 1) := by decide +kernel
theorem dX9_count_68 : decode cX9_count 68 = .ok (.getfield 13, 3) := by decide +kernel
theorem dX9_count_71 : decode cX9_count 71 = .ok (.ireturn, 1) := by decide +kernel
theorem dX9_count_72 : decode cX9_count 72 = .ok (.aload_n 0, 1) := by decide +kernel
theorem dX9_count_73 : decode cX9_count 73 = .ok (.getfield 16, 3) := by decide +kernel
theorem dX9_count_76 : decode cX9_count 76 = .ok (.ireturn, 1) := by decide +kernel
theorem dX9_count_77 : decode cX9_count 77 = .ok (.aload_n 0, 1) := by decide +kernel
theorem dX9_count_78 : decode cX9_count 78 = .ok (.getfield 95, 3) := by decide +kernel
theorem dX9_count_81 : decode cX9_count 81 = .ok (.ireturn, 1) := by decide +kernel
theorem dX9_count_82 : decode cX9_count 82 = .ok (.aload_n 0, 1) := by decide +kernel
theorem dX9_count_83 : decode cX9_count 83 = .ok (.getfield 92, 3) := by decide +kernel
theorem dX9_count_86 : decode cX9_count 86 = .ok (.ireturn, 1) := by decide +kernel
theorem dX9_count_87 : decode cX9_count 87 = .ok (.aload_n 0, 1) := by decide +kernel
theorem dX9_count_88 : decode cX9_count 88 = .ok (.getfield 98, 3) := by decide +kernel
theorem dX9_count_91 : decode cX9_count 91 = .ok (.ireturn, 1) := by decide +kernel
theorem dX9_count_92 : decode cX9_count 92 = .ok (.aload_n 0, 1) := by decide +kernel
theorem dX9_count_93 : decode cX9_count 93 = .ok (.getfield 67, 3) := by decide +kernel
theorem dX9_count_96 : decode cX9_count 96 = .ok (.ifCond .eq 7, 3) := by decide +kernel
theorem dX9_count_99 : decode cX9_count 99 = .ok (.iconst 1, 1) := by decide +kernel
theorem dX9_count_100 : decode cX9_count 100 = .ok (.goto 4, 3) := by decide +kernel
theorem dX9_count_103 : decode cX9_count 103 = .ok (.iconst 0, 1) := by decide +kernel
theorem dX9_count_104 : decode cX9_count 104 = .ok (.ireturn, 1) := by decide +kernel
theorem dX9_count_105 : decode cX9_count 105 = .ok (.bipush (-2), 2) := by decide +kernel
theorem dX9_count_107 : decode cX9_count 107 = .ok (.ireturn, 1) := by decide +kernel
theorem dX9_isSheet_0 : decode cX9_isSheet 0 = .ok (.aload_n 0, 1) := by decide +kernel
theorem dX9_isSheet_1 : decode cX9_isSheet 1 = .ok (.iload_n 1, 1) := by decide +kernel
theorem dX9_isSheet_2 : decode cX9_isSheet 2 = .ok (.iconst 0, 1) := by decide +kernel
theorem dX9_isSheet_3 : decode cX9_isSheet 3 = .ok (.iconst 3, 1) := by decide +kernel
theorem dX9_isSheet_4 : decode cX9_isSheet 4 = .ok (.invokevirtual 155, 3) := by decide +kernel
theorem dX9_isSheet_7 : decode cX9_isSheet 7 = .ok (.ireturn, 1) := by decide +kernel
theorem dX9_sheet_0 : decode cX9_sheet 0 = .ok (.aload_n 0, 1) := by decide +kernel
theorem dX9_sheet_1 : decode cX9_sheet 1 = .ok (.iload_n 1, 1) := by decide +kernel
theorem dX9_sheet_2 : decode cX9_sheet 2 = .ok (.invokevirtual 413, 3) := by decide +kernel
theorem dX9_sheet_5 : decode cX9_sheet 5 = .ok (.ifCond .eq 23, 3) := by decide +kernel
theorem dX9_sheet_8 : decode cX9_sheet 8 = .ok (.aload_n 0, 1) := by decide +kernel
theorem dX9_sheet_9 : decode cX9_sheet 9 = .ok (.iload_n 2, 1) := by decide +kernel
theorem dX9_sheet_10 : decode cX9_sheet 10 = .ok (.iconst (-1), 1) := by decide +kernel
theorem dX9_sheet_11 : decode cX9_sheet 11 = .ok (.iconst 2, 1) := by decide +kernel
theorem dX9_sheet_12 : decode cX9_sheet 12 = .ok (.invokevirtual 155, 3) := by decide +kernel
theorem dX9_sheet_15 : decode cX9_sheet 15 = .ok (.ifCond .eq 13, 3) := by decide +kernel
theorem dX9_sheet_18 : decode cX9_sheet 18 = .ok (.iload_n 2, 1) := by decide +kernel
theorem dX9_sheet_19 : decode cX9_sheet 19 = .ok (.ifCond .lt 12, 3) := by decide +kernel
theorem dX9_sheet_22 : decode cX9_sheet 22 = .ok (.iload_n 3, 1) := by decide +kernel
theorem dX9_sheet_23 : decode cX9_sheet 23 = .ok (.bipush 40, 2) := by decide +kernel
theorem dX9_sheet_25 : decode cX9_sheet 25 = .ok (.if_icmp .le 6, 3) := by decide +kernel
theorem dX9_sheet_28 : decode cX9_sheet 28 = .ok (.bipush (-2), 2) := by decide +kernel
theorem dX9_sheet_30 : decode cX9_sheet 30 = .ok (.ireturn, 1) := by decide +kernel
theorem dX9_sheet_31 : decode cX9_sheet 31 = .ok (.iload_n 2, 1) := by decide +kernel
theorem dX9_sheet_32 : decode cX9_sheet 32 = .ok (.ifCond .lt 10, 3) := by decide +kernel
theorem dX9_sheet_35 : decode cX9_sheet 35 = .ok (.iload_n 3, 1) := by decide +kernel
theorem dX9_sheet_36 : decode cX9_sheet 36 = .ok (.ifCond .ge 6, 3) := by decide +kernel
theorem dX9_sheet_39 : decode cX9_sheet 39 = .ok (.bipush (-14), 2) := by decide +kernel
theorem dX9_sheet_41 : decode cX9_sheet 41 = .ok (.ireturn, 1) := by decide +kernel
theorem dX9_sheet_42 : decode cX9_sheet 42 = .ok (.aload_n 0, 1) := by decide +kernel
theorem dX9_sheet_43 : decode cX9_sheet 43 = .ok (.getfield 140, 3) := by decide +kernel
theorem dX9_sheet_46 : decode cX9_sheet 46 = .ok (.iload_n 1, 1) := by decide +kernel
theorem dX9_sheet_47 : decode cX9_sheet 47 = .ok (.iload_n 2, 1) := by decide +kernel
theorem dX9_sheet_48 : decode cX9_sheet 48 = .ok (.iastore, 1) := by decide +kernel
theorem dX9_sheet_49 : decode cX9_sheet 49 = .ok (.aload_n 0, 1) := by decide +kernel
theorem dX9_sheet_50 : decode cX9_sheet 50 = .ok (.getfield 143, 3) := by decide +kernel
theorem dX9_sheet_53 : decode cX9_sheet 53 = .ok (.iload_n 1, 1) := by decide +kernel
theorem dX9_sheet_54 : decode cX9_sheet 54 = .ok (.iload_n 2, 1) := by decide +kernel
theorem dX9_sheet_55 : decode cX9_sheet 55 = .ok (.ifCond .ge 7, 3) := by decide +kernel
theorem dX9_sheet_58 : decode cX9_sheet 58 = .ok (.iconst 0, 1) := by decide +kernel
theorem dX9_sheet_59 : decode cX9_sheet 59 = .ok (.goto 4, 3) := by decide +kernel
theorem dX9_sheet_62 : decode cX9_sheet 62 = .ok (.iload_n 3, 1) := by decide +kernel
theorem dX9_sheet_63 : decode cX9_sheet 63 = .ok (.iastore, 1) := by decide +kernel
theorem dX9_sheet_64 : decode cX9_sheet 64 = .ok (.iconst 0, 1) := by decide +kernel
theorem dX9_sheet_65 : decode cX9_sheet 65 = .ok (.istore 4, 2) := by decide +kernel
theorem dX9_sheet_67 : decode cX9_sheet 67 = .ok (.iload 4, 2) := by decide +kernel
theorem dX9_sheet_69 : decode cX9_sheet 69 = .ok (.bipush 40, 2) := by decide +kernel
theorem dX9_sheet_71 : decode cX9_sheet 71 = .ok (.if_icmp .ge 22, 3) := by decide +kernel
theorem dX9_sheet_74 : decode cX9_sheet 74 = .ok (.aload_n 0, 1) := by decide +kernel
theorem dX9_sheet_75 : decode cX9_sheet 75 = .ok (.getfield 146, 3) := by decide +kernel
theorem dX9_sheet_78 : decode cX9_sheet 78 = .ok (.bipush 40, 2) := by decide +kernel
theorem dX9_sheet_80 : decode cX9_sheet 80 = .ok (.iload_n 1, 1) := by decide +kernel
theorem dX9_sheet_81 : decode cX9_sheet 81 = .ok (.imul, 1) := by decide +kernel
theorem dX9_sheet_82 : decode cX9_sheet 82 = .ok (.iload 4, 2) := by decide +kernel
theorem dX9_sheet_84 : decode cX9_sheet 84 = .ok (.iadd, 1) := by decide +kernel
theorem dX9_sheet_85 : decode cX9_sheet 85 = .ok (.iconst 0, 1) := by decide +kernel
theorem dX9_sheet_86 : decode cX9_sheet 86 = .ok (.iastore, 1) := by decide +kernel
theorem dX9_sheet_87 : decode cX9_sheet 87 = .ok (.iinc 4 1, 3) := by decide +kernel
theorem dX9_sheet_90 : decode cX9_sheet 90 = .ok (.goto (-23), 3) := by decide +kernel
theorem dX9_sheet_93 : decode cX9_sheet 93 = .ok (.iconst 1, 1) := by decide +kernel
theorem dX9_sheet_94 : decode cX9_sheet 94 = .ok (.ireturn, 1) := by decide +kernel
theorem dX9_cell_0 : decode cX9_cell 0 = .ok (.aload_n 0, 1) := by decide +kernel
theorem dX9_cell_1 : decode cX9_cell 1 = .ok (.iload_n 1, 1) := by decide +kernel
theorem dX9_cell_2 : decode cX9_cell 2 = .ok (.invokevirtual 413, 3) := by decide +kernel
theorem dX9_cell_5 : decode cX9_cell 5 = .ok (.ifCond .ne 6, 3) := by decide +kernel
theorem dX9_cell_8 : decode cX9_cell 8 = .ok (.bipush (-2), 2) := by decide +kernel
theorem dX9_cell_10 : decode cX9_cell 10 = .ok (.ireturn, 1) := by decide +kernel
theorem dX9_cell_11 : decode cX9_cell 11 = .ok (.aload_n 0, 1) := by decide +kernel
theorem dX9_cell_12 : decode cX9_cell 12 = .ok (.getfield 140, 3) := by decide +kernel
theorem dX9_cell_15 : decode cX9_cell 15 = .ok (.iload_n 1, 1) := by decide +kernel
theorem dX9_cell_16 : decode cX9_cell 16 = .ok (.iaload, 1) := by decide +kernel
theorem dX9_cell_17 : decode cX9_cell 17 = .ok (.ifCond .ge 6, 3) := by decide +kernel
theorem dX9_cell_20 : decode cX9_cell 20 = .ok (.bipush (-11), 2) := by decide +kernel
theorem dX9_cell_22 : decode cX9_cell 22 = .ok (.ireturn, 1) := by decide +kernel
theorem dX9_cell_23 : decode cX9_cell 23 = .ok (.aload_n 0, 1) := by decide +kernel
theorem dX9_cell_24 : decode cX9_cell 24 = .ok (.iload_n 2, 1) := by decide +kernel
theorem dX9_cell_25 : decode cX9_cell 25 = .ok (.iconst 0, 1) := by decide +kernel
theorem dX9_cell_26 : decode cX9_cell 26 = .ok (.aload_n 0, 1) := by decide +kernel
theorem dX9_cell_27 : decode cX9_cell 27 = .ok (.getfield 143, 3) := by decide +kernel
theorem dX9_cell_30 : decode cX9_cell 30 = .ok (.iload_n 1, 1) := by decide +kernel
theorem dX9_cell_31 : decode cX9_cell 31 = .ok (.iaload, 1) := by decide +kernel
theorem dX9_cell_32 : decode cX9_cell 32 = .ok (.iconst 1, 1) := by decide +kernel
theorem dX9_cell_33 : decode cX9_cell 33 = .ok (.isub, 1) := by decide +kernel
theorem dX9_cell_34 : decode cX9_cell 34 = .ok (.invokevirtual 155, 3) := by decide +kernel
theorem dX9_cell_37 : decode cX9_cell 37 = .ok (.ifCond .ne 6, 3) := by decide +kernel
theorem dX9_cell_40 : decode cX9_cell 40 = .ok (.bipush (-12), 2) := by decide +kernel
theorem dX9_cell_42 : decode cX9_cell 42 = .ok (.ireturn, 1) := by decide +kernel
theorem dX9_cell_43 : decode cX9_cell 43 = .ok (.aload_n 0, 1) := by decide +kernel
theorem dX9_cell_44 : decode cX9_cell 44 = .ok (.getfield 146, 3) := by decide +kernel
theorem dX9_cell_47 : decode cX9_cell 47 = .ok (.bipush 40, 2) := by decide +kernel
theorem dX9_cell_49 : decode cX9_cell 49 = .ok (.iload_n 1, 1) := by decide +kernel
theorem dX9_cell_50 : decode cX9_cell 50 = .ok (.imul, 1) := by decide +kernel
theorem dX9_cell_51 : decode cX9_cell 51 = .ok (.iload_n 2, 1) := by decide +kernel
theorem dX9_cell_52 : decode cX9_cell 52 = .ok (.iadd, 1) := by decide +kernel
theorem dX9_cell_53 : decode cX9_cell 53 = .ok (.aload_n 0, 1) := by decide +kernel
theorem dX9_cell_54 : decode cX9_cell 54 = .ok (.getfield 140, 3) := by decide +kernel
theorem dX9_cell_57 : decode cX9_cell 57 = .ok (.iload_n 1, 1) := by decide +kernel
theorem dX9_cell_58 : decode cX9_cell 58 = .ok (.iaload, 1) := by decide +kernel
theorem dX9_cell_59 : decode cX9_cell 59 = .ok (.ifCond .ne 8, 3) := by decide +kernel
theorem dX9_cell_62 : decode cX9_cell 62 = .ok (.iload_n 3, 1) := by decide +kernel
theorem dX9_cell_63 : decode cX9_cell 63 = .ok (.i2b, 1) := by decide +kernel
theorem dX9_cell_64 : decode cX9_cell 64 = .ok (.goto 19, 3) := by decide +kernel
theorem dX9_cell_67 : decode cX9_cell 67 = .ok (.aload_n 0, 1) := by decide +kernel
theorem dX9_cell_68 : decode cX9_cell 68 = .ok (.getfield 140, 3) := by decide +kernel
theorem dX9_cell_71 : decode cX9_cell 71 = .ok (.iload_n 1, 1) := by decide +kernel
theorem dX9_cell_72 : decode cX9_cell 72 = .ok (.iaload, 1) := by decide +kernel
theorem dX9_cell_73 : decode cX9_cell 73 = .ok (.iconst 1, 1) := by decide +kernel
theorem dX9_cell_74 : decode cX9_cell 74 = .ok (.if_icmp .ne 8, 3) := by decide +kernel
theorem dX9_cell_77 : decode cX9_cell 77 = .ok (.iload_n 3, 1) := by decide +kernel
theorem dX9_cell_78 : decode cX9_cell 78 = .ok (.i2s, 1) := by decide +kernel
theorem dX9_cell_79 : decode cX9_cell 79 = .ok (.goto 4, 3) := by decide +kernel
theorem dX9_cell_82 : decode cX9_cell 82 = .ok (.iload_n 3, 1) := by decide +kernel
theorem dX9_cell_83 : decode cX9_cell 83 = .ok (.iastore, 1) := by decide +kernel
theorem dX9_cell_84 : decode cX9_cell 84 = .ok (.iconst 1, 1) := by decide +kernel
theorem dX9_cell_85 : decode cX9_cell 85 = .ok (.ireturn, 1) := by decide +kernel
theorem dX9_ways_0 : decode cX9_ways 0 = .ok (.aload_n 0, 1) := by decide +kernel
theorem dX9_ways_1 : decode cX9_ways 1 = .ok (.iload_n 1, 1) := by decide +kernel
theorem dX9_ways_2 : decode cX9_ways 2 = .ok (.invokevirtual 413, 3) := by decide +kernel
theorem dX9_ways_5 : decode cX9_ways 5 = .ok (.ifCond .eq 25, 3) := by decide +kernel
theorem dX9_ways_8 : decode cX9_ways 8 = .ok (.aload_n 0, 1) := by decide +kernel
theorem dX9_ways_9 : decode cX9_ways 9 = .ok (.iload_n 2, 1) := by decide +kernel
theorem dX9_ways_10 : decode cX9_ways 10 = .ok (.iconst 0, 1) := by decide +kernel
theorem dX9_ways_11 : decode cX9_ways 11 = .ok (.iconst 2, 1) := by decide +kernel
theorem dX9_ways_12 : decode cX9_ways 12 = .ok (.invokevirtual 155, 3) := by decide +kernel
theorem dX9_ways_15 : decode cX9_ways 15 = .ok (.ifCond .eq 15, 3) := by decide +kernel
theorem dX9_ways_18 : decode cX9_ways 18 = .ok (.aload_n 0, 1) := by decide +kernel
theorem dX9_ways_19 : decode cX9_ways 19 = .ok (.iload 4, 2) := by decide +kernel
theorem dX9_ways_21 : decode cX9_ways 21 = .ok (.iconst 0, 1) := by decide +kernel
theorem dX9_ways_22 : decode cX9_ways 22 = .ok (.bipush 13, 2) := by decide +kernel
theorem dX9_ways_24 : decode cX9_ways 24 = .ok (.invokevirtual 155, 3) := by decide +kernel
theorem dX9_ways_27 : decode cX9_ways 27 = .ok (.ifCond .ne 6, 3) := by decide +kernel
theorem dX9_ways_30 : decode cX9_ways 30 = .ok (.bipush (-2), 2) := by decide +kernel
theorem dX9_ways_32 : decode cX9_ways 32 = .ok (.ireturn, 1) := by decide +kernel
theorem dX9_ways_33 : decode cX9_ways 33 = .ok (.aload_n 0, 1) := by decide +kernel
theorem dX9_ways_34 : decode cX9_ways 34 = .ok (.getfield 140, 3) := by decide +kernel
theorem dX9_ways_37 : decode cX9_ways 37 = .ok (.iload_n 1, 1) := by decide +kernel
theorem dX9_ways_38 : decode cX9_ways 38 = .ok (.iaload, 1) := by decide +kernel
theorem dX9_ways_39 : decode cX9_ways 39 = .ok (.ifCond .lt 16, 3) := by decide +kernel
theorem dX9_ways_42 : decode cX9_ways 42 = .ok (.aload_n 0, 1) := by decide +kernel
theorem dX9_ways_43 : decode cX9_ways 43 = .ok (.getfield 140, 3) := by decide +kernel
theorem dX9_ways_46 : decode cX9_ways 46 = .ok (.iload_n 1, 1) := by decide +kernel
theorem dX9_ways_47 : decode cX9_ways 47 = .ok (.iaload, 1) := by decide +kernel
theorem dX9_ways_48 : decode cX9_ways 48 = .ok (.iload_n 2, 1) := by decide +kernel
theorem dX9_ways_49 : decode cX9_ways 49 = .ok (.if_icmp .eq 6, 3) := by decide +kernel
theorem dX9_ways_52 : decode cX9_ways 52 = .ok (.bipush (-13), 2) := by decide +kernel
theorem dX9_ways_54 : decode cX9_ways 54 = .ok (.ireturn, 1) := by decide +kernel
theorem dX9_ways_55 : decode cX9_ways 55 = .ok (.aload_n 0, 1) := by decide +kernel
theorem dX9_ways_56 : decode cX9_ways 56 = .ok (.getfield 140, 3) := by decide +kernel
theorem dX9_ways_59 : decode cX9_ways 59 = .ok (.iload_n 1, 1) := by decide +kernel
theorem dX9_ways_60 : decode cX9_ways 60 = .ok (.iaload, 1) := by decide +kernel
theorem dX9_ways_61 : decode cX9_ways 61 = .ok (.ifCond .ge 6, 3) := by decide +kernel
theorem dX9_ways_64 : decode cX9_ways 64 = .ok (.bipush (-11), 2) := by decide +kernel
theorem dX9_ways_66 : decode cX9_ways 66 = .ok (.ireturn, 1) := by decide +kernel
theorem dX9_ways_67 : decode cX9_ways 67 = .ok (.iconst 0, 1) := by decide +kernel
theorem dX9_ways_68 : decode cX9_ways 68 = .ok (.istore 5, 2) := by decide +kernel
theorem dX9_ways_70 : decode cX9_ways 70 = .ok (.iconst 0, 1) := by decide +kernel
theorem dX9_ways_71 : decode cX9_ways 71 = .ok (.istore 6, 2) := by decide +kernel
theorem dX9_ways_73 : decode cX9_ways 73 = .ok (.iload 6, 2) := by decide +kernel
theorem dX9_ways_75 : decode cX9_ways 75 = .ok (.iload 4, 2) := by decide +kernel
theorem dX9_ways_77 : decode cX9_ways 77 = .ok (.if_icmp .ge 88, 3) := by decide +kernel
theorem dX9_ways_80 : decode cX9_ways 80 = .ok (.iload_n 3, 1) := by decide +kernel
theorem dX9_ways_81 : decode cX9_ways 81 = .ok (.ifCond .lt 20, 3) := by decide +kernel
theorem dX9_ways_84 : decode cX9_ways 84 = .ok (.iload_n 3, 1) := by decide +kernel
theorem dX9_ways_85 : decode cX9_ways 85 = .ok (.aload_n 0, 1) := by decide +kernel
theorem dX9_ways_86 : decode cX9_ways 86 = .ok (.getfield 143, 3) := by decide +kernel
theorem dX9_ways_89 : decode cX9_ways 89 = .ok (.iload_n 1, 1) := by decide +kernel
theorem dX9_ways_90 : decode cX9_ways 90 = .ok (.iaload, 1) := by decide +kernel
theorem dX9_ways_91 : decode cX9_ways 91 = .ok (.iconst 3, 1) := by decide +kernel
theorem dX9_ways_92 : decode cX9_ways 92 = .ok (.iload 6, 2) := by decide +kernel
theorem dX9_ways_94 : decode cX9_ways 94 = .ok (.imul, 1) := by decide +kernel
theorem dX9_ways_95 : decode cX9_ways 95 = .ok (.isub, 1) := by decide +kernel
theorem dX9_ways_96 : decode cX9_ways 96 = .ok (.iconst 3, 1) := by decide +kernel
theorem dX9_ways_97 : decode cX9_ways 97 = .ok (.isub, 1) := by decide +kernel
theorem dX9_ways_98 : decode cX9_ways 98 = .ok (.if_icmp .le 6, 3) := by decide +kernel
theorem dX9_ways_101 : decode cX9_ways 101 = .ok (.bipush (-12), 2) := by decide +kernel
theorem dX9_ways_103 : decode cX9_ways 103 = .ok (.ireturn, 1) := by decide +kernel
theorem dX9_ways_104 : decode cX9_ways 104 = .ok (.bipush 40, 2) := by decide +kernel
theorem dX9_ways_106 : decode cX9_ways 106 = .ok (.iload_n 1, 1) := by decide +kernel
theorem dX9_ways_107 : decode cX9_ways 107 = .ok (.imul, 1) := by decide +kernel
theorem dX9_ways_108 : decode cX9_ways 108 = .ok (.iload_n 3, 1) := by decide +kernel
theorem dX9_ways_109 : decode cX9_ways 109 = .ok (.iadd, 1) := by decide +kernel
theorem dX9_ways_110 : decode cX9_ways 110 = .ok (.iconst 3, 1) := by decide +kernel
theorem dX9_ways_111 : decode cX9_ways 111 = .ok (.iload 6, 2) := by decide +kernel
theorem dX9_ways_113 : decode cX9_ways 113 = .ok (.imul, 1) := by decide +kernel
theorem dX9_ways_114 : decode cX9_ways 114 = .ok (.iadd, 1) := by decide +kernel
theorem dX9_ways_115 : decode cX9_ways 115 = .ok (.istore 7, 2) := by decide +kernel
theorem dX9_ways_117 : decode cX9_ways 117 = .ok (.iload 5, 2) := by decide +kernel
theorem dX9_ways_119 : decode cX9_ways 119 = .ok (.aload_n 0, 1) := by decide +kernel
theorem dX9_ways_120 : decode cX9_ways 120 = .ok (.aload_n 0, 1) := by decide +kernel
theorem dX9_ways_121 : decode cX9_ways 121 = .ok (.getfield 146, 3) := by decide +kernel
theorem dX9_ways_124 : decode cX9_ways 124 = .ok (.iload 7, 2) := by decide +kernel
theorem dX9_ways_126 : decode cX9_ways 126 = .ok (.iaload, 1) := by decide +kernel
theorem dX9_ways_127 : decode cX9_ways 127 = .ok (.aload_n 0, 1) := by decide +kernel
theorem dX9_ways_128 : decode cX9_ways 128 = .ok (.getfield 146, 3) := by decide +kernel
theorem dX9_ways_131 : decode cX9_ways 131 = .ok (.iload 7, 2) := by decide +kernel
theorem dX9_ways_133 : decode cX9_ways 133 = .ok (.iconst 1, 1) := by decide +kernel
theorem dX9_ways_134 : decode cX9_ways 134 = .ok (.iadd, 1) := by decide +kernel
theorem dX9_ways_135 : decode cX9_ways 135 = .ok (.iaload, 1) := by decide +kernel
theorem dX9_ways_136 : decode cX9_ways 136 = .ok (.aload_n 0, 1) := by decide +kernel
theorem dX9_ways_137 : decode cX9_ways 137 = .ok (.getfield 146, 3) := by decide +kernel
theorem dX9_ways_140 : decode cX9_ways 140 = .ok (.iload 7, 2) := by decide +kernel
theorem dX9_ways_142 : decode cX9_ways 142 = .ok (.iconst 2, 1) := by decide +kernel
theorem dX9_ways_143 : decode cX9_ways 143 = .ok (.iadd, 1) := by decide +kernel
theorem dX9_ways_144 : decode cX9_ways 144 = .ok (.iaload, 1) := by decide +kernel
theorem dX9_ways_145 : decode cX9_ways 145 = .ok (.invokevirtual 416, 3) := by decide +kernel
theorem dX9_ways_148 : decode cX9_ways 148 = .ok (.ifCond .lt 7, 3) := by decide +kernel
theorem dX9_ways_151 : decode cX9_ways 151 = .ok (.iconst 1, 1) := by decide +kernel
theorem dX9_ways_152 : decode cX9_ways 152 = .ok (.goto 4, 3) := by decide +kernel
theorem dX9_ways_155 : decode cX9_ways 155 = .ok (.iconst 0, 1) := by decide +kernel
theorem dX9_ways_156 : decode cX9_ways 156 = .ok (.iadd, 1) := by decide +kernel
theorem dX9_ways_157 : decode cX9_ways 157 = .ok (.istore 5, 2) := by decide +kernel
theorem dX9_ways_159 : decode cX9_ways 159 = .ok (.iinc 6 1, 3) := by decide +kernel
theorem dX9_ways_162 : decode cX9_ways 162 = .ok (.goto (-89), 3) := by decide +kernel
theorem dX9_ways_165 : decode cX9_ways 165 = .ok (.iload 5, 2) := by decide +kernel
theorem dX9_ways_167 : decode cX9_ways 167 = .ok (.ireturn, 1) := by decide +kernel
theorem dX9_isUnder_0 : decode cX9_isUnder 0 = .ok (.iload_n 2, 1) := by decide +kernel
theorem dX9_isUnder_1 : decode cX9_isUnder 1 = .ok (.ifCond .eq 31, 3) := by decide +kernel
theorem dX9_isUnder_4 : decode cX9_isUnder 4 = .ok (.iload_n 1, 1) := by decide +kernel
theorem dX9_isUnder_5 : decode cX9_isUnder 5 = .ok (.iload_n 2, 1) := by decide +kernel
theorem dX9_isUnder_6 : decode cX9_isUnder 6 = .ok (.if_icmp .eq 26, 3) := by decide +kernel
theorem dX9_isUnder_9 : decode cX9_isUnder 9 = .ok (.iload_n 2, 1) := by decide +kernel
theorem dX9_isUnder_10 : decode cX9_isUnder 10 = .ok (.iconst 1, 1) := by decide +kernel
theorem dX9_isUnder_11 : decode cX9_isUnder 11 = .ok (.if_icmp .ne 8, 3) := by decide +kernel
theorem dX9_isUnder_14 : decode cX9_isUnder 14 = .ok (.iload_n 1, 1) := by decide +kernel
theorem dX9_isUnder_15 : decode cX9_isUnder 15 = .ok (.iconst 4, 1) := by decide +kernel
theorem dX9_isUnder_16 : decode cX9_isUnder 16 = .ok (.if_icmp .eq 16, 3) := by decide +kernel
theorem dX9_isUnder_19 : decode cX9_isUnder 19 = .ok (.iload_n 2, 1) := by decide +kernel
theorem dX9_isUnder_20 : decode cX9_isUnder 20 = .ok (.iconst 2, 1) := by decide +kernel
theorem dX9_isUnder_21 : decode cX9_isUnder 21 = .ok (.if_icmp .ne 15, 3) := by decide +kernel
theorem dX9_isUnder_24 : decode cX9_isUnder 24 = .ok (.aload_n 0, 1) := by decide +kernel
theorem dX9_isUnder_25 : decode cX9_isUnder 25 = .ok (.iload_n 1, 1) := by decide +kernel
theorem dX9_isUnder_26 : decode cX9_isUnder 26 = .ok (.invokevirtual 159, 3) := by decide +kernel
theorem dX9_isUnder_29 : decode cX9_isUnder 29 = .ok (.ifCond .eq 7, 3) := by decide +kernel
theorem dX9_isUnder_32 : decode cX9_isUnder 32 = .ok (.iconst 1, 1) := by decide +kernel
theorem dX9_isUnder_33 : decode cX9_isUnder 33 = .ok (.goto 4, 3) := by decide +kernel
theorem dX9_isUnder_36 : decode cX9_isUnder 36 = .ok (.iconst 0, 1) := by decide +kernel
theorem dX9_isUnder_37 : decode cX9_isUnder 37 = .ok (.ireturn, 1) := by decide +kernel
theorem dX9_taken_0 : decode cX9_taken 0 = .ok (.aload_n 0, 1) := by decide +kernel
theorem dX9_taken_1 : decode cX9_taken 1 = .ok (.iload_n 2, 1) := by decide +kernel
theorem dX9_taken_2 : decode cX9_taken 2 = .ok (.iconst 0, 1) := by decide +kernel
theorem dX9_taken_3 : decode cX9_taken 3 = .ok (.iconst 5, 1) := by decide +kernel
theorem dX9_taken_4 : decode cX9_taken 4 = .ok (.invokevirtual 155, 3) := by decide +kernel
theorem dX9_taken_7 : decode cX9_taken 7 = .ok (.ifCond .ne 6, 3) := by decide +kernel
theorem dX9_taken_10 : decode cX9_taken 10 = .ok (.bipush (-2), 2) := by decide +kernel
theorem dX9_taken_12 : decode cX9_taken 12 = .ok (.ireturn, 1) := by decide +kernel
theorem dX9_taken_13 : decode cX9_taken 13 = .ok (.aload_n 0, 1) := by decide +kernel
theorem dX9_taken_14 : decode cX9_taken 14 = .ok (.iload_n 1, 1) := by decide +kernel
theorem dX9_taken_15 : decode cX9_taken 15 = .ok (.iconst 0, 1) := by decide +kernel
theorem dX9_taken_16 : decode cX9_taken 16 = .ok (.aload_n 0, 1) := by decide +kernel
theorem dX9_taken_17 : decode cX9_taken 17 = .ok (.getfield 7, 3) := by decide +kernel
theorem dX9_taken_20 : decode cX9_taken 20 = .ok (.iconst 1, 1) := by decide +kernel
theorem dX9_taken_21 : decode cX9_taken 21 = .ok (.isub, 1) := by decide +kernel
theorem dX9_taken_22 : decode cX9_taken 22 = .ok (.invokevirtual 155, 3) := by decide +kernel
theorem dX9_taken_25 : decode cX9_taken 25 = .ok (.ifCond .ne 6, 3) := by decide +kernel
theorem dX9_taken_28 : decode cX9_taken 28 = .ok (.bipush (-11), 2) := by decide +kernel
theorem dX9_taken_30 : decode cX9_taken 30 = .ok (.ireturn, 1) := by decide +kernel
theorem dX9_taken_31 : decode cX9_taken 31 = .ok (.aload_n 0, 1) := by decide +kernel
theorem dX9_taken_32 : decode cX9_taken 32 = .ok (.aload_n 0, 1) := by decide +kernel
theorem dX9_taken_33 : decode cX9_taken 33 = .ok (.getfield 19, 3) := by decide +kernel
theorem dX9_taken_36 : decode cX9_taken 36 = .ok (.iload_n 1, 1) := by decide +kernel
theorem dX9_taken_37 : decode cX9_taken 37 = .ok (.iaload, 1) := by decide +kernel
theorem dX9_taken_38 : decode cX9_taken 38 = .ok (.iload_n 2, 1) := by decide +kernel
theorem dX9_taken_39 : decode cX9_taken 39 = .ok (.invokevirtual 419, 3) := by decide +kernel
theorem dX9_taken_42 : decode cX9_taken 42 = .ok (.ifCond .eq 12, 3) := by decide +kernel
theorem dX9_taken_45 : decode cX9_taken 45 = .ok (.aload_n 0, 1) := by decide +kernel
theorem dX9_taken_46 : decode cX9_taken 46 = .ok (.getfield 23, 3) := by decide +kernel
theorem dX9_taken_49 : decode cX9_taken 49 = .ok (.iload_n 1, 1) := by decide +kernel
theorem dX9_taken_50 : decode cX9_taken 50 = .ok (.iaload, 1) := by decide +kernel
theorem dX9_taken_51 : decode cX9_taken 51 = .ok (.goto 5, 3) := by decide +kernel
theorem dX9_taken_54 : decode cX9_taken 54 = .ok (.bipush (-13), 2) := by decide +kernel
theorem dX9_taken_56 : decode cX9_taken 56 = .ok (.ireturn, 1) := by decide +kernel
theorem dJ9_floorMod_7cf53_0 : decode cJ9_floorMod_7cf53 0 = .ok (.iload_n 0, 1) := by decide +kernel
theorem dJ9_floorMod_7cf53_1 : decode cJ9_floorMod_7cf53 1 = .ok (.iload_n 1, 1) := by decide +kernel
theorem dJ9_floorMod_7cf53_2 : decode cJ9_floorMod_7cf53 2 = .ok (.irem, 1) := by decide +kernel
theorem dJ9_floorMod_7cf53_3 : decode cJ9_floorMod_7cf53 3 = .ok (.istore_n 2, 1) := by decide +kernel
theorem dJ9_floorMod_7cf53_4 : decode cJ9_floorMod_7cf53 4 = .ok (.iload_n 0, 1) := by decide +kernel
theorem dJ9_floorMod_7cf53_5 : decode cJ9_floorMod_7cf53 5 = .ok (.iload_n 1, 1) := by decide +kernel
theorem dJ9_floorMod_7cf53_6 : decode cJ9_floorMod_7cf53 6 = .ok (.ixor, 1) := by decide +kernel
theorem dJ9_floorMod_7cf53_7 : decode cJ9_floorMod_7cf53 7 = .ok (.ifCond .ge 11, 3) := by decide +kernel
theorem dJ9_floorMod_7cf53_10 : decode cJ9_floorMod_7cf53 10 = .ok (.iload_n 2, 1) := by decide +kernel
theorem dJ9_floorMod_7cf53_11 : decode cJ9_floorMod_7cf53 11 = .ok (.ifCond .eq 7, 3) := by decide +kernel
theorem dJ9_floorMod_7cf53_14 : decode cJ9_floorMod_7cf53 14 = .ok (.iload_n 2, 1) := by decide +kernel
theorem dJ9_floorMod_7cf53_15 : decode cJ9_floorMod_7cf53 15 = .ok (.iload_n 1, 1) := by decide +kernel
theorem dJ9_floorMod_7cf53_16 : decode cJ9_floorMod_7cf53 16 = .ok (.iadd, 1) := by decide +kernel
theorem dJ9_floorMod_7cf53_17 : decode cJ9_floorMod_7cf53 17 = .ok (.ireturn, 1) := by decide +kernel
theorem dJ9_floorMod_7cf53_18 : decode cJ9_floorMod_7cf53 18 = .ok (.iload_n 2, 1) := by decide +kernel
theorem dJ9_floorMod_7cf53_19 : decode cJ9_floorMod_7cf53 19 = .ok (.ireturn, 1) := by decide +kernel
theorem dJ9_abs_0f7a4_0 : decode cJ9_abs_0f7a4 0 = .ok (.iload_n 0, 1) := by decide +kernel
theorem dJ9_abs_0f7a4_1 : decode cJ9_abs_0f7a4 1 = .ok (.ifCond .ge 8, 3) := by decide +kernel
theorem dJ9_abs_0f7a4_4 : decode cJ9_abs_0f7a4 4 = .ok (.iload_n 0, 1) := by decide +kernel
theorem dJ9_abs_0f7a4_5 : decode cJ9_abs_0f7a4 5 = .ok (.ineg, 1) := by decide +kernel
theorem dJ9_abs_0f7a4_6 : decode cJ9_abs_0f7a4 6 = .ok (.goto 4, 3) := by decide +kernel
theorem dJ9_abs_0f7a4_9 : decode cJ9_abs_0f7a4 9 = .ok (.iload_n 0, 1) := by decide +kernel
theorem dJ9_abs_0f7a4_10 : decode cJ9_abs_0f7a4 10 = .ok (.ireturn, 1) := by decide +kernel
theorem dJ9_max_7cf53_0 : decode cJ9_max_7cf53 0 = .ok (.iload_n 0, 1) := by decide +kernel
theorem dJ9_max_7cf53_1 : decode cJ9_max_7cf53 1 = .ok (.iload_n 1, 1) := by decide +kernel
theorem dJ9_max_7cf53_2 : decode cJ9_max_7cf53 2 = .ok (.if_icmp .lt 7, 3) := by decide +kernel
theorem dJ9_max_7cf53_5 : decode cJ9_max_7cf53 5 = .ok (.iload_n 0, 1) := by decide +kernel
theorem dJ9_max_7cf53_6 : decode cJ9_max_7cf53 6 = .ok (.goto 4, 3) := by decide +kernel
theorem dJ9_max_7cf53_9 : decode cJ9_max_7cf53 9 = .ok (.iload_n 1, 1) := by decide +kernel
theorem dJ9_max_7cf53_10 : decode cJ9_max_7cf53 10 = .ok (.ireturn, 1) := by decide +kernel
theorem dJ9_min_7cf53_0 : decode cJ9_min_7cf53 0 = .ok (.iload_n 0, 1) := by decide +kernel
theorem dJ9_min_7cf53_1 : decode cJ9_min_7cf53 1 = .ok (.iload_n 1, 1) := by decide +kernel
theorem dJ9_min_7cf53_2 : decode cJ9_min_7cf53 2 = .ok (.if_icmp .gt 7, 3) := by decide +kernel
theorem dJ9_min_7cf53_5 : decode cJ9_min_7cf53 5 = .ok (.iload_n 0, 1) := by decide +kernel
theorem dJ9_min_7cf53_6 : decode cJ9_min_7cf53 6 = .ok (.goto 4, 3) := by decide +kernel
theorem dJ9_min_7cf53_9 : decode cJ9_min_7cf53 9 = .ok (.iload_n 1, 1) := by decide +kernel
theorem dJ9_min_7cf53_10 : decode cJ9_min_7cf53 10 = .ok (.ireturn, 1) := by decide +kernel
theorem dJ0_length_8abf5_0 : decode cJ0_length_8abf5 0 = .ok (.aload_n 0, 1) := by decide +kernel
theorem dJ0_length_8abf5_1 : decode cJ0_length_8abf5 1 = .ok (.getfield 9, 3) := by decide +kernel
theorem dJ0_length_8abf5_4 : decode cJ0_length_8abf5 4 = .ok (.arraylength, 1) := by decide +kernel
theorem dJ0_length_8abf5_5 : decode cJ0_length_8abf5 5 = .ok (.aload_n 0, 1) := by decide +kernel
theorem dJ0_length_8abf5_6 : decode cJ0_length_8abf5 6 = .ok (.invokevirtual 335, 3) := by decide +kernel
theorem dJ0_length_8abf5_9 : decode cJ0_length_8abf5 9 = .ok (.ishr, 1) := by decide +kernel
theorem dJ0_length_8abf5_10 : decode cJ0_length_8abf5 10 = .ok (.ireturn, 1) := by decide +kernel
theorem dJ0_charAt_5068e_0 : decode cJ0_charAt_5068e 0 = .ok (.aload_n 0, 1) := by decide +kernel
theorem dJ0_charAt_5068e_1 : decode cJ0_charAt_5068e 1 = .ok (.invokevirtual 492, 3) := by decide +kernel
theorem dJ0_charAt_5068e_4 : decode cJ0_charAt_5068e 4 = .ok (.ifCond .eq 12, 3) := by decide +kernel
theorem dJ0_charAt_5068e_7 : decode cJ0_charAt_5068e 7 = .ok (.aload_n 0, 1) := by decide +kernel
theorem dJ0_charAt_5068e_8 : decode cJ0_charAt_5068e 8 = .ok (.getfield 9, 3) := by decide +kernel
theorem dJ0_charAt_5068e_11 : decode cJ0_charAt_5068e 11 = .ok (.iload_n 1, 1) := by decide +kernel
theorem dJ0_charAt_5068e_12 : decode cJ0_charAt_5068e 12 = .ok (.invokestatic 495, 3) := by decide +kernel
theorem dJ0_charAt_5068e_15 : decode cJ0_charAt_5068e 15 = .ok (.ireturn, 1) := by decide +kernel
theorem dJ0_charAt_5068e_16 : decode cJ0_charAt_5068e 16 = .ok (.aload_n 0, 1) := by decide +kernel
theorem dJ0_charAt_5068e_17 : decode cJ0_charAt_5068e 17 = .ok (.getfield 9, 3) := by decide +kernel
theorem dJ0_charAt_5068e_20 : decode cJ0_charAt_5068e 20 = .ok (.iload_n 1, 1) := by decide +kernel
theorem dJ0_charAt_5068e_21 : decode cJ0_charAt_5068e 21 = .ok (.invokestatic 498, 3) := by decide +kernel
theorem dJ0_charAt_5068e_24 : decode cJ0_charAt_5068e 24 = .ok (.ireturn, 1) := by decide +kernel
theorem dJ0_coder_7d493_0 : decode cJ0_coder_7d493 0 = .ok (.getstatic 38, 3) := by decide +kernel
theorem dJ0_coder_7d493_3 : decode cJ0_coder_7d493 3 = .ok (.ifCond .eq 10, 3) := by decide +kernel
theorem dJ0_coder_7d493_6 : decode cJ0_coder_7d493 6 = .ok (.aload_n 0, 1) := by decide +kernel
theorem dJ0_coder_7d493_7 : decode cJ0_coder_7d493 7 = .ok (.getfield 15, 3) := by decide +kernel
theorem dJ0_coder_7d493_10 : decode cJ0_coder_7d493 10 = .ok (.goto 4, 3) := by decide +kernel
theorem dJ0_coder_7d493_13 : decode cJ0_coder_7d493 13 = .ok (.iconst 1, 1) := by decide +kernel
theorem dJ0_coder_7d493_14 : decode cJ0_coder_7d493 14 = .ok (.ireturn, 1) := by decide +kernel
theorem dJ0_isLatin1_aae02_0 : decode cJ0_isLatin1_aae02 0 = .ok (.getstatic 38, 3) := by decide +kernel
theorem dJ0_isLatin1_aae02_3 : decode cJ0_isLatin1_aae02 3 = .ok (.ifCond .eq 14, 3) := by decide +kernel
theorem dJ0_isLatin1_aae02_6 : decode cJ0_isLatin1_aae02 6 = .ok (.aload_n 0, 1) := by decide +kernel
theorem dJ0_isLatin1_aae02_7 : decode cJ0_isLatin1_aae02 7 = .ok (.getfield 15, 3) := by decide +kernel
theorem dJ0_isLatin1_aae02_10 : decode cJ0_isLatin1_aae02 10 = .ok (.ifCond .ne 7, 3) := by decide +kernel
theorem dJ0_isLatin1_aae02_13 : decode cJ0_isLatin1_aae02 13 = .ok (.iconst 1, 1) := by decide +kernel
theorem dJ0_isLatin1_aae02_14 : decode cJ0_isLatin1_aae02 14 = .ok (.goto 4, 3) := by decide +kernel
theorem dJ0_isLatin1_aae02_17 : decode cJ0_isLatin1_aae02 17 = .ok (.iconst 0, 1) := by decide +kernel
theorem dJ0_isLatin1_aae02_18 : decode cJ0_isLatin1_aae02 18 = .ok (.ireturn, 1) := by decide +kernel
theorem dJ0_checkIndex_df160_0 : decode cJ0_checkIndex_df160 0 = .ok (.iload_n 0, 1) := by decide +kernel
theorem dJ0_checkIndex_df160_1 : decode cJ0_checkIndex_df160 1 = .ok (.iload_n 1, 1) := by decide +kernel
theorem dJ0_checkIndex_df160_2 : decode cJ0_checkIndex_df160 2 = .ok (.getstatic 1053, 3) := by decide +kernel
theorem dJ0_checkIndex_df160_5 : decode cJ0_checkIndex_df160 5 = .ok (.invokestatic 1059, 3) := by decide +kernel
theorem dJ0_checkIndex_df160_8 : decode cJ0_checkIndex_df160 8 = .ok (.pop, 1) := by decide +kernel
theorem dJ0_checkIndex_df160_9 : decode cJ0_checkIndex_df160 9 = .ok (.return_, 1) := by decide +kernel
theorem dJ1_charAt_3b067_0 : decode cJ1_charAt_3b067 0 = .ok (.iload_n 1, 1) := by decide +kernel
theorem dJ1_charAt_3b067_1 : decode cJ1_charAt_3b067 1 = .ok (.aload_n 0, 1) := by decide +kernel
theorem dJ1_charAt_3b067_2 : decode cJ1_charAt_3b067 2 = .ok (.arraylength, 1) := by decide +kernel
theorem dJ1_charAt_3b067_3 : decode cJ1_charAt_3b067 3 = .ok (.invokestatic 9, 3) := by decide +kernel
theorem dJ1_charAt_3b067_6 : decode cJ1_charAt_3b067 6 = .ok (.aload_n 0, 1) := by decide +kernel
theorem dJ1_charAt_3b067_7 : decode cJ1_charAt_3b067 7 = .ok (.iload_n 1, 1) := by decide +kernel
theorem dJ1_charAt_3b067_8 : decode cJ1_charAt_3b067 8 = .ok (.baload, 1) := by decide +kernel
theorem dJ1_charAt_3b067_9 : decode cJ1_charAt_3b067 9 = .ok (.sipush 255, 3) := by decide +kernel
theorem dJ1_charAt_3b067_12 : decode cJ1_charAt_3b067 12 = .ok (.iand, 1) := by decide +kernel
theorem dJ1_charAt_3b067_13 : decode cJ1_charAt_3b067 13 = .ok (.i2c, 1) := by decide +kernel
theorem dJ1_charAt_3b067_14 : decode cJ1_charAt_3b067 14 = .ok (.ireturn, 1) := by decide +kernel
theorem dJ2_getChar_3b067_0 : decode cJ2_getChar_3b067 0 = .ok (.getstatic 44, 3) := by decide +kernel
theorem dJ2_getChar_3b067_3 : decode cJ2_getChar_3b067 3 = .ok (.ifCond .ne 25, 3) := by decide +kernel
theorem dJ2_getChar_3b067_6 : decode cJ2_getChar_3b067 6 = .ok (.iload_n 1, 1) := by decide +kernel
theorem dJ2_getChar_3b067_7 : decode cJ2_getChar_3b067 7 = .ok (.ifCond .lt 11, 3) := by decide +kernel
theorem dJ2_getChar_3b067_10 : decode cJ2_getChar_3b067 10 = .ok (.iload_n 1, 1) := by decide +kernel
theorem dJ2_getChar_3b067_11 : decode cJ2_getChar_3b067 11 = .ok (.aload_n 0, 1) := by decide +kernel
theorem dJ2_getChar_3b067_12 : decode cJ2_getChar_3b067 12 = .ok (.invokestatic 48, 3) := by decide +kernel
theorem dJ2_getChar_3b067_15 : decode cJ2_getChar_3b067 15 = .ok (.if_icmp .lt 13, 3) := by decide +kernel
theorem dJ2_getChar_3b067_18 : decode cJ2_getChar_3b067 18 = .ok (.new 52, 3) := by decide +kernel
theorem dJ2_getChar_3b067_21 : decode cJ2_getChar_3b067 21 = .ok (.dup, 1) := by decide +kernel
theorem dJ2_getChar_3b067_22 : decode cJ2_getChar_3b067 22 = .ok (.ldc 54, 2) := by decide +kernel
theorem dJ2_getChar_3b067_24 : decode cJ2_getChar_3b067 24 = .ok (.invokespecial 56, 3) := by decide +kernel
theorem dJ2_getChar_3b067_27 : decode cJ2_getChar_3b067 27 = .ok (.athrow, 1) := by decide +kernel
theorem dJ2_getChar_3b067_28 : decode cJ2_getChar_3b067 28 = .ok (.iload_n 1, 1) := by decide +kernel
theorem dJ2_getChar_3b067_29 : decode cJ2_getChar_3b067 29 = .ok (.iconst 1, 1) := by decide +kernel
theorem dJ2_getChar_3b067_30 : decode cJ2_getChar_3b067 30 = .ok (.ishl, 1) := by decide +kernel
theorem dJ2_getChar_3b067_31 : decode cJ2_getChar_3b067 31 = .ok (.istore_n 1, 1) := by decide +kernel
theorem dJ2_getChar_3b067_32 : decode cJ2_getChar_3b067 32 = .ok (.aload_n 0, 1) := by decide +kernel
theorem dJ2_getChar_3b067_33 : decode cJ2_getChar_3b067 33 = .ok (.iload_n 1, 1) := by decide +kernel
theorem dJ2_getChar_3b067_34 : decode cJ2_getChar_3b067 34 = .ok (.iinc 1 1, 3) := by decide +kernel
theorem dJ2_getChar_3b067_37 : decode cJ2_getChar_3b067 37 = .ok (.baload, 1) := by decide +kernel
theorem dJ2_getChar_3b067_38 : decode cJ2_getChar_3b067 38 = .ok (.sipush 255, 3) := by decide +kernel
theorem dJ2_getChar_3b067_41 : decode cJ2_getChar_3b067 41 = .ok (.iand, 1) := by decide +kernel
theorem dJ2_getChar_3b067_42 : decode cJ2_getChar_3b067 42 = .ok (.getstatic 59, 3) := by decide +kernel
theorem dJ2_getChar_3b067_45 : decode cJ2_getChar_3b067 45 = .ok (.ishl, 1) := by decide +kernel
theorem dJ2_getChar_3b067_46 : decode cJ2_getChar_3b067 46 = .ok (.aload_n 0, 1) := by decide +kernel
theorem dJ2_getChar_3b067_47 : decode cJ2_getChar_3b067 47 = .ok (.iload_n 1, 1) := by decide +kernel
theorem dJ2_getChar_3b067_48 : decode cJ2_getChar_3b067 48 = .ok (.baload, 1) := by decide +kernel
theorem dJ2_getChar_3b067_49 : decode cJ2_getChar_3b067 49 = .ok (.sipush 255, 3) := by decide +kernel
theorem dJ2_getChar_3b067_52 : decode cJ2_getChar_3b067 52 = .ok (.iand, 1) := by decide +kernel
theorem dJ2_getChar_3b067_53 : decode cJ2_getChar_3b067 53 = .ok (.getstatic 63, 3) := by decide +kernel
theorem dJ2_getChar_3b067_56 : decode cJ2_getChar_3b067 56 = .ok (.ishl, 1) := by decide +kernel
theorem dJ2_getChar_3b067_57 : decode cJ2_getChar_3b067 57 = .ok (.ior, 1) := by decide +kernel
theorem dJ2_getChar_3b067_58 : decode cJ2_getChar_3b067 58 = .ok (.i2c, 1) := by decide +kernel
theorem dJ2_getChar_3b067_59 : decode cJ2_getChar_3b067 59 = .ok (.ireturn, 1) := by decide +kernel
theorem dJ2_length_9d52b_0 : decode cJ2_length_9d52b 0 = .ok (.aload_n 0, 1) := by decide +kernel
theorem dJ2_length_9d52b_1 : decode cJ2_length_9d52b 1 = .ok (.arraylength, 1) := by decide +kernel
theorem dJ2_length_9d52b_2 : decode cJ2_length_9d52b 2 = .ok (.iconst 1, 1) := by decide +kernel
theorem dJ2_length_9d52b_3 : decode cJ2_length_9d52b 3 = .ok (.ishr, 1) := by decide +kernel
theorem dJ2_length_9d52b_4 : decode cJ2_length_9d52b 4 = .ok (.ireturn, 1) := by decide +kernel
theorem dJ2_charAt_3b067_0 : decode cJ2_charAt_3b067 0 = .ok (.iload_n 1, 1) := by decide +kernel
theorem dJ2_charAt_3b067_1 : decode cJ2_charAt_3b067 1 = .ok (.aload_n 0, 1) := by decide +kernel
theorem dJ2_charAt_3b067_2 : decode cJ2_charAt_3b067 2 = .ok (.invokestatic 67, 3) := by decide +kernel
theorem dJ2_charAt_3b067_5 : decode cJ2_charAt_3b067 5 = .ok (.aload_n 0, 1) := by decide +kernel
theorem dJ2_charAt_3b067_6 : decode cJ2_charAt_3b067 6 = .ok (.iload_n 1, 1) := by decide +kernel
theorem dJ2_charAt_3b067_7 : decode cJ2_charAt_3b067 7 = .ok (.invokestatic 71, 3) := by decide +kernel
theorem dJ2_charAt_3b067_10 : decode cJ2_charAt_3b067 10 = .ok (.ireturn, 1) := by decide +kernel
theorem dJ2_checkIndex_2214a_0 : decode cJ2_checkIndex_2214a 0 = .ok (.iload_n 0, 1) := by decide +kernel
theorem dJ2_checkIndex_2214a_1 : decode cJ2_checkIndex_2214a 1 = .ok (.aload_n 1, 1) := by decide +kernel
theorem dJ2_checkIndex_2214a_2 : decode cJ2_checkIndex_2214a 2 = .ok (.invokestatic 48, 3) := by decide +kernel
theorem dJ2_checkIndex_2214a_5 : decode cJ2_checkIndex_2214a 5 = .ok (.invokestatic 414, 3) := by decide +kernel
theorem dJ2_checkIndex_2214a_8 : decode cJ2_checkIndex_2214a 8 = .ok (.return_, 1) := by decide +kernel
theorem dJ3_checkIndex_8e157_0 : decode cJ3_checkIndex_8e157 0 = .ok (.iload_n 0, 1) := by decide +kernel
theorem dJ3_checkIndex_8e157_1 : decode cJ3_checkIndex_8e157 1 = .ok (.ifCond .lt 8, 3) := by decide +kernel
theorem dJ3_checkIndex_8e157_4 : decode cJ3_checkIndex_8e157 4 = .ok (.iload_n 0, 1) := by decide +kernel
theorem dJ3_checkIndex_8e157_5 : decode cJ3_checkIndex_8e157 5 = .ok (.iload_n 1, 1) := by decide +kernel
theorem dJ3_checkIndex_8e157_6 : decode cJ3_checkIndex_8e157 6 = .ok (.if_icmp .lt 10, 3) := by decide +kernel
theorem dJ3_checkIndex_8e157_9 : decode cJ3_checkIndex_8e157 9 = .ok (.aload_n 2, 1) := by decide +kernel
theorem dJ3_checkIndex_8e157_10 : decode cJ3_checkIndex_8e157 10 = .ok (.iload_n 0, 1) := by decide +kernel
theorem dJ3_checkIndex_8e157_11 : decode cJ3_checkIndex_8e157 11 = .ok (.iload_n 1, 1) := by decide +kernel
theorem dJ3_checkIndex_8e157_12 : decode cJ3_checkIndex_8e157 12 = .ok (.invokestatic 95, 3) := by decide +kernel
theorem dJ3_checkIndex_8e157_15 : decode cJ3_checkIndex_8e157 15 = .ok (.athrow, 1) := by decide +kernel
theorem dJ3_checkIndex_8e157_16 : decode cJ3_checkIndex_8e157 16 = .ok (.iload_n 0, 1) := by decide +kernel
theorem dJ3_checkIndex_8e157_17 : decode cJ3_checkIndex_8e157 17 = .ok (.ireturn, 1) := by decide +kernel
theorem dL_cell_0 : decode cL_cell 0 = .ok (.iload_n 1, 1) := by decide +kernel
theorem dL_cell_1 : decode cL_cell 1 = .ok (.aload_n 0, 1) := by decide +kernel
theorem dL_cell_2 : decode cL_cell 2 = .ok (.arraylength, 1) := by decide +kernel
theorem dL_cell_3 : decode cL_cell 3 = .ok (.if_icmp .ge 9, 3) := by decide +kernel
theorem dL_cell_6 : decode cL_cell 6 = .ok (.aload_n 0, 1) := by decide +kernel
theorem dL_cell_7 : decode cL_cell 7 = .ok (.iload_n 1, 1) := by decide +kernel
theorem dL_cell_8 : decode cL_cell 8 = .ok (.iaload, 1) := by decide +kernel
theorem dL_cell_9 : decode cL_cell 9 = .ok (.goto 4, 3) := by decide +kernel
theorem dL_cell_12 : decode cL_cell 12 = .ok (.iconst 0, 1) := by decide +kernel
theorem dL_cell_13 : decode cL_cell 13 = .ok (.ireturn, 1) := by decide +kernel
theorem dL_law_0 : decode cL_law 0 = .ok (.new 7, 3) := by decide +kernel
theorem dL_law_3 : decode cL_law 3 = .ok (.dup, 1) := by decide +kernel
theorem dL_law_4 : decode cL_law 4 = .ok (.aload_n 0, 1) := by decide +kernel
theorem dL_law_5 : decode cL_law 5 = .ok (.iconst 0, 1) := by decide +kernel
theorem dL_law_6 : decode cL_law 6 = .ok (.invokestatic 9, 3) := by decide +kernel
theorem dL_law_9 : decode cL_law 9 = .ok (.invokespecial 15, 3) := by decide +kernel
theorem dL_law_12 : decode cL_law 12 = .ok (.astore_n 1, 1) := by decide +kernel
theorem dL_law_13 : decode cL_law 13 = .ok (.new 18, 3) := by decide +kernel
theorem dL_law_16 : decode cL_law 16 = .ok (.dup, 1) := by decide +kernel
theorem dL_law_17 : decode cL_law 17 = .ok (.aload_n 0, 1) := by decide +kernel
theorem dL_law_18 : decode cL_law 18 = .ok (.iconst 0, 1) := by decide +kernel
theorem dL_law_19 : decode cL_law 19 = .ok (.invokestatic 9, 3) := by decide +kernel
theorem dL_law_22 : decode cL_law 22 = .ok (.invokespecial 20, 3) := by decide +kernel
theorem dL_law_25 : decode cL_law 25 = .ok (.astore_n 2, 1) := by decide +kernel
theorem dL_law_26 : decode cL_law 26 = .ok (.iconst 1, 1) := by decide +kernel
theorem dL_law_27 : decode cL_law 27 = .ok (.istore_n 3, 1) := by decide +kernel
theorem dL_law_28 : decode cL_law 28 = .ok (.iload_n 3, 1) := by decide +kernel
theorem dL_law_29 : decode cL_law 29 = .ok (.aload_n 0, 1) := by decide +kernel
theorem dL_law_30 : decode cL_law 30 = .ok (.arraylength, 1) := by decide +kernel
theorem dL_law_31 : decode cL_law 31 = .ok (.bipush 6, 2) := by decide +kernel
theorem dL_law_33 : decode cL_law 33 = .ok (.isub, 1) := by decide +kernel
theorem dL_law_34 : decode cL_law 34 = .ok (.if_icmp .gt 1179, 3) := by decide +kernel
theorem dL_law_37 : decode cL_law 37 = .ok (.aload_n 0, 1) := by decide +kernel
theorem dL_law_38 : decode cL_law 38 = .ok (.iload_n 3, 1) := by decide +kernel
theorem dL_law_39 : decode cL_law 39 = .ok (.iaload, 1) := by decide +kernel
theorem dL_law_40 : decode cL_law 40 = .ok (.bipush 31, 2) := by decide +kernel
theorem dL_law_42 : decode cL_law 42 = .ok (.iand, 1) := by decide +kernel
theorem dL_law_43 : decode cL_law 43 = .ok (.tableswitch 1164 0 29 #[133, 176, 189, 222, 255, 288, 351, 414, 477, 500, 533, 546, 589, 602, 635, 678, 721, 764, 787, 810, 823, 846, 909, 922, 945, 969, 992, 1035, 1078, 1131], 133) := by decide +kernel
theorem dL_law_176 : decode cL_law 176 = .ok (.aload_n 1, 1) := by decide +kernel
theorem dL_law_177 : decode cL_law 177 = .ok (.aload_n 0, 1) := by decide +kernel
theorem dL_law_178 : decode cL_law 178 = .ok (.iload_n 3, 1) := by decide +kernel
theorem dL_law_179 : decode cL_law 179 = .ok (.iconst 1, 1) := by decide +kernel
theorem dL_law_180 : decode cL_law 180 = .ok (.iadd, 1) := by decide +kernel
theorem dL_law_181 : decode cL_law 181 = .ok (.iaload, 1) := by decide +kernel
theorem dL_law_182 : decode cL_law 182 = .ok (.aload_n 0, 1) := by decide +kernel
theorem dL_law_183 : decode cL_law 183 = .ok (.iload_n 3, 1) := by decide +kernel
theorem dL_law_184 : decode cL_law 184 = .ok (.iconst 2, 1) := by decide +kernel
theorem dL_law_185 : decode cL_law 185 = .ok (.iadd, 1) := by decide +kernel
theorem dL_law_186 : decode cL_law 186 = .ok (.iaload, 1) := by decide +kernel
theorem dL_law_187 : decode cL_law 187 = .ok (.aload_n 0, 1) := by decide +kernel
theorem dL_law_188 : decode cL_law 188 = .ok (.iload_n 3, 1) := by decide +kernel
theorem dL_law_189 : decode cL_law 189 = .ok (.iconst 3, 1) := by decide +kernel
theorem dL_law_190 : decode cL_law 190 = .ok (.iadd, 1) := by decide +kernel
theorem dL_law_191 : decode cL_law 191 = .ok (.iaload, 1) := by decide +kernel
theorem dL_law_192 : decode cL_law 192 = .ok (.invokevirtual 21, 3) := by decide +kernel
theorem dL_law_195 : decode cL_law 195 = .ok (.aload_n 2, 1) := by decide +kernel
theorem dL_law_196 : decode cL_law 196 = .ok (.aload_n 0, 1) := by decide +kernel
theorem dL_law_197 : decode cL_law 197 = .ok (.iload_n 3, 1) := by decide +kernel
theorem dL_law_198 : decode cL_law 198 = .ok (.iconst 1, 1) := by decide +kernel
theorem dL_law_199 : decode cL_law 199 = .ok (.iadd, 1) := by decide +kernel
theorem dL_law_200 : decode cL_law 200 = .ok (.iaload, 1) := by decide +kernel
theorem dL_law_201 : decode cL_law 201 = .ok (.aload_n 0, 1) := by decide +kernel
theorem dL_law_202 : decode cL_law 202 = .ok (.iload_n 3, 1) := by decide +kernel
theorem dL_law_203 : decode cL_law 203 = .ok (.iconst 2, 1) := by decide +kernel
theorem dL_law_204 : decode cL_law 204 = .ok (.iadd, 1) := by decide +kernel
theorem dL_law_205 : decode cL_law 205 = .ok (.iaload, 1) := by decide +kernel
theorem dL_law_206 : decode cL_law 206 = .ok (.aload_n 0, 1) := by decide +kernel
theorem dL_law_207 : decode cL_law 207 = .ok (.iload_n 3, 1) := by decide +kernel
theorem dL_law_208 : decode cL_law 208 = .ok (.iconst 3, 1) := by decide +kernel
theorem dL_law_209 : decode cL_law 209 = .ok (.iadd, 1) := by decide +kernel
theorem dL_law_210 : decode cL_law 210 = .ok (.iaload, 1) := by decide +kernel
theorem dL_law_211 : decode cL_law 211 = .ok (.invokevirtual 25, 3) := by decide +kernel
theorem dL_law_214 : decode cL_law 214 = .ok (.if_icmp .eq 993, 3) := by decide +kernel
theorem dL_law_217 : decode cL_law 217 = .ok (.iconst 0, 1) := by decide +kernel
theorem dL_law_218 : decode cL_law 218 = .ok (.ireturn, 1) := by decide +kernel
theorem dL_law_219 : decode cL_law 219 = .ok (.aload_n 1, 1) := by decide +kernel
theorem dL_law_220 : decode cL_law 220 = .ok (.invokevirtual 26, 3) := by decide +kernel
theorem dL_law_223 : decode cL_law 223 = .ok (.aload_n 2, 1) := by decide +kernel
theorem dL_law_224 : decode cL_law 224 = .ok (.invokevirtual 30, 3) := by decide +kernel
theorem dL_law_227 : decode cL_law 227 = .ok (.if_icmp .eq 980, 3) := by decide +kernel
theorem dL_law_230 : decode cL_law 230 = .ok (.iconst 0, 1) := by decide +kernel
theorem dL_law_231 : decode cL_law 231 = .ok (.ireturn, 1) := by decide +kernel
theorem dL_law_232 : decode cL_law 232 = .ok (.aload_n 1, 1) := by decide +kernel
theorem dL_law_233 : decode cL_law 233 = .ok (.aload_n 0, 1) := by decide +kernel
theorem dL_law_234 : decode cL_law 234 = .ok (.iload_n 3, 1) := by decide +kernel
theorem dL_law_235 : decode cL_law 235 = .ok (.iconst 1, 1) := by decide +kernel
theorem dL_law_236 : decode cL_law 236 = .ok (.iadd, 1) := by decide +kernel
theorem dL_law_237 : decode cL_law 237 = .ok (.iaload, 1) := by decide +kernel
theorem dL_law_238 : decode cL_law 238 = .ok (.aload_n 0, 1) := by decide +kernel
theorem dL_law_239 : decode cL_law 239 = .ok (.iload_n 3, 1) := by decide +kernel
theorem dL_law_240 : decode cL_law 240 = .ok (.iconst 2, 1) := by decide +kernel
theorem dL_law_241 : decode cL_law 241 = .ok (.iadd, 1) := by decide +kernel
theorem dL_law_242 : decode cL_law 242 = .ok (.iaload, 1) := by decide +kernel
theorem dL_law_243 : decode cL_law 243 = .ok (.invokevirtual 31, 3) := by decide +kernel
theorem dL_law_246 : decode cL_law 246 = .ok (.aload_n 2, 1) := by decide +kernel
theorem dL_law_247 : decode cL_law 247 = .ok (.aload_n 0, 1) := by decide +kernel
theorem dL_law_248 : decode cL_law 248 = .ok (.iload_n 3, 1) := by decide +kernel
theorem dL_law_249 : decode cL_law 249 = .ok (.iconst 1, 1) := by decide +kernel
theorem dL_law_250 : decode cL_law 250 = .ok (.iadd, 1) := by decide +kernel
theorem dL_law_251 : decode cL_law 251 = .ok (.iaload, 1) := by decide +kernel
theorem dL_law_252 : decode cL_law 252 = .ok (.aload_n 0, 1) := by decide +kernel
theorem dL_law_253 : decode cL_law 253 = .ok (.iload_n 3, 1) := by decide +kernel
theorem dL_law_254 : decode cL_law 254 = .ok (.iconst 2, 1) := by decide +kernel
theorem dL_law_255 : decode cL_law 255 = .ok (.iadd, 1) := by decide +kernel
theorem dL_law_256 : decode cL_law 256 = .ok (.iaload, 1) := by decide +kernel
theorem dL_law_257 : decode cL_law 257 = .ok (.invokevirtual 35, 3) := by decide +kernel
theorem dL_law_260 : decode cL_law 260 = .ok (.if_icmp .eq 947, 3) := by decide +kernel
theorem dL_law_263 : decode cL_law 263 = .ok (.iconst 0, 1) := by decide +kernel
theorem dL_law_264 : decode cL_law 264 = .ok (.ireturn, 1) := by decide +kernel
theorem dL_law_265 : decode cL_law 265 = .ok (.aload_n 1, 1) := by decide +kernel
theorem dL_law_266 : decode cL_law 266 = .ok (.aload_n 0, 1) := by decide +kernel
theorem dL_law_267 : decode cL_law 267 = .ok (.iload_n 3, 1) := by decide +kernel
theorem dL_law_268 : decode cL_law 268 = .ok (.iconst 1, 1) := by decide +kernel
theorem dL_law_269 : decode cL_law 269 = .ok (.iadd, 1) := by decide +kernel
theorem dL_law_270 : decode cL_law 270 = .ok (.iaload, 1) := by decide +kernel
theorem dL_law_271 : decode cL_law 271 = .ok (.aload_n 0, 1) := by decide +kernel
theorem dL_law_272 : decode cL_law 272 = .ok (.iload_n 3, 1) := by decide +kernel
theorem dL_law_273 : decode cL_law 273 = .ok (.iconst 2, 1) := by decide +kernel
theorem dL_law_274 : decode cL_law 274 = .ok (.iadd, 1) := by decide +kernel
theorem dL_law_275 : decode cL_law 275 = .ok (.iaload, 1) := by decide +kernel
theorem dL_law_276 : decode cL_law 276 = .ok (.invokevirtual 36, 3) := by decide +kernel
theorem dL_law_279 : decode cL_law 279 = .ok (.aload_n 2, 1) := by decide +kernel
theorem dL_law_280 : decode cL_law 280 = .ok (.aload_n 0, 1) := by decide +kernel
theorem dL_law_281 : decode cL_law 281 = .ok (.iload_n 3, 1) := by decide +kernel
theorem dL_law_282 : decode cL_law 282 = .ok (.iconst 1, 1) := by decide +kernel
theorem dL_law_283 : decode cL_law 283 = .ok (.iadd, 1) := by decide +kernel
theorem dL_law_284 : decode cL_law 284 = .ok (.iaload, 1) := by decide +kernel
theorem dL_law_285 : decode cL_law 285 = .ok (.aload_n 0, 1) := by decide +kernel
theorem dL_law_286 : decode cL_law 286 = .ok (.iload_n 3, 1) := by decide +kernel
theorem dL_law_287 : decode cL_law 287 = .ok (.iconst 2, 1) := by decide +kernel
theorem dL_law_288 : decode cL_law 288 = .ok (.iadd, 1) := by decide +kernel
theorem dL_law_289 : decode cL_law 289 = .ok (.iaload, 1) := by decide +kernel
theorem dL_law_290 : decode cL_law 290 = .ok (.invokevirtual 39, 3) := by decide +kernel
theorem dL_law_293 : decode cL_law 293 = .ok (.if_icmp .eq 914, 3) := by decide +kernel
theorem dL_law_296 : decode cL_law 296 = .ok (.iconst 0, 1) := by decide +kernel
theorem dL_law_297 : decode cL_law 297 = .ok (.ireturn, 1) := by decide +kernel
theorem dL_law_298 : decode cL_law 298 = .ok (.aload_n 1, 1) := by decide +kernel
theorem dL_law_299 : decode cL_law 299 = .ok (.aload_n 0, 1) := by decide +kernel
theorem dL_law_300 : decode cL_law 300 = .ok (.iload_n 3, 1) := by decide +kernel
theorem dL_law_301 : decode cL_law 301 = .ok (.iconst 1, 1) := by decide +kernel
theorem dL_law_302 : decode cL_law 302 = .ok (.iadd, 1) := by decide +kernel
theorem dL_law_303 : decode cL_law 303 = .ok (.iaload, 1) := by decide +kernel
theorem dL_law_304 : decode cL_law 304 = .ok (.aload_n 0, 1) := by decide +kernel
theorem dL_law_305 : decode cL_law 305 = .ok (.iload_n 3, 1) := by decide +kernel
theorem dL_law_306 : decode cL_law 306 = .ok (.iconst 2, 1) := by decide +kernel
theorem dL_law_307 : decode cL_law 307 = .ok (.iadd, 1) := by decide +kernel
theorem dL_law_308 : decode cL_law 308 = .ok (.iaload, 1) := by decide +kernel
theorem dL_law_309 : decode cL_law 309 = .ok (.invokevirtual 40, 3) := by decide +kernel
theorem dL_law_312 : decode cL_law 312 = .ok (.aload_n 2, 1) := by decide +kernel
theorem dL_law_313 : decode cL_law 313 = .ok (.aload_n 0, 1) := by decide +kernel
theorem dL_law_314 : decode cL_law 314 = .ok (.iload_n 3, 1) := by decide +kernel
theorem dL_law_315 : decode cL_law 315 = .ok (.iconst 1, 1) := by decide +kernel
theorem dL_law_316 : decode cL_law 316 = .ok (.iadd, 1) := by decide +kernel
theorem dL_law_317 : decode cL_law 317 = .ok (.iaload, 1) := by decide +kernel
theorem dL_law_318 : decode cL_law 318 = .ok (.aload_n 0, 1) := by decide +kernel
theorem dL_law_319 : decode cL_law 319 = .ok (.iload_n 3, 1) := by decide +kernel
theorem dL_law_320 : decode cL_law 320 = .ok (.iconst 2, 1) := by decide +kernel
theorem dL_law_321 : decode cL_law 321 = .ok (.iadd, 1) := by decide +kernel
theorem dL_law_322 : decode cL_law 322 = .ok (.iaload, 1) := by decide +kernel
theorem dL_law_323 : decode cL_law 323 = .ok (.invokevirtual 43, 3) := by decide +kernel
theorem dL_law_326 : decode cL_law 326 = .ok (.if_icmp .eq 881, 3) := by decide +kernel
theorem dL_law_329 : decode cL_law 329 = .ok (.iconst 0, 1) := by decide +kernel
theorem dL_law_330 : decode cL_law 330 = .ok (.ireturn, 1) := by decide +kernel
theorem dL_law_331 : decode cL_law 331 = .ok (.aload_n 1, 1) := by decide +kernel
theorem dL_law_332 : decode cL_law 332 = .ok (.aload_n 0, 1) := by decide +kernel
theorem dL_law_333 : decode cL_law 333 = .ok (.iload_n 3, 1) := by decide +kernel
theorem dL_law_334 : decode cL_law 334 = .ok (.iconst 1, 1) := by decide +kernel
theorem dL_law_335 : decode cL_law 335 = .ok (.iadd, 1) := by decide +kernel
theorem dL_law_336 : decode cL_law 336 = .ok (.iaload, 1) := by decide +kernel
theorem dL_law_337 : decode cL_law 337 = .ok (.aload_n 0, 1) := by decide +kernel
theorem dL_law_338 : decode cL_law 338 = .ok (.iload_n 3, 1) := by decide +kernel
theorem dL_law_339 : decode cL_law 339 = .ok (.iconst 2, 1) := by decide +kernel
theorem dL_law_340 : decode cL_law 340 = .ok (.iadd, 1) := by decide +kernel
theorem dL_law_341 : decode cL_law 341 = .ok (.iaload, 1) := by decide +kernel
theorem dL_law_342 : decode cL_law 342 = .ok (.aload_n 0, 1) := by decide +kernel
theorem dL_law_343 : decode cL_law 343 = .ok (.iload_n 3, 1) := by decide +kernel
theorem dL_law_344 : decode cL_law 344 = .ok (.iconst 3, 1) := by decide +kernel
theorem dL_law_345 : decode cL_law 345 = .ok (.iadd, 1) := by decide +kernel
theorem dL_law_346 : decode cL_law 346 = .ok (.iaload, 1) := by decide +kernel
theorem dL_law_347 : decode cL_law 347 = .ok (.aload_n 0, 1) := by decide +kernel
theorem dL_law_348 : decode cL_law 348 = .ok (.iload_n 3, 1) := by decide +kernel
theorem dL_law_349 : decode cL_law 349 = .ok (.iconst 4, 1) := by decide +kernel
theorem dL_law_350 : decode cL_law 350 = .ok (.iadd, 1) := by decide +kernel
theorem dL_law_351 : decode cL_law 351 = .ok (.iaload, 1) := by decide +kernel
theorem dL_law_352 : decode cL_law 352 = .ok (.aload_n 0, 1) := by decide +kernel
theorem dL_law_353 : decode cL_law 353 = .ok (.iload_n 3, 1) := by decide +kernel
theorem dL_law_354 : decode cL_law 354 = .ok (.iconst 5, 1) := by decide +kernel
theorem dL_law_355 : decode cL_law 355 = .ok (.iadd, 1) := by decide +kernel
theorem dL_law_356 : decode cL_law 356 = .ok (.iaload, 1) := by decide +kernel
theorem dL_law_357 : decode cL_law 357 = .ok (.invokevirtual 44, 3) := by decide +kernel
theorem dL_law_360 : decode cL_law 360 = .ok (.aload_n 2, 1) := by decide +kernel
theorem dL_law_361 : decode cL_law 361 = .ok (.aload_n 0, 1) := by decide +kernel
theorem dL_law_362 : decode cL_law 362 = .ok (.iload_n 3, 1) := by decide +kernel
theorem dL_law_363 : decode cL_law 363 = .ok (.iconst 1, 1) := by decide +kernel
theorem dL_law_364 : decode cL_law 364 = .ok (.iadd, 1) := by decide +kernel
theorem dL_law_365 : decode cL_law 365 = .ok (.iaload, 1) := by decide +kernel
theorem dL_law_366 : decode cL_law 366 = .ok (.aload_n 0, 1) := by decide +kernel
theorem dL_law_367 : decode cL_law 367 = .ok (.iload_n 3, 1) := by decide +kernel
theorem dL_law_368 : decode cL_law 368 = .ok (.iconst 2, 1) := by decide +kernel
theorem dL_law_369 : decode cL_law 369 = .ok (.iadd, 1) := by decide +kernel
theorem dL_law_370 : decode cL_law 370 = .ok (.iaload, 1) := by decide +kernel
theorem dL_law_371 : decode cL_law 371 = .ok (.aload_n 0, 1) := by decide +kernel
theorem dL_law_372 : decode cL_law 372 = .ok (.iload_n 3, 1) := by decide +kernel
theorem dL_law_373 : decode cL_law 373 = .ok (.iconst 3, 1) := by decide +kernel
theorem dL_law_374 : decode cL_law 374 = .ok (.iadd, 1) := by decide +kernel
theorem dL_law_375 : decode cL_law 375 = .ok (.iaload, 1) := by decide +kernel
theorem dL_law_376 : decode cL_law 376 = .ok (.aload_n 0, 1) := by decide +kernel
theorem dL_law_377 : decode cL_law 377 = .ok (.iload_n 3, 1) := by decide +kernel
theorem dL_law_378 : decode cL_law 378 = .ok (.iconst 4, 1) := by decide +kernel
theorem dL_law_379 : decode cL_law 379 = .ok (.iadd, 1) := by decide +kernel
theorem dL_law_380 : decode cL_law 380 = .ok (.iaload, 1) := by decide +kernel
theorem dL_law_381 : decode cL_law 381 = .ok (.aload_n 0, 1) := by decide +kernel
theorem dL_law_382 : decode cL_law 382 = .ok (.iload_n 3, 1) := by decide +kernel
theorem dL_law_383 : decode cL_law 383 = .ok (.iconst 5, 1) := by decide +kernel
theorem dL_law_384 : decode cL_law 384 = .ok (.iadd, 1) := by decide +kernel
theorem dL_law_385 : decode cL_law 385 = .ok (.iaload, 1) := by decide +kernel
theorem dL_law_386 : decode cL_law 386 = .ok (.invokevirtual 48, 3) := by decide +kernel
theorem dL_law_389 : decode cL_law 389 = .ok (.if_icmp .eq 818, 3) := by decide +kernel
theorem dL_law_392 : decode cL_law 392 = .ok (.iconst 0, 1) := by decide +kernel
theorem dL_law_393 : decode cL_law 393 = .ok (.ireturn, 1) := by decide +kernel
theorem dL_law_394 : decode cL_law 394 = .ok (.aload_n 1, 1) := by decide +kernel
theorem dL_law_395 : decode cL_law 395 = .ok (.aload_n 0, 1) := by decide +kernel
theorem dL_law_396 : decode cL_law 396 = .ok (.iload_n 3, 1) := by decide +kernel
theorem dL_law_397 : decode cL_law 397 = .ok (.iconst 1, 1) := by decide +kernel
theorem dL_law_398 : decode cL_law 398 = .ok (.iadd, 1) := by decide +kernel
theorem dL_law_399 : decode cL_law 399 = .ok (.iaload, 1) := by decide +kernel
theorem dL_law_400 : decode cL_law 400 = .ok (.aload_n 0, 1) := by decide +kernel
theorem dL_law_401 : decode cL_law 401 = .ok (.iload_n 3, 1) := by decide +kernel
theorem dL_law_402 : decode cL_law 402 = .ok (.iconst 2, 1) := by decide +kernel
theorem dL_law_403 : decode cL_law 403 = .ok (.iadd, 1) := by decide +kernel
theorem dL_law_404 : decode cL_law 404 = .ok (.iaload, 1) := by decide +kernel
theorem dL_law_405 : decode cL_law 405 = .ok (.aload_n 0, 1) := by decide +kernel
theorem dL_law_406 : decode cL_law 406 = .ok (.iload_n 3, 1) := by decide +kernel
theorem dL_law_407 : decode cL_law 407 = .ok (.iconst 3, 1) := by decide +kernel
theorem dL_law_408 : decode cL_law 408 = .ok (.iadd, 1) := by decide +kernel
theorem dL_law_409 : decode cL_law 409 = .ok (.iaload, 1) := by decide +kernel
theorem dL_law_410 : decode cL_law 410 = .ok (.aload_n 0, 1) := by decide +kernel
theorem dL_law_411 : decode cL_law 411 = .ok (.iload_n 3, 1) := by decide +kernel
theorem dL_law_412 : decode cL_law 412 = .ok (.iconst 4, 1) := by decide +kernel
theorem dL_law_413 : decode cL_law 413 = .ok (.iadd, 1) := by decide +kernel
theorem dL_law_414 : decode cL_law 414 = .ok (.iaload, 1) := by decide +kernel
theorem dL_law_415 : decode cL_law 415 = .ok (.aload_n 0, 1) := by decide +kernel
theorem dL_law_416 : decode cL_law 416 = .ok (.iload_n 3, 1) := by decide +kernel
theorem dL_law_417 : decode cL_law 417 = .ok (.iconst 5, 1) := by decide +kernel
theorem dL_law_418 : decode cL_law 418 = .ok (.iadd, 1) := by decide +kernel
theorem dL_law_419 : decode cL_law 419 = .ok (.iaload, 1) := by decide +kernel
theorem dL_law_420 : decode cL_law 420 = .ok (.invokevirtual 49, 3) := by decide +kernel
theorem dL_law_423 : decode cL_law 423 = .ok (.aload_n 2, 1) := by decide +kernel
theorem dL_law_424 : decode cL_law 424 = .ok (.aload_n 0, 1) := by decide +kernel
theorem dL_law_425 : decode cL_law 425 = .ok (.iload_n 3, 1) := by decide +kernel
theorem dL_law_426 : decode cL_law 426 = .ok (.iconst 1, 1) := by decide +kernel
theorem dL_law_427 : decode cL_law 427 = .ok (.iadd, 1) := by decide +kernel
theorem dL_law_428 : decode cL_law 428 = .ok (.iaload, 1) := by decide +kernel
theorem dL_law_429 : decode cL_law 429 = .ok (.aload_n 0, 1) := by decide +kernel
theorem dL_law_430 : decode cL_law 430 = .ok (.iload_n 3, 1) := by decide +kernel
theorem dL_law_431 : decode cL_law 431 = .ok (.iconst 2, 1) := by decide +kernel
theorem dL_law_432 : decode cL_law 432 = .ok (.iadd, 1) := by decide +kernel
theorem dL_law_433 : decode cL_law 433 = .ok (.iaload, 1) := by decide +kernel
theorem dL_law_434 : decode cL_law 434 = .ok (.aload_n 0, 1) := by decide +kernel
theorem dL_law_435 : decode cL_law 435 = .ok (.iload_n 3, 1) := by decide +kernel
theorem dL_law_436 : decode cL_law 436 = .ok (.iconst 3, 1) := by decide +kernel
theorem dL_law_437 : decode cL_law 437 = .ok (.iadd, 1) := by decide +kernel
theorem dL_law_438 : decode cL_law 438 = .ok (.iaload, 1) := by decide +kernel
theorem dL_law_439 : decode cL_law 439 = .ok (.aload_n 0, 1) := by decide +kernel
theorem dL_law_440 : decode cL_law 440 = .ok (.iload_n 3, 1) := by decide +kernel
theorem dL_law_441 : decode cL_law 441 = .ok (.iconst 4, 1) := by decide +kernel
theorem dL_law_442 : decode cL_law 442 = .ok (.iadd, 1) := by decide +kernel
theorem dL_law_443 : decode cL_law 443 = .ok (.iaload, 1) := by decide +kernel
theorem dL_law_444 : decode cL_law 444 = .ok (.aload_n 0, 1) := by decide +kernel
theorem dL_law_445 : decode cL_law 445 = .ok (.iload_n 3, 1) := by decide +kernel
theorem dL_law_446 : decode cL_law 446 = .ok (.iconst 5, 1) := by decide +kernel
theorem dL_law_447 : decode cL_law 447 = .ok (.iadd, 1) := by decide +kernel
theorem dL_law_448 : decode cL_law 448 = .ok (.iaload, 1) := by decide +kernel
theorem dL_law_449 : decode cL_law 449 = .ok (.invokevirtual 52, 3) := by decide +kernel
theorem dL_law_452 : decode cL_law 452 = .ok (.if_icmp .eq 755, 3) := by decide +kernel
theorem dL_law_455 : decode cL_law 455 = .ok (.iconst 0, 1) := by decide +kernel
theorem dL_law_456 : decode cL_law 456 = .ok (.ireturn, 1) := by decide +kernel
theorem dL_law_457 : decode cL_law 457 = .ok (.aload_n 1, 1) := by decide +kernel
theorem dL_law_458 : decode cL_law 458 = .ok (.aload_n 0, 1) := by decide +kernel
theorem dL_law_459 : decode cL_law 459 = .ok (.iload_n 3, 1) := by decide +kernel
theorem dL_law_460 : decode cL_law 460 = .ok (.iconst 1, 1) := by decide +kernel
theorem dL_law_461 : decode cL_law 461 = .ok (.iadd, 1) := by decide +kernel
theorem dL_law_462 : decode cL_law 462 = .ok (.iaload, 1) := by decide +kernel
theorem dL_law_463 : decode cL_law 463 = .ok (.aload_n 0, 1) := by decide +kernel
theorem dL_law_464 : decode cL_law 464 = .ok (.iload_n 3, 1) := by decide +kernel
theorem dL_law_465 : decode cL_law 465 = .ok (.iconst 2, 1) := by decide +kernel
theorem dL_law_466 : decode cL_law 466 = .ok (.iadd, 1) := by decide +kernel
theorem dL_law_467 : decode cL_law 467 = .ok (.iaload, 1) := by decide +kernel
theorem dL_law_468 : decode cL_law 468 = .ok (.aload_n 0, 1) := by decide +kernel
theorem dL_law_469 : decode cL_law 469 = .ok (.iload_n 3, 1) := by decide +kernel
theorem dL_law_470 : decode cL_law 470 = .ok (.iconst 3, 1) := by decide +kernel
theorem dL_law_471 : decode cL_law 471 = .ok (.iadd, 1) := by decide +kernel
theorem dL_law_472 : decode cL_law 472 = .ok (.iaload, 1) := by decide +kernel
theorem dL_law_473 : decode cL_law 473 = .ok (.aload_n 0, 1) := by decide +kernel
theorem dL_law_474 : decode cL_law 474 = .ok (.iload_n 3, 1) := by decide +kernel
theorem dL_law_475 : decode cL_law 475 = .ok (.iconst 4, 1) := by decide +kernel
theorem dL_law_476 : decode cL_law 476 = .ok (.iadd, 1) := by decide +kernel
theorem dL_law_477 : decode cL_law 477 = .ok (.iaload, 1) := by decide +kernel
theorem dL_law_478 : decode cL_law 478 = .ok (.aload_n 0, 1) := by decide +kernel
theorem dL_law_479 : decode cL_law 479 = .ok (.iload_n 3, 1) := by decide +kernel
theorem dL_law_480 : decode cL_law 480 = .ok (.iconst 5, 1) := by decide +kernel
theorem dL_law_481 : decode cL_law 481 = .ok (.iadd, 1) := by decide +kernel
theorem dL_law_482 : decode cL_law 482 = .ok (.iaload, 1) := by decide +kernel
theorem dL_law_483 : decode cL_law 483 = .ok (.invokevirtual 53, 3) := by decide +kernel
theorem dL_law_486 : decode cL_law 486 = .ok (.aload_n 2, 1) := by decide +kernel
theorem dL_law_487 : decode cL_law 487 = .ok (.aload_n 0, 1) := by decide +kernel
theorem dL_law_488 : decode cL_law 488 = .ok (.iload_n 3, 1) := by decide +kernel
theorem dL_law_489 : decode cL_law 489 = .ok (.iconst 1, 1) := by decide +kernel
theorem dL_law_490 : decode cL_law 490 = .ok (.iadd, 1) := by decide +kernel
theorem dL_law_491 : decode cL_law 491 = .ok (.iaload, 1) := by decide +kernel
theorem dL_law_492 : decode cL_law 492 = .ok (.aload_n 0, 1) := by decide +kernel
theorem dL_law_493 : decode cL_law 493 = .ok (.iload_n 3, 1) := by decide +kernel
theorem dL_law_494 : decode cL_law 494 = .ok (.iconst 2, 1) := by decide +kernel
theorem dL_law_495 : decode cL_law 495 = .ok (.iadd, 1) := by decide +kernel
theorem dL_law_496 : decode cL_law 496 = .ok (.iaload, 1) := by decide +kernel
theorem dL_law_497 : decode cL_law 497 = .ok (.aload_n 0, 1) := by decide +kernel
theorem dL_law_498 : decode cL_law 498 = .ok (.iload_n 3, 1) := by decide +kernel
theorem dL_law_499 : decode cL_law 499 = .ok (.iconst 3, 1) := by decide +kernel
theorem dL_law_500 : decode cL_law 500 = .ok (.iadd, 1) := by decide +kernel
theorem dL_law_501 : decode cL_law 501 = .ok (.iaload, 1) := by decide +kernel
theorem dL_law_502 : decode cL_law 502 = .ok (.aload_n 0, 1) := by decide +kernel
theorem dL_law_503 : decode cL_law 503 = .ok (.iload_n 3, 1) := by decide +kernel
theorem dL_law_504 : decode cL_law 504 = .ok (.iconst 4, 1) := by decide +kernel
theorem dL_law_505 : decode cL_law 505 = .ok (.iadd, 1) := by decide +kernel
theorem dL_law_506 : decode cL_law 506 = .ok (.iaload, 1) := by decide +kernel
theorem dL_law_507 : decode cL_law 507 = .ok (.aload_n 0, 1) := by decide +kernel
theorem dL_law_508 : decode cL_law 508 = .ok (.iload_n 3, 1) := by decide +kernel
theorem dL_law_509 : decode cL_law 509 = .ok (.iconst 5, 1) := by decide +kernel
theorem dL_law_510 : decode cL_law 510 = .ok (.iadd, 1) := by decide +kernel
theorem dL_law_511 : decode cL_law 511 = .ok (.iaload, 1) := by decide +kernel
theorem dL_law_512 : decode cL_law 512 = .ok (.invokevirtual 56, 3) := by decide +kernel
theorem dL_law_515 : decode cL_law 515 = .ok (.if_icmp .eq 692, 3) := by decide +kernel
theorem dL_law_518 : decode cL_law 518 = .ok (.iconst 0, 1) := by decide +kernel
theorem dL_law_519 : decode cL_law 519 = .ok (.ireturn, 1) := by decide +kernel
theorem dL_law_520 : decode cL_law 520 = .ok (.aload_n 1, 1) := by decide +kernel
theorem dL_law_521 : decode cL_law 521 = .ok (.aload_n 0, 1) := by decide +kernel
theorem dL_law_522 : decode cL_law 522 = .ok (.iload_n 3, 1) := by decide +kernel
theorem dL_law_523 : decode cL_law 523 = .ok (.iconst 1, 1) := by decide +kernel
theorem dL_law_524 : decode cL_law 524 = .ok (.iadd, 1) := by decide +kernel
theorem dL_law_525 : decode cL_law 525 = .ok (.iaload, 1) := by decide +kernel
theorem dL_law_526 : decode cL_law 526 = .ok (.invokevirtual 57, 3) := by decide +kernel
theorem dL_law_529 : decode cL_law 529 = .ok (.aload_n 2, 1) := by decide +kernel
theorem dL_law_530 : decode cL_law 530 = .ok (.aload_n 0, 1) := by decide +kernel
theorem dL_law_531 : decode cL_law 531 = .ok (.iload_n 3, 1) := by decide +kernel
theorem dL_law_532 : decode cL_law 532 = .ok (.iconst 1, 1) := by decide +kernel
theorem dL_law_533 : decode cL_law 533 = .ok (.iadd, 1) := by decide +kernel
theorem dL_law_534 : decode cL_law 534 = .ok (.iaload, 1) := by decide +kernel
theorem dL_law_535 : decode cL_law 535 = .ok (.invokevirtual 61, 3) := by decide +kernel
theorem dL_law_538 : decode cL_law 538 = .ok (.if_icmp .eq 669, 3) := by decide +kernel
theorem dL_law_541 : decode cL_law 541 = .ok (.iconst 0, 1) := by decide +kernel
theorem dL_law_542 : decode cL_law 542 = .ok (.ireturn, 1) := by decide +kernel
theorem dL_law_543 : decode cL_law 543 = .ok (.aload_n 1, 1) := by decide +kernel
theorem dL_law_544 : decode cL_law 544 = .ok (.aload_n 0, 1) := by decide +kernel
theorem dL_law_545 : decode cL_law 545 = .ok (.iload_n 3, 1) := by decide +kernel
theorem dL_law_546 : decode cL_law 546 = .ok (.iconst 1, 1) := by decide +kernel
theorem dL_law_547 : decode cL_law 547 = .ok (.iadd, 1) := by decide +kernel
theorem dL_law_548 : decode cL_law 548 = .ok (.iaload, 1) := by decide +kernel
theorem dL_law_549 : decode cL_law 549 = .ok (.aload_n 0, 1) := by decide +kernel
theorem dL_law_550 : decode cL_law 550 = .ok (.iload_n 3, 1) := by decide +kernel
theorem dL_law_551 : decode cL_law 551 = .ok (.iconst 2, 1) := by decide +kernel
theorem dL_law_552 : decode cL_law 552 = .ok (.iadd, 1) := by decide +kernel
theorem dL_law_553 : decode cL_law 553 = .ok (.iaload, 1) := by decide +kernel
theorem dL_law_554 : decode cL_law 554 = .ok (.invokevirtual 62, 3) := by decide +kernel
theorem dL_law_557 : decode cL_law 557 = .ok (.aload_n 2, 1) := by decide +kernel
theorem dL_law_558 : decode cL_law 558 = .ok (.aload_n 0, 1) := by decide +kernel
theorem dL_law_559 : decode cL_law 559 = .ok (.iload_n 3, 1) := by decide +kernel
theorem dL_law_560 : decode cL_law 560 = .ok (.iconst 1, 1) := by decide +kernel
theorem dL_law_561 : decode cL_law 561 = .ok (.iadd, 1) := by decide +kernel
theorem dL_law_562 : decode cL_law 562 = .ok (.iaload, 1) := by decide +kernel
theorem dL_law_563 : decode cL_law 563 = .ok (.aload_n 0, 1) := by decide +kernel
theorem dL_law_564 : decode cL_law 564 = .ok (.iload_n 3, 1) := by decide +kernel
theorem dL_law_565 : decode cL_law 565 = .ok (.iconst 2, 1) := by decide +kernel
theorem dL_law_566 : decode cL_law 566 = .ok (.iadd, 1) := by decide +kernel
theorem dL_law_567 : decode cL_law 567 = .ok (.iaload, 1) := by decide +kernel
theorem dL_law_568 : decode cL_law 568 = .ok (.invokevirtual 65, 3) := by decide +kernel
theorem dL_law_571 : decode cL_law 571 = .ok (.if_icmp .eq 636, 3) := by decide +kernel
theorem dL_law_574 : decode cL_law 574 = .ok (.iconst 0, 1) := by decide +kernel
theorem dL_law_575 : decode cL_law 575 = .ok (.ireturn, 1) := by decide +kernel
theorem dL_law_576 : decode cL_law 576 = .ok (.aload_n 1, 1) := by decide +kernel
theorem dL_law_577 : decode cL_law 577 = .ok (.invokevirtual 66, 3) := by decide +kernel
theorem dL_law_580 : decode cL_law 580 = .ok (.aload_n 2, 1) := by decide +kernel
theorem dL_law_581 : decode cL_law 581 = .ok (.invokevirtual 69, 3) := by decide +kernel
theorem dL_law_584 : decode cL_law 584 = .ok (.if_icmp .eq 623, 3) := by decide +kernel
theorem dL_law_587 : decode cL_law 587 = .ok (.iconst 0, 1) := by decide +kernel
theorem dL_law_588 : decode cL_law 588 = .ok (.ireturn, 1) := by decide +kernel
theorem dL_law_589 : decode cL_law 589 = .ok (.aload_n 1, 1) := by decide +kernel
theorem dL_law_590 : decode cL_law 590 = .ok (.aload_n 0, 1) := by decide +kernel
theorem dL_law_591 : decode cL_law 591 = .ok (.iload_n 3, 1) := by decide +kernel
theorem dL_law_592 : decode cL_law 592 = .ok (.iconst 1, 1) := by decide +kernel
theorem dL_law_593 : decode cL_law 593 = .ok (.iadd, 1) := by decide +kernel
theorem dL_law_594 : decode cL_law 594 = .ok (.iaload, 1) := by decide +kernel
theorem dL_law_595 : decode cL_law 595 = .ok (.aload_n 0, 1) := by decide +kernel
theorem dL_law_596 : decode cL_law 596 = .ok (.iload_n 3, 1) := by decide +kernel
theorem dL_law_597 : decode cL_law 597 = .ok (.iconst 2, 1) := by decide +kernel
theorem dL_law_598 : decode cL_law 598 = .ok (.iadd, 1) := by decide +kernel
theorem dL_law_599 : decode cL_law 599 = .ok (.iaload, 1) := by decide +kernel
theorem dL_law_600 : decode cL_law 600 = .ok (.aload_n 0, 1) := by decide +kernel
theorem dL_law_601 : decode cL_law 601 = .ok (.iload_n 3, 1) := by decide +kernel
theorem dL_law_602 : decode cL_law 602 = .ok (.iconst 3, 1) := by decide +kernel
theorem dL_law_603 : decode cL_law 603 = .ok (.iadd, 1) := by decide +kernel
theorem dL_law_604 : decode cL_law 604 = .ok (.iaload, 1) := by decide +kernel
theorem dL_law_605 : decode cL_law 605 = .ok (.invokevirtual 70, 3) := by decide +kernel
theorem dL_law_608 : decode cL_law 608 = .ok (.aload_n 2, 1) := by decide +kernel
theorem dL_law_609 : decode cL_law 609 = .ok (.aload_n 0, 1) := by decide +kernel
theorem dL_law_610 : decode cL_law 610 = .ok (.iload_n 3, 1) := by decide +kernel
theorem dL_law_611 : decode cL_law 611 = .ok (.iconst 1, 1) := by decide +kernel
theorem dL_law_612 : decode cL_law 612 = .ok (.iadd, 1) := by decide +kernel
theorem dL_law_613 : decode cL_law 613 = .ok (.iaload, 1) := by decide +kernel
theorem dL_law_614 : decode cL_law 614 = .ok (.aload_n 0, 1) := by decide +kernel
theorem dL_law_615 : decode cL_law 615 = .ok (.iload_n 3, 1) := by decide +kernel
theorem dL_law_616 : decode cL_law 616 = .ok (.iconst 2, 1) := by decide +kernel
theorem dL_law_617 : decode cL_law 617 = .ok (.iadd, 1) := by decide +kernel
theorem dL_law_618 : decode cL_law 618 = .ok (.iaload, 1) := by decide +kernel
theorem dL_law_619 : decode cL_law 619 = .ok (.aload_n 0, 1) := by decide +kernel
theorem dL_law_620 : decode cL_law 620 = .ok (.iload_n 3, 1) := by decide +kernel
theorem dL_law_621 : decode cL_law 621 = .ok (.iconst 3, 1) := by decide +kernel
theorem dL_law_622 : decode cL_law 622 = .ok (.iadd, 1) := by decide +kernel
theorem dL_law_623 : decode cL_law 623 = .ok (.iaload, 1) := by decide +kernel
theorem dL_law_624 : decode cL_law 624 = .ok (.invokevirtual 73, 3) := by decide +kernel
theorem dL_law_627 : decode cL_law 627 = .ok (.if_icmp .eq 580, 3) := by decide +kernel
theorem dL_law_630 : decode cL_law 630 = .ok (.iconst 0, 1) := by decide +kernel
theorem dL_law_631 : decode cL_law 631 = .ok (.ireturn, 1) := by decide +kernel
theorem dL_law_632 : decode cL_law 632 = .ok (.aload_n 1, 1) := by decide +kernel
theorem dL_law_633 : decode cL_law 633 = .ok (.invokevirtual 74, 3) := by decide +kernel
theorem dL_law_636 : decode cL_law 636 = .ok (.aload_n 2, 1) := by decide +kernel
theorem dL_law_637 : decode cL_law 637 = .ok (.invokevirtual 77, 3) := by decide +kernel
theorem dL_law_640 : decode cL_law 640 = .ok (.if_icmp .eq 567, 3) := by decide +kernel
theorem dL_law_643 : decode cL_law 643 = .ok (.iconst 0, 1) := by decide +kernel
theorem dL_law_644 : decode cL_law 644 = .ok (.ireturn, 1) := by decide +kernel
theorem dL_law_645 : decode cL_law 645 = .ok (.aload_n 1, 1) := by decide +kernel
theorem dL_law_646 : decode cL_law 646 = .ok (.aload_n 0, 1) := by decide +kernel
theorem dL_law_647 : decode cL_law 647 = .ok (.iload_n 3, 1) := by decide +kernel
theorem dL_law_648 : decode cL_law 648 = .ok (.iconst 1, 1) := by decide +kernel
theorem dL_law_649 : decode cL_law 649 = .ok (.iadd, 1) := by decide +kernel
theorem dL_law_650 : decode cL_law 650 = .ok (.iaload, 1) := by decide +kernel
theorem dL_law_651 : decode cL_law 651 = .ok (.aload_n 0, 1) := by decide +kernel
theorem dL_law_652 : decode cL_law 652 = .ok (.iload_n 3, 1) := by decide +kernel
theorem dL_law_653 : decode cL_law 653 = .ok (.iconst 2, 1) := by decide +kernel
theorem dL_law_654 : decode cL_law 654 = .ok (.iadd, 1) := by decide +kernel
theorem dL_law_655 : decode cL_law 655 = .ok (.iaload, 1) := by decide +kernel
theorem dL_law_656 : decode cL_law 656 = .ok (.invokevirtual 78, 3) := by decide +kernel
theorem dL_law_659 : decode cL_law 659 = .ok (.aload_n 2, 1) := by decide +kernel
theorem dL_law_660 : decode cL_law 660 = .ok (.aload_n 0, 1) := by decide +kernel
theorem dL_law_661 : decode cL_law 661 = .ok (.iload_n 3, 1) := by decide +kernel
theorem dL_law_662 : decode cL_law 662 = .ok (.iconst 1, 1) := by decide +kernel
theorem dL_law_663 : decode cL_law 663 = .ok (.iadd, 1) := by decide +kernel
theorem dL_law_664 : decode cL_law 664 = .ok (.iaload, 1) := by decide +kernel
theorem dL_law_665 : decode cL_law 665 = .ok (.aload_n 0, 1) := by decide +kernel
theorem dL_law_666 : decode cL_law 666 = .ok (.iload_n 3, 1) := by decide +kernel
theorem dL_law_667 : decode cL_law 667 = .ok (.iconst 2, 1) := by decide +kernel
theorem dL_law_668 : decode cL_law 668 = .ok (.iadd, 1) := by decide +kernel
theorem dL_law_669 : decode cL_law 669 = .ok (.iaload, 1) := by decide +kernel
theorem dL_law_670 : decode cL_law 670 = .ok (.invokevirtual 81, 3) := by decide +kernel
theorem dL_law_673 : decode cL_law 673 = .ok (.if_icmp .eq 534, 3) := by decide +kernel
theorem dL_law_676 : decode cL_law 676 = .ok (.iconst 0, 1) := by decide +kernel
theorem dL_law_677 : decode cL_law 677 = .ok (.ireturn, 1) := by decide +kernel
theorem dL_law_678 : decode cL_law 678 = .ok (.aload_n 1, 1) := by decide +kernel
theorem dL_law_679 : decode cL_law 679 = .ok (.aload_n 0, 1) := by decide +kernel
theorem dL_law_680 : decode cL_law 680 = .ok (.iload_n 3, 1) := by decide +kernel
theorem dL_law_681 : decode cL_law 681 = .ok (.iconst 1, 1) := by decide +kernel
theorem dL_law_682 : decode cL_law 682 = .ok (.iadd, 1) := by decide +kernel
theorem dL_law_683 : decode cL_law 683 = .ok (.iaload, 1) := by decide +kernel
theorem dL_law_684 : decode cL_law 684 = .ok (.aload_n 0, 1) := by decide +kernel
theorem dL_law_685 : decode cL_law 685 = .ok (.iload_n 3, 1) := by decide +kernel
theorem dL_law_686 : decode cL_law 686 = .ok (.iconst 2, 1) := by decide +kernel
theorem dL_law_687 : decode cL_law 687 = .ok (.iadd, 1) := by decide +kernel
theorem dL_law_688 : decode cL_law 688 = .ok (.iaload, 1) := by decide +kernel
theorem dL_law_689 : decode cL_law 689 = .ok (.aload_n 0, 1) := by decide +kernel
theorem dL_law_690 : decode cL_law 690 = .ok (.iload_n 3, 1) := by decide +kernel
theorem dL_law_691 : decode cL_law 691 = .ok (.iconst 3, 1) := by decide +kernel
theorem dL_law_692 : decode cL_law 692 = .ok (.iadd, 1) := by decide +kernel
theorem dL_law_693 : decode cL_law 693 = .ok (.iaload, 1) := by decide +kernel
theorem dL_law_694 : decode cL_law 694 = .ok (.invokevirtual 82, 3) := by decide +kernel
theorem dL_law_697 : decode cL_law 697 = .ok (.aload_n 2, 1) := by decide +kernel
theorem dL_law_698 : decode cL_law 698 = .ok (.aload_n 0, 1) := by decide +kernel
theorem dL_law_699 : decode cL_law 699 = .ok (.iload_n 3, 1) := by decide +kernel
theorem dL_law_700 : decode cL_law 700 = .ok (.iconst 1, 1) := by decide +kernel
theorem dL_law_701 : decode cL_law 701 = .ok (.iadd, 1) := by decide +kernel
theorem dL_law_702 : decode cL_law 702 = .ok (.iaload, 1) := by decide +kernel
theorem dL_law_703 : decode cL_law 703 = .ok (.aload_n 0, 1) := by decide +kernel
theorem dL_law_704 : decode cL_law 704 = .ok (.iload_n 3, 1) := by decide +kernel
theorem dL_law_705 : decode cL_law 705 = .ok (.iconst 2, 1) := by decide +kernel
theorem dL_law_706 : decode cL_law 706 = .ok (.iadd, 1) := by decide +kernel
theorem dL_law_707 : decode cL_law 707 = .ok (.iaload, 1) := by decide +kernel
theorem dL_law_708 : decode cL_law 708 = .ok (.aload_n 0, 1) := by decide +kernel
theorem dL_law_709 : decode cL_law 709 = .ok (.iload_n 3, 1) := by decide +kernel
theorem dL_law_710 : decode cL_law 710 = .ok (.iconst 3, 1) := by decide +kernel
theorem dL_law_711 : decode cL_law 711 = .ok (.iadd, 1) := by decide +kernel
theorem dL_law_712 : decode cL_law 712 = .ok (.iaload, 1) := by decide +kernel
theorem dL_law_713 : decode cL_law 713 = .ok (.invokevirtual 85, 3) := by decide +kernel
theorem dL_law_716 : decode cL_law 716 = .ok (.if_icmp .eq 491, 3) := by decide +kernel
theorem dL_law_719 : decode cL_law 719 = .ok (.iconst 0, 1) := by decide +kernel
theorem dL_law_720 : decode cL_law 720 = .ok (.ireturn, 1) := by decide +kernel
theorem dL_law_721 : decode cL_law 721 = .ok (.aload_n 1, 1) := by decide +kernel
theorem dL_law_722 : decode cL_law 722 = .ok (.aload_n 0, 1) := by decide +kernel
theorem dL_law_723 : decode cL_law 723 = .ok (.iload_n 3, 1) := by decide +kernel
theorem dL_law_724 : decode cL_law 724 = .ok (.iconst 1, 1) := by decide +kernel
theorem dL_law_725 : decode cL_law 725 = .ok (.iadd, 1) := by decide +kernel
theorem dL_law_726 : decode cL_law 726 = .ok (.iaload, 1) := by decide +kernel
theorem dL_law_727 : decode cL_law 727 = .ok (.aload_n 0, 1) := by decide +kernel
theorem dL_law_728 : decode cL_law 728 = .ok (.iload_n 3, 1) := by decide +kernel
theorem dL_law_729 : decode cL_law 729 = .ok (.iconst 2, 1) := by decide +kernel
theorem dL_law_730 : decode cL_law 730 = .ok (.iadd, 1) := by decide +kernel
theorem dL_law_731 : decode cL_law 731 = .ok (.iaload, 1) := by decide +kernel
theorem dL_law_732 : decode cL_law 732 = .ok (.aload_n 0, 1) := by decide +kernel
theorem dL_law_733 : decode cL_law 733 = .ok (.iload_n 3, 1) := by decide +kernel
theorem dL_law_734 : decode cL_law 734 = .ok (.iconst 3, 1) := by decide +kernel
theorem dL_law_735 : decode cL_law 735 = .ok (.iadd, 1) := by decide +kernel
theorem dL_law_736 : decode cL_law 736 = .ok (.iaload, 1) := by decide +kernel
theorem dL_law_737 : decode cL_law 737 = .ok (.invokevirtual 86, 3) := by decide +kernel
theorem dL_law_740 : decode cL_law 740 = .ok (.aload_n 2, 1) := by decide +kernel
theorem dL_law_741 : decode cL_law 741 = .ok (.aload_n 0, 1) := by decide +kernel
theorem dL_law_742 : decode cL_law 742 = .ok (.iload_n 3, 1) := by decide +kernel
theorem dL_law_743 : decode cL_law 743 = .ok (.iconst 1, 1) := by decide +kernel
theorem dL_law_744 : decode cL_law 744 = .ok (.iadd, 1) := by decide +kernel
theorem dL_law_745 : decode cL_law 745 = .ok (.iaload, 1) := by decide +kernel
theorem dL_law_746 : decode cL_law 746 = .ok (.aload_n 0, 1) := by decide +kernel
theorem dL_law_747 : decode cL_law 747 = .ok (.iload_n 3, 1) := by decide +kernel
theorem dL_law_748 : decode cL_law 748 = .ok (.iconst 2, 1) := by decide +kernel
theorem dL_law_749 : decode cL_law 749 = .ok (.iadd, 1) := by decide +kernel
theorem dL_law_750 : decode cL_law 750 = .ok (.iaload, 1) := by decide +kernel
theorem dL_law_751 : decode cL_law 751 = .ok (.aload_n 0, 1) := by decide +kernel
theorem dL_law_752 : decode cL_law 752 = .ok (.iload_n 3, 1) := by decide +kernel
theorem dL_law_753 : decode cL_law 753 = .ok (.iconst 3, 1) := by decide +kernel
theorem dL_law_754 : decode cL_law 754 = .ok (.iadd, 1) := by decide +kernel
theorem dL_law_755 : decode cL_law 755 = .ok (.iaload, 1) := by decide +kernel
theorem dL_law_756 : decode cL_law 756 = .ok (.invokevirtual 89, 3) := by decide +kernel
theorem dL_law_759 : decode cL_law 759 = .ok (.if_icmp .eq 448, 3) := by decide +kernel
theorem dL_law_762 : decode cL_law 762 = .ok (.iconst 0, 1) := by decide +kernel
theorem dL_law_763 : decode cL_law 763 = .ok (.ireturn, 1) := by decide +kernel
theorem dL_law_764 : decode cL_law 764 = .ok (.aload_n 1, 1) := by decide +kernel
theorem dL_law_765 : decode cL_law 765 = .ok (.aload_n 0, 1) := by decide +kernel
theorem dL_law_766 : decode cL_law 766 = .ok (.iload_n 3, 1) := by decide +kernel
theorem dL_law_767 : decode cL_law 767 = .ok (.iconst 1, 1) := by decide +kernel
theorem dL_law_768 : decode cL_law 768 = .ok (.iadd, 1) := by decide +kernel
theorem dL_law_769 : decode cL_law 769 = .ok (.iaload, 1) := by decide +kernel
theorem dL_law_770 : decode cL_law 770 = .ok (.aload_n 0, 1) := by decide +kernel
theorem dL_law_771 : decode cL_law 771 = .ok (.iload_n 3, 1) := by decide +kernel
theorem dL_law_772 : decode cL_law 772 = .ok (.iconst 2, 1) := by decide +kernel
theorem dL_law_773 : decode cL_law 773 = .ok (.iadd, 1) := by decide +kernel
theorem dL_law_774 : decode cL_law 774 = .ok (.iaload, 1) := by decide +kernel
theorem dL_law_775 : decode cL_law 775 = .ok (.aload_n 0, 1) := by decide +kernel
theorem dL_law_776 : decode cL_law 776 = .ok (.iload_n 3, 1) := by decide +kernel
theorem dL_law_777 : decode cL_law 777 = .ok (.iconst 3, 1) := by decide +kernel
theorem dL_law_778 : decode cL_law 778 = .ok (.iadd, 1) := by decide +kernel
theorem dL_law_779 : decode cL_law 779 = .ok (.iaload, 1) := by decide +kernel
theorem dL_law_780 : decode cL_law 780 = .ok (.invokevirtual 90, 3) := by decide +kernel
theorem dL_law_783 : decode cL_law 783 = .ok (.aload_n 2, 1) := by decide +kernel
theorem dL_law_784 : decode cL_law 784 = .ok (.aload_n 0, 1) := by decide +kernel
theorem dL_law_785 : decode cL_law 785 = .ok (.iload_n 3, 1) := by decide +kernel
theorem dL_law_786 : decode cL_law 786 = .ok (.iconst 1, 1) := by decide +kernel
theorem dL_law_787 : decode cL_law 787 = .ok (.iadd, 1) := by decide +kernel
theorem dL_law_788 : decode cL_law 788 = .ok (.iaload, 1) := by decide +kernel
theorem dL_law_789 : decode cL_law 789 = .ok (.aload_n 0, 1) := by decide +kernel
theorem dL_law_790 : decode cL_law 790 = .ok (.iload_n 3, 1) := by decide +kernel
theorem dL_law_791 : decode cL_law 791 = .ok (.iconst 2, 1) := by decide +kernel
theorem dL_law_792 : decode cL_law 792 = .ok (.iadd, 1) := by decide +kernel
theorem dL_law_793 : decode cL_law 793 = .ok (.iaload, 1) := by decide +kernel
theorem dL_law_794 : decode cL_law 794 = .ok (.aload_n 0, 1) := by decide +kernel
theorem dL_law_795 : decode cL_law 795 = .ok (.iload_n 3, 1) := by decide +kernel
theorem dL_law_796 : decode cL_law 796 = .ok (.iconst 3, 1) := by decide +kernel
theorem dL_law_797 : decode cL_law 797 = .ok (.iadd, 1) := by decide +kernel
theorem dL_law_798 : decode cL_law 798 = .ok (.iaload, 1) := by decide +kernel
theorem dL_law_799 : decode cL_law 799 = .ok (.invokevirtual 93, 3) := by decide +kernel
theorem dL_law_802 : decode cL_law 802 = .ok (.if_icmp .eq 405, 3) := by decide +kernel
theorem dL_law_805 : decode cL_law 805 = .ok (.iconst 0, 1) := by decide +kernel
theorem dL_law_806 : decode cL_law 806 = .ok (.ireturn, 1) := by decide +kernel
theorem dL_law_807 : decode cL_law 807 = .ok (.aload_n 1, 1) := by decide +kernel
theorem dL_law_808 : decode cL_law 808 = .ok (.aload_n 0, 1) := by decide +kernel
theorem dL_law_809 : decode cL_law 809 = .ok (.iload_n 3, 1) := by decide +kernel
theorem dL_law_810 : decode cL_law 810 = .ok (.iconst 1, 1) := by decide +kernel
theorem dL_law_811 : decode cL_law 811 = .ok (.iadd, 1) := by decide +kernel
theorem dL_law_812 : decode cL_law 812 = .ok (.iaload, 1) := by decide +kernel
theorem dL_law_813 : decode cL_law 813 = .ok (.invokevirtual 94, 3) := by decide +kernel
