theorem dX12_nextToken_0 : decode cX12_nextToken 0 = .ok (.aload_n 0, 1) := by decide +kernel
theorem dX12_nextToken_1 : decode cX12_nextToken 1 = .ok (.getfield 154, 3) := by decide +kernel
theorem dX12_nextToken_4 : decode cX12_nextToken 4 = .ok (.aload_n 0, 1) := by decide +kernel
theorem dX12_nextToken_5 : decode cX12_nextToken 5 = .ok (.getfield 151, 3) := by decide +kernel
theorem dX12_nextToken_8 : decode cX12_nextToken 8 = .ok (.if_icmp .ge 44, 3) := by decide +kernel
theorem dX12_nextToken_11 : decode cX12_nextToken 11 = .ok (.aload_n 0, 1) := by decide +kernel
theorem dX12_nextToken_12 : decode cX12_nextToken 12 = .ok (.getfield 7, 3) := by decide +kernel
theorem dX12_nextToken_15 : decode cX12_nextToken 15 = .ok (.aload_n 0, 1) := by decide +kernel
theorem dX12_nextToken_16 : decode cX12_nextToken 16 = .ok (.getfield 154, 3) := by decide +kernel
theorem dX12_nextToken_19 : decode cX12_nextToken 19 = .ok (.iaload, 1) := by decide +kernel
theorem dX12_nextToken_20 : decode cX12_nextToken 20 = .ok (.bipush 32, 2) := by decide +kernel
theorem dX12_nextToken_22 : decode cX12_nextToken 22 = .ok (.if_icmp .eq 17, 3) := by decide +kernel
theorem dX12_nextToken_25 : decode cX12_nextToken 25 = .ok (.aload_n 0, 1) := by decide +kernel
theorem dX12_nextToken_26 : decode cX12_nextToken 26 = .ok (.getfield 7, 3) := by decide +kernel
theorem dX12_nextToken_29 : decode cX12_nextToken 29 = .ok (.aload_n 0, 1) := by decide +kernel
theorem dX12_nextToken_30 : decode cX12_nextToken 30 = .ok (.getfield 154, 3) := by decide +kernel
theorem dX12_nextToken_33 : decode cX12_nextToken 33 = .ok (.iaload, 1) := by decide +kernel
theorem dX12_nextToken_34 : decode cX12_nextToken 34 = .ok (.bipush 10, 2) := by decide +kernel
theorem dX12_nextToken_36 : decode cX12_nextToken 36 = .ok (.if_icmp .ne 16, 3) := by decide +kernel
theorem dX12_nextToken_39 : decode cX12_nextToken 39 = .ok (.aload_n 0, 1) := by decide +kernel
theorem dX12_nextToken_40 : decode cX12_nextToken 40 = .ok (.dup, 1) := by decide +kernel
theorem dX12_nextToken_41 : decode cX12_nextToken 41 = .ok (.getfield 154, 3) := by decide +kernel
theorem dX12_nextToken_44 : decode cX12_nextToken 44 = .ok (.iconst 1, 1) := by decide +kernel
theorem dX12_nextToken_45 : decode cX12_nextToken 45 = .ok (.iadd, 1) := by decide +kernel
theorem dX12_nextToken_46 : decode cX12_nextToken 46 = .ok (.putfield 154, 3) := by decide +kernel
theorem dX12_nextToken_49 : decode cX12_nextToken 49 = .ok (.goto (-49), 3) := by decide +kernel
theorem dX12_nextToken_52 : decode cX12_nextToken 52 = .ok (.aload_n 0, 1) := by decide +kernel
theorem dX12_nextToken_53 : decode cX12_nextToken 53 = .ok (.aload_n 0, 1) := by decide +kernel
theorem dX12_nextToken_54 : decode cX12_nextToken 54 = .ok (.getfield 154, 3) := by decide +kernel
theorem dX12_nextToken_57 : decode cX12_nextToken 57 = .ok (.putfield 157, 3) := by decide +kernel
theorem dX12_nextToken_60 : decode cX12_nextToken 60 = .ok (.aload_n 0, 1) := by decide +kernel
theorem dX12_nextToken_61 : decode cX12_nextToken 61 = .ok (.lconst 0, 1) := by decide +kernel
theorem dX12_nextToken_62 : decode cX12_nextToken 62 = .ok (.putfield 160, 3) := by decide +kernel
theorem dX12_nextToken_65 : decode cX12_nextToken 65 = .ok (.aload_n 0, 1) := by decide +kernel
theorem dX12_nextToken_66 : decode cX12_nextToken 66 = .ok (.iconst 0, 1) := by decide +kernel
theorem dX12_nextToken_67 : decode cX12_nextToken 67 = .ok (.putfield 164, 3) := by decide +kernel
theorem dX12_nextToken_70 : decode cX12_nextToken 70 = .ok (.aload_n 0, 1) := by decide +kernel
theorem dX12_nextToken_71 : decode cX12_nextToken 71 = .ok (.getfield 154, 3) := by decide +kernel
theorem dX12_nextToken_74 : decode cX12_nextToken 74 = .ok (.aload_n 0, 1) := by decide +kernel
theorem dX12_nextToken_75 : decode cX12_nextToken 75 = .ok (.getfield 151, 3) := by decide +kernel
theorem dX12_nextToken_78 : decode cX12_nextToken 78 = .ok (.if_icmp .ne 9, 3) := by decide +kernel
theorem dX12_nextToken_81 : decode cX12_nextToken 81 = .ok (.aload_n 0, 1) := by decide +kernel
theorem dX12_nextToken_82 : decode cX12_nextToken 82 = .ok (.iconst 0, 1) := by decide +kernel
theorem dX12_nextToken_83 : decode cX12_nextToken 83 = .ok (.putfield 167, 3) := by decide +kernel
theorem dX12_nextToken_86 : decode cX12_nextToken 86 = .ok (.return_, 1) := by decide +kernel
theorem dX12_nextToken_87 : decode cX12_nextToken 87 = .ok (.aload_n 0, 1) := by decide +kernel
theorem dX12_nextToken_88 : decode cX12_nextToken 88 = .ok (.getfield 7, 3) := by decide +kernel
theorem dX12_nextToken_91 : decode cX12_nextToken 91 = .ok (.aload_n 0, 1) := by decide +kernel
theorem dX12_nextToken_92 : decode cX12_nextToken 92 = .ok (.getfield 154, 3) := by decide +kernel
theorem dX12_nextToken_95 : decode cX12_nextToken 95 = .ok (.iaload, 1) := by decide +kernel
theorem dX12_nextToken_96 : decode cX12_nextToken 96 = .ok (.istore_n 1, 1) := by decide +kernel
theorem dX12_nextToken_97 : decode cX12_nextToken 97 = .ok (.iload_n 1, 1) := by decide +kernel
theorem dX12_nextToken_98 : decode cX12_nextToken 98 = .ok (.bipush 97, 2) := by decide +kernel
theorem dX12_nextToken_100 : decode cX12_nextToken 100 = .ok (.if_icmp .lt 112, 3) := by decide +kernel
theorem dX12_nextToken_103 : decode cX12_nextToken 103 = .ok (.iload_n 1, 1) := by decide +kernel
theorem dX12_nextToken_104 : decode cX12_nextToken 104 = .ok (.bipush 122, 2) := by decide +kernel
theorem dX12_nextToken_106 : decode cX12_nextToken 106 = .ok (.if_icmp .gt 106, 3) := by decide +kernel
theorem dX12_nextToken_109 : decode cX12_nextToken 109 = .ok (.aload_n 0, 1) := by decide +kernel
theorem dX12_nextToken_110 : decode cX12_nextToken 110 = .ok (.aload_n 0, 1) := by decide +kernel
theorem dX12_nextToken_111 : decode cX12_nextToken 111 = .ok (.getfield 154, 3) := by decide +kernel
theorem dX12_nextToken_114 : decode cX12_nextToken 114 = .ok (.invokevirtual 170, 3) := by decide +kernel
theorem dX12_nextToken_117 : decode cX12_nextToken 117 = .ok (.bipush 97, 2) := by decide +kernel
theorem dX12_nextToken_119 : decode cX12_nextToken 119 = .ok (.if_icmp .lt 69, 3) := by decide +kernel
theorem dX12_nextToken_122 : decode cX12_nextToken 122 = .ok (.aload_n 0, 1) := by decide +kernel
theorem dX12_nextToken_123 : decode cX12_nextToken 123 = .ok (.aload_n 0, 1) := by decide +kernel
theorem dX12_nextToken_124 : decode cX12_nextToken 124 = .ok (.getfield 154, 3) := by decide +kernel
theorem dX12_nextToken_127 : decode cX12_nextToken 127 = .ok (.invokevirtual 170, 3) := by decide +kernel
theorem dX12_nextToken_130 : decode cX12_nextToken 130 = .ok (.bipush 122, 2) := by decide +kernel
theorem dX12_nextToken_132 : decode cX12_nextToken 132 = .ok (.if_icmp .gt 56, 3) := by decide +kernel
theorem dX12_nextToken_135 : decode cX12_nextToken 135 = .ok (.aload_n 0, 1) := by decide +kernel
theorem dX12_nextToken_136 : decode cX12_nextToken 136 = .ok (.getfield 154, 3) := by decide +kernel
theorem dX12_nextToken_139 : decode cX12_nextToken 139 = .ok (.aload_n 0, 1) := by decide +kernel
theorem dX12_nextToken_140 : decode cX12_nextToken 140 = .ok (.getfield 157, 3) := by decide +kernel
theorem dX12_nextToken_143 : decode cX12_nextToken 143 = .ok (.isub, 1) := by decide +kernel
theorem dX12_nextToken_144 : decode cX12_nextToken 144 = .ok (.bipush 8, 2) := by decide +kernel
theorem dX12_nextToken_146 : decode cX12_nextToken 146 = .ok (.if_icmp .ge 29, 3) := by decide +kernel
theorem dX12_nextToken_149 : decode cX12_nextToken 149 = .ok (.aload_n 0, 1) := by decide +kernel
theorem dX12_nextToken_150 : decode cX12_nextToken 150 = .ok (.aload_n 0, 1) := by decide +kernel
theorem dX12_nextToken_151 : decode cX12_nextToken 151 = .ok (.getfield 160, 3) := by decide +kernel
theorem dX12_nextToken_154 : decode cX12_nextToken 154 = .ok (.ldc2_w 174, 3) := by decide +kernel
theorem dX12_nextToken_157 : decode cX12_nextToken 157 = .ok (.lmul, 1) := by decide +kernel
theorem dX12_nextToken_158 : decode cX12_nextToken 158 = .ok (.aload_n 0, 1) := by decide +kernel
theorem dX12_nextToken_159 : decode cX12_nextToken 159 = .ok (.aload_n 0, 1) := by decide +kernel
theorem dX12_nextToken_160 : decode cX12_nextToken 160 = .ok (.getfield 154, 3) := by decide +kernel
theorem dX12_nextToken_163 : decode cX12_nextToken 163 = .ok (.invokevirtual 170, 3) := by decide +kernel
theorem dX12_nextToken_166 : decode cX12_nextToken 166 = .ok (.i2l, 1) := by decide +kernel
theorem dX12_nextToken_167 : decode cX12_nextToken 167 = .ok (.ladd, 1) := by decide +kernel
theorem dX12_nextToken_168 : decode cX12_nextToken 168 = .ok (.ldc2_w 176, 3) := by decide +kernel
theorem dX12_nextToken_171 : decode cX12_nextToken 171 = .ok (.lsub, 1) := by decide +kernel
theorem dX12_nextToken_172 : decode cX12_nextToken 172 = .ok (.putfield 160, 3) := by decide +kernel
theorem dX12_nextToken_175 : decode cX12_nextToken 175 = .ok (.aload_n 0, 1) := by decide +kernel
theorem dX12_nextToken_176 : decode cX12_nextToken 176 = .ok (.dup, 1) := by decide +kernel
theorem dX12_nextToken_177 : decode cX12_nextToken 177 = .ok (.getfield 154, 3) := by decide +kernel
theorem dX12_nextToken_180 : decode cX12_nextToken 180 = .ok (.iconst 1, 1) := by decide +kernel
theorem dX12_nextToken_181 : decode cX12_nextToken 181 = .ok (.iadd, 1) := by decide +kernel
theorem dX12_nextToken_182 : decode cX12_nextToken 182 = .ok (.putfield 154, 3) := by decide +kernel
theorem dX12_nextToken_185 : decode cX12_nextToken 185 = .ok (.goto (-76), 3) := by decide +kernel
theorem dX12_nextToken_188 : decode cX12_nextToken 188 = .ok (.aload_n 0, 1) := by decide +kernel
theorem dX12_nextToken_189 : decode cX12_nextToken 189 = .ok (.aload_n 0, 1) := by decide +kernel
theorem dX12_nextToken_190 : decode cX12_nextToken 190 = .ok (.getfield 154, 3) := by decide +kernel
theorem dX12_nextToken_193 : decode cX12_nextToken 193 = .ok (.aload_n 0, 1) := by decide +kernel
theorem dX12_nextToken_194 : decode cX12_nextToken 194 = .ok (.getfield 157, 3) := by decide +kernel
theorem dX12_nextToken_197 : decode cX12_nextToken 197 = .ok (.isub, 1) := by decide +kernel
theorem dX12_nextToken_198 : decode cX12_nextToken 198 = .ok (.bipush 8, 2) := by decide +kernel
theorem dX12_nextToken_200 : decode cX12_nextToken 200 = .ok (.if_icmp .le 7, 3) := by decide +kernel
theorem dX12_nextToken_203 : decode cX12_nextToken 203 = .ok (.iconst 4, 1) := by decide +kernel
theorem dX12_nextToken_204 : decode cX12_nextToken 204 = .ok (.goto 4, 3) := by decide +kernel
theorem dX12_nextToken_207 : decode cX12_nextToken 207 = .ok (.iconst 1, 1) := by decide +kernel
theorem dX12_nextToken_208 : decode cX12_nextToken 208 = .ok (.putfield 167, 3) := by decide +kernel
theorem dX12_nextToken_211 : decode cX12_nextToken 211 = .ok (.return_, 1) := by decide +kernel
theorem dX12_nextToken_212 : decode cX12_nextToken 212 = .ok (.iload_n 1, 1) := by decide +kernel
theorem dX12_nextToken_213 : decode cX12_nextToken 213 = .ok (.bipush 48, 2) := by decide +kernel
theorem dX12_nextToken_215 : decode cX12_nextToken 215 = .ok (.if_icmp .lt 107, 3) := by decide +kernel
theorem dX12_nextToken_218 : decode cX12_nextToken 218 = .ok (.iload_n 1, 1) := by decide +kernel
theorem dX12_nextToken_219 : decode cX12_nextToken 219 = .ok (.bipush 57, 2) := by decide +kernel
theorem dX12_nextToken_221 : decode cX12_nextToken 221 = .ok (.if_icmp .gt 101, 3) := by decide +kernel
theorem dX12_nextToken_224 : decode cX12_nextToken 224 = .ok (.aload_n 0, 1) := by decide +kernel
theorem dX12_nextToken_225 : decode cX12_nextToken 225 = .ok (.aload_n 0, 1) := by decide +kernel
theorem dX12_nextToken_226 : decode cX12_nextToken 226 = .ok (.getfield 154, 3) := by decide +kernel
theorem dX12_nextToken_229 : decode cX12_nextToken 229 = .ok (.invokevirtual 170, 3) := by decide +kernel
theorem dX12_nextToken_232 : decode cX12_nextToken 232 = .ok (.bipush 48, 2) := by decide +kernel
theorem dX12_nextToken_234 : decode cX12_nextToken 234 = .ok (.if_icmp .lt 65, 3) := by decide +kernel
theorem dX12_nextToken_237 : decode cX12_nextToken 237 = .ok (.aload_n 0, 1) := by decide +kernel
theorem dX12_nextToken_238 : decode cX12_nextToken 238 = .ok (.aload_n 0, 1) := by decide +kernel
theorem dX12_nextToken_239 : decode cX12_nextToken 239 = .ok (.getfield 154, 3) := by decide +kernel
theorem dX12_nextToken_242 : decode cX12_nextToken 242 = .ok (.invokevirtual 170, 3) := by decide +kernel
theorem dX12_nextToken_245 : decode cX12_nextToken 245 = .ok (.bipush 57, 2) := by decide +kernel
theorem dX12_nextToken_247 : decode cX12_nextToken 247 = .ok (.if_icmp .gt 52, 3) := by decide +kernel
theorem dX12_nextToken_250 : decode cX12_nextToken 250 = .ok (.aload_n 0, 1) := by decide +kernel
theorem dX12_nextToken_251 : decode cX12_nextToken 251 = .ok (.getfield 154, 3) := by decide +kernel
theorem dX12_nextToken_254 : decode cX12_nextToken 254 = .ok (.aload_n 0, 1) := by decide +kernel
theorem dX12_nextToken_255 : decode cX12_nextToken 255 = .ok (.getfield 157, 3) := by decide +kernel
theorem dX12_nextToken_258 : decode cX12_nextToken 258 = .ok (.isub, 1) := by decide +kernel
theorem dX12_nextToken_259 : decode cX12_nextToken 259 = .ok (.iconst 4, 1) := by decide +kernel
theorem dX12_nextToken_260 : decode cX12_nextToken 260 = .ok (.if_icmp .ge 26, 3) := by decide +kernel
theorem dX12_nextToken_263 : decode cX12_nextToken 263 = .ok (.aload_n 0, 1) := by decide +kernel
theorem dX12_nextToken_264 : decode cX12_nextToken 264 = .ok (.aload_n 0, 1) := by decide +kernel
theorem dX12_nextToken_265 : decode cX12_nextToken 265 = .ok (.getfield 164, 3) := by decide +kernel
theorem dX12_nextToken_268 : decode cX12_nextToken 268 = .ok (.bipush 10, 2) := by decide +kernel
theorem dX12_nextToken_270 : decode cX12_nextToken 270 = .ok (.imul, 1) := by decide +kernel
theorem dX12_nextToken_271 : decode cX12_nextToken 271 = .ok (.aload_n 0, 1) := by decide +kernel
theorem dX12_nextToken_272 : decode cX12_nextToken 272 = .ok (.aload_n 0, 1) := by decide +kernel
theorem dX12_nextToken_273 : decode cX12_nextToken 273 = .ok (.getfield 154, 3) := by decide +kernel
theorem dX12_nextToken_276 : decode cX12_nextToken 276 = .ok (.invokevirtual 170, 3) := by decide +kernel
theorem dX12_nextToken_279 : decode cX12_nextToken 279 = .ok (.iadd, 1) := by decide +kernel
theorem dX12_nextToken_280 : decode cX12_nextToken 280 = .ok (.bipush 48, 2) := by decide +kernel
theorem dX12_nextToken_282 : decode cX12_nextToken 282 = .ok (.isub, 1) := by decide +kernel
theorem dX12_nextToken_283 : decode cX12_nextToken 283 = .ok (.putfield 164, 3) := by decide +kernel
theorem dX12_nextToken_286 : decode cX12_nextToken 286 = .ok (.aload_n 0, 1) := by decide +kernel
theorem dX12_nextToken_287 : decode cX12_nextToken 287 = .ok (.dup, 1) := by decide +kernel
theorem dX12_nextToken_288 : decode cX12_nextToken 288 = .ok (.getfield 154, 3) := by decide +kernel
theorem dX12_nextToken_291 : decode cX12_nextToken 291 = .ok (.iconst 1, 1) := by decide +kernel
theorem dX12_nextToken_292 : decode cX12_nextToken 292 = .ok (.iadd, 1) := by decide +kernel
theorem dX12_nextToken_293 : decode cX12_nextToken 293 = .ok (.putfield 154, 3) := by decide +kernel
theorem dX12_nextToken_296 : decode cX12_nextToken 296 = .ok (.goto (-72), 3) := by decide +kernel
theorem dX12_nextToken_299 : decode cX12_nextToken 299 = .ok (.aload_n 0, 1) := by decide +kernel
theorem dX12_nextToken_300 : decode cX12_nextToken 300 = .ok (.aload_n 0, 1) := by decide +kernel
theorem dX12_nextToken_301 : decode cX12_nextToken 301 = .ok (.getfield 154, 3) := by decide +kernel
theorem dX12_nextToken_304 : decode cX12_nextToken 304 = .ok (.aload_n 0, 1) := by decide +kernel
theorem dX12_nextToken_305 : decode cX12_nextToken 305 = .ok (.getfield 157, 3) := by decide +kernel
theorem dX12_nextToken_308 : decode cX12_nextToken 308 = .ok (.isub, 1) := by decide +kernel
theorem dX12_nextToken_309 : decode cX12_nextToken 309 = .ok (.iconst 4, 1) := by decide +kernel
theorem dX12_nextToken_310 : decode cX12_nextToken 310 = .ok (.if_icmp .le 7, 3) := by decide +kernel
theorem dX12_nextToken_313 : decode cX12_nextToken 313 = .ok (.iconst 4, 1) := by decide +kernel
theorem dX12_nextToken_314 : decode cX12_nextToken 314 = .ok (.goto 4, 3) := by decide +kernel
theorem dX12_nextToken_317 : decode cX12_nextToken 317 = .ok (.iconst 2, 1) := by decide +kernel
theorem dX12_nextToken_318 : decode cX12_nextToken 318 = .ok (.putfield 167, 3) := by decide +kernel
theorem dX12_nextToken_321 : decode cX12_nextToken 321 = .ok (.return_, 1) := by decide +kernel
theorem dX12_nextToken_322 : decode cX12_nextToken 322 = .ok (.aload_n 0, 1) := by decide +kernel
theorem dX12_nextToken_323 : decode cX12_nextToken 323 = .ok (.dup, 1) := by decide +kernel
theorem dX12_nextToken_324 : decode cX12_nextToken 324 = .ok (.getfield 154, 3) := by decide +kernel
theorem dX12_nextToken_327 : decode cX12_nextToken 327 = .ok (.iconst 1, 1) := by decide +kernel
theorem dX12_nextToken_328 : decode cX12_nextToken 328 = .ok (.iadd, 1) := by decide +kernel
theorem dX12_nextToken_329 : decode cX12_nextToken 329 = .ok (.putfield 154, 3) := by decide +kernel
theorem dX12_nextToken_332 : decode cX12_nextToken 332 = .ok (.aload_n 0, 1) := by decide +kernel
theorem dX12_nextToken_333 : decode cX12_nextToken 333 = .ok (.iload_n 1, 1) := by decide +kernel
theorem dX12_nextToken_334 : decode cX12_nextToken 334 = .ok (.bipush 40, 2) := by decide +kernel
theorem dX12_nextToken_336 : decode cX12_nextToken 336 = .ok (.if_icmp .lt 9, 3) := by decide +kernel
theorem dX12_nextToken_339 : decode cX12_nextToken 339 = .ok (.iload_n 1, 1) := by decide +kernel
theorem dX12_nextToken_340 : decode cX12_nextToken 340 = .ok (.bipush 43, 2) := by decide +kernel
theorem dX12_nextToken_342 : decode cX12_nextToken 342 = .ok (.if_icmp .le 21, 3) := by decide +kernel
theorem dX12_nextToken_345 : decode cX12_nextToken 345 = .ok (.iload_n 1, 1) := by decide +kernel
theorem dX12_nextToken_346 : decode cX12_nextToken 346 = .ok (.bipush 45, 2) := by decide +kernel
theorem dX12_nextToken_348 : decode cX12_nextToken 348 = .ok (.if_icmp .eq 15, 3) := by decide +kernel
theorem dX12_nextToken_351 : decode cX12_nextToken 351 = .ok (.iload_n 1, 1) := by decide +kernel
theorem dX12_nextToken_352 : decode cX12_nextToken 352 = .ok (.bipush 59, 2) := by decide +kernel
theorem dX12_nextToken_354 : decode cX12_nextToken 354 = .ok (.if_icmp .lt 13, 3) := by decide +kernel
theorem dX12_nextToken_357 : decode cX12_nextToken 357 = .ok (.iload_n 1, 1) := by decide +kernel
theorem dX12_nextToken_358 : decode cX12_nextToken 358 = .ok (.bipush 61, 2) := by decide +kernel
theorem dX12_nextToken_360 : decode cX12_nextToken 360 = .ok (.if_icmp .gt 7, 3) := by decide +kernel
theorem dX12_nextToken_363 : decode cX12_nextToken 363 = .ok (.iconst 3, 1) := by decide +kernel
theorem dX12_nextToken_364 : decode cX12_nextToken 364 = .ok (.goto 4, 3) := by decide +kernel
theorem dX12_nextToken_367 : decode cX12_nextToken 367 = .ok (.iconst 4, 1) := by decide +kernel
theorem dX12_nextToken_368 : decode cX12_nextToken 368 = .ok (.putfield 167, 3) := by decide +kernel
theorem dX12_nextToken_371 : decode cX12_nextToken 371 = .ok (.return_, 1) := by decide +kernel
theorem dX12_begins_0 : decode cX12_begins 0 = .ok (.aload_n 0, 1) := by decide +kernel
theorem dX12_begins_1 : decode cX12_begins 1 = .ok (.aload_n 0, 1) := by decide +kernel
theorem dX12_begins_2 : decode cX12_begins 2 = .ok (.getfield 148, 3) := by decide +kernel
theorem dX12_begins_5 : decode cX12_begins 5 = .ok (.putfield 151, 3) := by decide +kernel
theorem dX12_begins_8 : decode cX12_begins 8 = .ok (.aload_n 0, 1) := by decide +kernel
theorem dX12_begins_9 : decode cX12_begins 9 = .ok (.iconst 0, 1) := by decide +kernel
theorem dX12_begins_10 : decode cX12_begins 10 = .ok (.putfield 148, 3) := by decide +kernel
theorem dX12_begins_13 : decode cX12_begins 13 = .ok (.aload_n 0, 1) := by decide +kernel
theorem dX12_begins_14 : decode cX12_begins 14 = .ok (.iconst 0, 1) := by decide +kernel
theorem dX12_begins_15 : decode cX12_begins 15 = .ok (.putfield 154, 3) := by decide +kernel
theorem dX12_begins_18 : decode cX12_begins 18 = .ok (.aload_n 0, 1) := by decide +kernel
theorem dX12_begins_19 : decode cX12_begins 19 = .ok (.invokevirtual 212, 3) := by decide +kernel
theorem dX12_begins_22 : decode cX12_begins 22 = .ok (.return_, 1) := by decide +kernel
theorem dX12_readsAll_0 : decode cX12_readsAll 0 = .ok (.aload_n 0, 1) := by decide +kernel
theorem dX12_readsAll_1 : decode cX12_readsAll 1 = .ok (.iconst 1, 1) := by decide +kernel
theorem dX12_readsAll_2 : decode cX12_readsAll 2 = .ok (.invokevirtual 139, 3) := by decide +kernel
theorem dX12_readsAll_5 : decode cX12_readsAll 5 = .ok (.iconst 2, 1) := by decide +kernel
theorem dX12_readsAll_6 : decode cX12_readsAll 6 = .ok (.istore_n 1, 1) := by decide +kernel
theorem dX12_readsAll_7 : decode cX12_readsAll 7 = .ok (.iload_n 1, 1) := by decide +kernel
theorem dX12_readsAll_8 : decode cX12_readsAll 8 = .ok (.iconst 4, 1) := by decide +kernel
theorem dX12_readsAll_9 : decode cX12_readsAll 9 = .ok (.if_icmp .ge 27, 3) := by decide +kernel
theorem dX12_readsAll_12 : decode cX12_readsAll 12 = .ok (.aload_n 0, 1) := by decide +kernel
theorem dX12_readsAll_13 : decode cX12_readsAll 13 = .ok (.getfield 35, 3) := by decide +kernel
theorem dX12_readsAll_16 : decode cX12_readsAll 16 = .ok (.iload_n 1, 1) := by decide +kernel
theorem dX12_readsAll_17 : decode cX12_readsAll 17 = .ok (.sipush 1000, 3) := by decide +kernel
theorem dX12_readsAll_20 : decode cX12_readsAll 20 = .ok (.iastore, 1) := by decide +kernel
theorem dX12_readsAll_21 : decode cX12_readsAll 21 = .ok (.aload_n 0, 1) := by decide +kernel
theorem dX12_readsAll_22 : decode cX12_readsAll 22 = .ok (.getfield 38, 3) := by decide +kernel
theorem dX12_readsAll_25 : decode cX12_readsAll 25 = .ok (.iload_n 1, 1) := by decide +kernel
theorem dX12_readsAll_26 : decode cX12_readsAll 26 = .ok (.sipush 1000, 3) := by decide +kernel
theorem dX12_readsAll_29 : decode cX12_readsAll 29 = .ok (.iastore, 1) := by decide +kernel
theorem dX12_readsAll_30 : decode cX12_readsAll 30 = .ok (.iinc 1 1, 3) := by decide +kernel
theorem dX12_readsAll_33 : decode cX12_readsAll 33 = .ok (.goto (-26), 3) := by decide +kernel
theorem dX12_readsAll_36 : decode cX12_readsAll 36 = .ok (.aload_n 0, 1) := by decide +kernel
theorem dX12_readsAll_37 : decode cX12_readsAll 37 = .ok (.iconst 0, 1) := by decide +kernel
theorem dX12_readsAll_38 : decode cX12_readsAll 38 = .ok (.putfield 299, 3) := by decide +kernel
theorem dX12_readsAll_41 : decode cX12_readsAll 41 = .ok (.aload_n 0, 1) := by decide +kernel
theorem dX12_readsAll_42 : decode cX12_readsAll 42 = .ok (.sipush 1000, 3) := by decide +kernel
theorem dX12_readsAll_45 : decode cX12_readsAll 45 = .ok (.putfield 181, 3) := by decide +kernel
theorem dX12_readsAll_48 : decode cX12_readsAll 48 = .ok (.aload_n 0, 1) := by decide +kernel
theorem dX12_readsAll_49 : decode cX12_readsAll 49 = .ok (.invokevirtual 305, 3) := by decide +kernel
theorem dX12_readsAll_52 : decode cX12_readsAll 52 = .ok (.aload_n 0, 1) := by decide +kernel
theorem dX12_readsAll_53 : decode cX12_readsAll 53 = .ok (.getfield 167, 3) := by decide +kernel
theorem dX12_readsAll_56 : decode cX12_readsAll 56 = .ok (.ifCond .eq 168, 3) := by decide +kernel
theorem dX12_readsAll_59 : decode cX12_readsAll 59 = .ok (.aload_n 0, 1) := by decide +kernel
theorem dX12_readsAll_60 : decode cX12_readsAll 60 = .ok (.ldc2_w 228, 3) := by decide +kernel
theorem dX12_readsAll_63 : decode cX12_readsAll 63 = .ok (.invokevirtual 198, 3) := by decide +kernel
theorem dX12_readsAll_66 : decode cX12_readsAll 66 = .ok (.ifCond .eq 10, 3) := by decide +kernel
theorem dX12_readsAll_69 : decode cX12_readsAll 69 = .ok (.aload_n 0, 1) := by decide +kernel
theorem dX12_readsAll_70 : decode cX12_readsAll 70 = .ok (.invokevirtual 308, 3) := by decide +kernel
theorem dX12_readsAll_73 : decode cX12_readsAll 73 = .ok (.goto 141, 3) := by decide +kernel
theorem dX12_readsAll_76 : decode cX12_readsAll 76 = .ok (.aload_n 0, 1) := by decide +kernel
theorem dX12_readsAll_77 : decode cX12_readsAll 77 = .ok (.ldc2_w 234, 3) := by decide +kernel
theorem dX12_readsAll_80 : decode cX12_readsAll 80 = .ok (.invokevirtual 198, 3) := by decide +kernel
theorem dX12_readsAll_83 : decode cX12_readsAll 83 = .ok (.ifCond .eq 10, 3) := by decide +kernel
theorem dX12_readsAll_86 : decode cX12_readsAll 86 = .ok (.aload_n 0, 1) := by decide +kernel
theorem dX12_readsAll_87 : decode cX12_readsAll 87 = .ok (.invokevirtual 311, 3) := by decide +kernel
theorem dX12_readsAll_90 : decode cX12_readsAll 90 = .ok (.goto 124, 3) := by decide +kernel
theorem dX12_readsAll_93 : decode cX12_readsAll 93 = .ok (.aload_n 0, 1) := by decide +kernel
theorem dX12_readsAll_94 : decode cX12_readsAll 94 = .ok (.ldc2_w 236, 3) := by decide +kernel
theorem dX12_readsAll_97 : decode cX12_readsAll 97 = .ok (.invokevirtual 198, 3) := by decide +kernel
theorem dX12_readsAll_100 : decode cX12_readsAll 100 = .ok (.ifCond .eq 10, 3) := by decide +kernel
theorem dX12_readsAll_103 : decode cX12_readsAll 103 = .ok (.aload_n 0, 1) := by decide +kernel
theorem dX12_readsAll_104 : decode cX12_readsAll 104 = .ok (.invokevirtual 314, 3) := by decide +kernel
theorem dX12_readsAll_107 : decode cX12_readsAll 107 = .ok (.goto 107, 3) := by decide +kernel
theorem dX12_readsAll_110 : decode cX12_readsAll 110 = .ok (.aload_n 0, 1) := by decide +kernel
theorem dX12_readsAll_111 : decode cX12_readsAll 111 = .ok (.ldc2_w 238, 3) := by decide +kernel
theorem dX12_readsAll_114 : decode cX12_readsAll 114 = .ok (.invokevirtual 198, 3) := by decide +kernel
theorem dX12_readsAll_117 : decode cX12_readsAll 117 = .ok (.ifCond .eq 14, 3) := by decide +kernel
theorem dX12_readsAll_120 : decode cX12_readsAll 120 = .ok (.aload_n 0, 1) := by decide +kernel
theorem dX12_readsAll_121 : decode cX12_readsAll 121 = .ok (.iconst 2, 1) := by decide +kernel
theorem dX12_readsAll_122 : decode cX12_readsAll 122 = .ok (.iconst 2, 1) := by decide +kernel
theorem dX12_readsAll_123 : decode cX12_readsAll 123 = .ok (.bipush 12, 2) := by decide +kernel
theorem dX12_readsAll_125 : decode cX12_readsAll 125 = .ok (.invokevirtual 317, 3) := by decide +kernel
theorem dX12_readsAll_128 : decode cX12_readsAll 128 = .ok (.goto 86, 3) := by decide +kernel
theorem dX12_readsAll_131 : decode cX12_readsAll 131 = .ok (.aload_n 0, 1) := by decide +kernel
theorem dX12_readsAll_132 : decode cX12_readsAll 132 = .ok (.ldc2_w 240, 3) := by decide +kernel
theorem dX12_readsAll_135 : decode cX12_readsAll 135 = .ok (.invokevirtual 198, 3) := by decide +kernel
theorem dX12_readsAll_138 : decode cX12_readsAll 138 = .ok (.ifCond .eq 14, 3) := by decide +kernel
theorem dX12_readsAll_141 : decode cX12_readsAll 141 = .ok (.aload_n 0, 1) := by decide +kernel
theorem dX12_readsAll_142 : decode cX12_readsAll 142 = .ok (.iconst 3, 1) := by decide +kernel
theorem dX12_readsAll_143 : decode cX12_readsAll 143 = .ok (.iconst 0, 1) := by decide +kernel
theorem dX12_readsAll_144 : decode cX12_readsAll 144 = .ok (.bipush 20, 2) := by decide +kernel
theorem dX12_readsAll_146 : decode cX12_readsAll 146 = .ok (.invokevirtual 317, 3) := by decide +kernel
theorem dX12_readsAll_149 : decode cX12_readsAll 149 = .ok (.goto 65, 3) := by decide +kernel
theorem dX12_readsAll_152 : decode cX12_readsAll 152 = .ok (.aload_n 0, 1) := by decide +kernel
theorem dX12_readsAll_153 : decode cX12_readsAll 153 = .ok (.ldc2_w 242, 3) := by decide +kernel
theorem dX12_readsAll_156 : decode cX12_readsAll 156 = .ok (.invokevirtual 198, 3) := by decide +kernel
theorem dX12_readsAll_159 : decode cX12_readsAll 159 = .ok (.ifCond .eq 14, 3) := by decide +kernel
theorem dX12_readsAll_162 : decode cX12_readsAll 162 = .ok (.aload_n 0, 1) := by decide +kernel
theorem dX12_readsAll_163 : decode cX12_readsAll 163 = .ok (.iconst 4, 1) := by decide +kernel
theorem dX12_readsAll_164 : decode cX12_readsAll 164 = .ok (.iconst 1, 1) := by decide +kernel
theorem dX12_readsAll_165 : decode cX12_readsAll 165 = .ok (.bipush 6, 2) := by decide +kernel
theorem dX12_readsAll_167 : decode cX12_readsAll 167 = .ok (.invokevirtual 317, 3) := by decide +kernel
theorem dX12_readsAll_170 : decode cX12_readsAll 170 = .ok (.goto 44, 3) := by decide +kernel
theorem dX12_readsAll_173 : decode cX12_readsAll 173 = .ok (.aload_n 0, 1) := by decide +kernel
theorem dX12_readsAll_174 : decode cX12_readsAll 174 = .ok (.ldc2_w 244, 3) := by decide +kernel
theorem dX12_readsAll_177 : decode cX12_readsAll 177 = .ok (.invokevirtual 198, 3) := by decide +kernel
theorem dX12_readsAll_180 : decode cX12_readsAll 180 = .ok (.ifCond .eq 11, 3) := by decide +kernel
theorem dX12_readsAll_183 : decode cX12_readsAll 183 = .ok (.aload_n 0, 1) := by decide +kernel
theorem dX12_readsAll_184 : decode cX12_readsAll 184 = .ok (.iconst 0, 1) := by decide +kernel
theorem dX12_readsAll_185 : decode cX12_readsAll 185 = .ok (.invokevirtual 320, 3) := by decide +kernel
theorem dX12_readsAll_188 : decode cX12_readsAll 188 = .ok (.goto 26, 3) := by decide +kernel
theorem dX12_readsAll_191 : decode cX12_readsAll 191 = .ok (.aload_n 0, 1) := by decide +kernel
theorem dX12_readsAll_192 : decode cX12_readsAll 192 = .ok (.ldc2_w 246, 3) := by decide +kernel
theorem dX12_readsAll_195 : decode cX12_readsAll 195 = .ok (.invokevirtual 198, 3) := by decide +kernel
theorem dX12_readsAll_198 : decode cX12_readsAll 198 = .ok (.ifCond .eq 11, 3) := by decide +kernel
theorem dX12_readsAll_201 : decode cX12_readsAll 201 = .ok (.aload_n 0, 1) := by decide +kernel
theorem dX12_readsAll_202 : decode cX12_readsAll 202 = .ok (.iconst 1, 1) := by decide +kernel
theorem dX12_readsAll_203 : decode cX12_readsAll 203 = .ok (.invokevirtual 320, 3) := by decide +kernel
theorem dX12_readsAll_206 : decode cX12_readsAll 206 = .ok (.goto 8, 3) := by decide +kernel
theorem dX12_readsAll_209 : decode cX12_readsAll 209 = .ok (.aload_n 0, 1) := by decide +kernel
theorem dX12_readsAll_210 : decode cX12_readsAll 210 = .ok (.iconst 1, 1) := by decide +kernel
theorem dX12_readsAll_211 : decode cX12_readsAll 211 = .ok (.invokevirtual 206, 3) := by decide +kernel
theorem dX12_readsAll_214 : decode cX12_readsAll 214 = .ok (.istore_n 1, 1) := by decide +kernel
theorem dX12_readsAll_215 : decode cX12_readsAll 215 = .ok (.iload_n 1, 1) := by decide +kernel
theorem dX12_readsAll_216 : decode cX12_readsAll 216 = .ok (.ifCond .ne 5, 3) := by decide +kernel
theorem dX12_readsAll_219 : decode cX12_readsAll 219 = .ok (.iconst 0, 1) := by decide +kernel
theorem dX12_readsAll_220 : decode cX12_readsAll 220 = .ok (.ireturn, 1) := by decide +kernel
theorem dX12_readsAll_221 : decode cX12_readsAll 221 = .ok (.goto (-169), 3) := by decide +kernel
theorem dX12_readsAll_224 : decode cX12_readsAll 224 = .ok (.iconst 1, 1) := by decide +kernel
theorem dX12_readsAll_225 : decode cX12_readsAll 225 = .ok (.ireturn, 1) := by decide +kernel
theorem dX12_lays_0 : decode cX12_lays 0 = .ok (.aload_n 0, 1) := by decide +kernel
theorem dX12_lays_1 : decode cX12_lays 1 = .ok (.getfield 13, 3) := by decide +kernel
theorem dX12_lays_4 : decode cX12_lays 4 = .ok (.iconst 5, 1) := by decide +kernel
theorem dX12_lays_5 : decode cX12_lays 5 = .ok (.invokestatic 323, 3) := by decide +kernel
theorem dX12_lays_8 : decode cX12_lays 8 = .ok (.aload_n 0, 1) := by decide +kernel
theorem dX12_lays_9 : decode cX12_lays 9 = .ok (.getfield 16, 3) := by decide +kernel
theorem dX12_lays_12 : decode cX12_lays 12 = .ok (.bipush 8, 2) := by decide +kernel
theorem dX12_lays_14 : decode cX12_lays 14 = .ok (.invokestatic 327, 3) := by decide +kernel
theorem dX12_lays_17 : decode cX12_lays 17 = .ok (.aload_n 0, 1) := by decide +kernel
theorem dX12_lays_18 : decode cX12_lays 18 = .ok (.getfield 20, 3) := by decide +kernel
theorem dX12_lays_21 : decode cX12_lays 21 = .ok (.iconst 5, 1) := by decide +kernel
theorem dX12_lays_22 : decode cX12_lays 22 = .ok (.invokestatic 327, 3) := by decide +kernel
theorem dX12_lays_25 : decode cX12_lays 25 = .ok (.aload_n 0, 1) := by decide +kernel
theorem dX12_lays_26 : decode cX12_lays 26 = .ok (.getfield 23, 3) := by decide +kernel
theorem dX12_lays_29 : decode cX12_lays 29 = .ok (.bipush 8, 2) := by decide +kernel
theorem dX12_lays_31 : decode cX12_lays 31 = .ok (.invokestatic 323, 3) := by decide +kernel
theorem dX12_lays_34 : decode cX12_lays 34 = .ok (.aload_n 0, 1) := by decide +kernel
theorem dX12_lays_35 : decode cX12_lays 35 = .ok (.getfield 26, 3) := by decide +kernel
theorem dX12_lays_38 : decode cX12_lays 38 = .ok (.bipush 8, 2) := by decide +kernel
theorem dX12_lays_40 : decode cX12_lays 40 = .ok (.invokestatic 323, 3) := by decide +kernel
theorem dX12_lays_43 : decode cX12_lays 43 = .ok (.aload_n 0, 1) := by decide +kernel
theorem dX12_lays_44 : decode cX12_lays 44 = .ok (.getfield 29, 3) := by decide +kernel
theorem dX12_lays_47 : decode cX12_lays 47 = .ok (.bipush 8, 2) := by decide +kernel
theorem dX12_lays_49 : decode cX12_lays 49 = .ok (.invokestatic 323, 3) := by decide +kernel
theorem dX12_lays_52 : decode cX12_lays 52 = .ok (.aload_n 0, 1) := by decide +kernel
theorem dX12_lays_53 : decode cX12_lays 53 = .ok (.getfield 32, 3) := by decide +kernel
theorem dX12_lays_56 : decode cX12_lays 56 = .ok (.iconst 5, 1) := by decide +kernel
theorem dX12_lays_57 : decode cX12_lays 57 = .ok (.invokestatic 323, 3) := by decide +kernel
theorem dX12_lays_60 : decode cX12_lays 60 = .ok (.aload_n 0, 1) := by decide +kernel
theorem dX12_lays_61 : decode cX12_lays 61 = .ok (.getfield 41, 3) := by decide +kernel
theorem dX12_lays_64 : decode cX12_lays 64 = .ok (.sipush 1000, 3) := by decide +kernel
theorem dX12_lays_67 : decode cX12_lays 67 = .ok (.invokestatic 323, 3) := by decide +kernel
theorem dX12_lays_70 : decode cX12_lays 70 = .ok (.iconst 0, 1) := by decide +kernel
theorem dX12_lays_71 : decode cX12_lays 71 = .ok (.istore_n 1, 1) := by decide +kernel
theorem dX12_lays_72 : decode cX12_lays 72 = .ok (.iload_n 1, 1) := by decide +kernel
theorem dX12_lays_73 : decode cX12_lays 73 = .ok (.iconst 2, 1) := by decide +kernel
theorem dX12_lays_74 : decode cX12_lays 74 = .ok (.if_icmp .ge 45, 3) := by decide +kernel
theorem dX12_lays_77 : decode cX12_lays 77 = .ok (.aload_n 0, 1) := by decide +kernel
theorem dX12_lays_78 : decode cX12_lays 78 = .ok (.getfield 35, 3) := by decide +kernel
theorem dX12_lays_81 : decode cX12_lays 81 = .ok (.iload_n 1, 1) := by decide +kernel
theorem dX12_lays_82 : decode cX12_lays 82 = .ok (.aload_n 0, 1) := by decide +kernel
theorem dX12_lays_83 : decode cX12_lays 83 = .ok (.getfield 35, 3) := by decide +kernel
theorem dX12_lays_86 : decode cX12_lays 86 = .ok (.iconst 2, 1) := by decide +kernel
theorem dX12_lays_87 : decode cX12_lays 87 = .ok (.iload_n 1, 1) := by decide +kernel
theorem dX12_lays_88 : decode cX12_lays 88 = .ok (.iadd, 1) := by decide +kernel
theorem dX12_lays_89 : decode cX12_lays 89 = .ok (.iaload, 1) := by decide +kernel
theorem dX12_lays_90 : decode cX12_lays 90 = .ok (.sipush 1000, 3) := by decide +kernel
theorem dX12_lays_93 : decode cX12_lays 93 = .ok (.isub, 1) := by decide +kernel
theorem dX12_lays_94 : decode cX12_lays 94 = .ok (.iastore, 1) := by decide +kernel
theorem dX12_lays_95 : decode cX12_lays 95 = .ok (.aload_n 0, 1) := by decide +kernel
theorem dX12_lays_96 : decode cX12_lays 96 = .ok (.getfield 38, 3) := by decide +kernel
theorem dX12_lays_99 : decode cX12_lays 99 = .ok (.iload_n 1, 1) := by decide +kernel
theorem dX12_lays_100 : decode cX12_lays 100 = .ok (.aload_n 0, 1) := by decide +kernel
theorem dX12_lays_101 : decode cX12_lays 101 = .ok (.getfield 38, 3) := by decide +kernel
theorem dX12_lays_104 : decode cX12_lays 104 = .ok (.iconst 2, 1) := by decide +kernel
theorem dX12_lays_105 : decode cX12_lays 105 = .ok (.iload_n 1, 1) := by decide +kernel
theorem dX12_lays_106 : decode cX12_lays 106 = .ok (.iadd, 1) := by decide +kernel
theorem dX12_lays_107 : decode cX12_lays 107 = .ok (.iaload, 1) := by decide +kernel
theorem dX12_lays_108 : decode cX12_lays 108 = .ok (.sipush 1000, 3) := by decide +kernel
theorem dX12_lays_111 : decode cX12_lays 111 = .ok (.isub, 1) := by decide +kernel
theorem dX12_lays_112 : decode cX12_lays 112 = .ok (.iastore, 1) := by decide +kernel
theorem dX12_lays_113 : decode cX12_lays 113 = .ok (.iinc 1 1, 3) := by decide +kernel
theorem dX12_lays_116 : decode cX12_lays 116 = .ok (.goto (-44), 3) := by decide +kernel
theorem dX12_lays_119 : decode cX12_lays 119 = .ok (.return_, 1) := by decide +kernel
theorem dX12_abbey_0 : decode cX12_abbey 0 = .ok (.aload_n 0, 1) := by decide +kernel
theorem dX12_abbey_1 : decode cX12_abbey 1 = .ok (.iconst 0, 1) := by decide +kernel
theorem dX12_abbey_2 : decode cX12_abbey 2 = .ok (.putfield 143, 3) := by decide +kernel
theorem dX12_abbey_5 : decode cX12_abbey 5 = .ok (.aload_n 0, 1) := by decide +kernel
theorem dX12_abbey_6 : decode cX12_abbey 6 = .ok (.invokevirtual 331, 3) := by decide +kernel
theorem dX12_abbey_9 : decode cX12_abbey 9 = .ok (.ifCond .ne 8, 3) := by decide +kernel
theorem dX12_abbey_12 : decode cX12_abbey 12 = .ok (.aload_n 0, 1) := by decide +kernel
theorem dX12_abbey_13 : decode cX12_abbey 13 = .ok (.getfield 178, 3) := by decide +kernel
theorem dX12_abbey_16 : decode cX12_abbey 16 = .ok (.ireturn, 1) := by decide +kernel
theorem dX12_abbey_17 : decode cX12_abbey 17 = .ok (.aload_n 0, 1) := by decide +kernel
theorem dX12_abbey_18 : decode cX12_abbey 18 = .ok (.invokevirtual 334, 3) := by decide +kernel
theorem dX12_abbey_21 : decode cX12_abbey 21 = .ok (.aload_n 0, 1) := by decide +kernel
theorem dX12_abbey_22 : decode cX12_abbey 22 = .ok (.invokevirtual 337, 3) := by decide +kernel
theorem dX12_abbey_25 : decode cX12_abbey 25 = .ok (.aload_n 0, 1) := by decide +kernel
theorem dX12_abbey_26 : decode cX12_abbey 26 = .ok (.getfield 81, 3) := by decide +kernel
theorem dX12_abbey_29 : decode cX12_abbey 29 = .ok (.iconst 0, 1) := by decide +kernel
theorem dX12_abbey_30 : decode cX12_abbey 30 = .ok (.iconst 0, 1) := by decide +kernel
theorem dX12_abbey_31 : decode cX12_abbey 31 = .ok (.iastore, 1) := by decide +kernel
theorem dX12_abbey_32 : decode cX12_abbey 32 = .ok (.aload_n 0, 1) := by decide +kernel
theorem dX12_abbey_33 : decode cX12_abbey 33 = .ok (.getfield 93, 3) := by decide +kernel
theorem dX12_abbey_36 : decode cX12_abbey 36 = .ok (.iconst 0, 1) := by decide +kernel
theorem dX12_abbey_37 : decode cX12_abbey 37 = .ok (.iconst 0, 1) := by decide +kernel
theorem dX12_abbey_38 : decode cX12_abbey 38 = .ok (.iastore, 1) := by decide +kernel
theorem dX12_abbey_39 : decode cX12_abbey 39 = .ok (.aload_n 0, 1) := by decide +kernel
theorem dX12_abbey_40 : decode cX12_abbey 40 = .ok (.iconst 0, 1) := by decide +kernel
theorem dX12_abbey_41 : decode cX12_abbey 41 = .ok (.putfield 339, 3) := by decide +kernel
theorem dX12_abbey_44 : decode cX12_abbey 44 = .ok (.iconst 0, 1) := by decide +kernel
theorem dX12_abbey_45 : decode cX12_abbey 45 = .ok (.istore_n 1, 1) := by decide +kernel
theorem dX12_abbey_46 : decode cX12_abbey 46 = .ok (.iload_n 1, 1) := by decide +kernel
theorem dX12_abbey_47 : decode cX12_abbey 47 = .ok (.iconst 4, 1) := by decide +kernel
theorem dX12_abbey_48 : decode cX12_abbey 48 = .ok (.if_icmp .ge 16, 3) := by decide +kernel
theorem dX12_abbey_51 : decode cX12_abbey 51 = .ok (.aload_n 0, 1) := by decide +kernel
theorem dX12_abbey_52 : decode cX12_abbey 52 = .ok (.getfield 117, 3) := by decide +kernel
theorem dX12_abbey_55 : decode cX12_abbey 55 = .ok (.iload_n 1, 1) := by decide +kernel
theorem dX12_abbey_56 : decode cX12_abbey 56 = .ok (.iconst 0, 1) := by decide +kernel
theorem dX12_abbey_57 : decode cX12_abbey 57 = .ok (.bastore, 1) := by decide +kernel
theorem dX12_abbey_58 : decode cX12_abbey 58 = .ok (.iinc 1 1, 3) := by decide +kernel
theorem dX12_abbey_61 : decode cX12_abbey 61 = .ok (.goto (-15), 3) := by decide +kernel
theorem dX12_abbey_64 : decode cX12_abbey 64 = .ok (.iconst 0, 1) := by decide +kernel
theorem dX12_abbey_65 : decode cX12_abbey 65 = .ok (.ireturn, 1) := by decide +kernel
theorem dX12_years_0 : decode cX12_years 0 = .ok (.aload_n 0, 1) := by decide +kernel
theorem dX12_years_1 : decode cX12_years 1 = .ok (.iconst 0, 1) := by decide +kernel
theorem dX12_years_2 : decode cX12_years 2 = .ok (.putfield 143, 3) := by decide +kernel
theorem dX12_years_5 : decode cX12_years 5 = .ok (.aload_n 0, 1) := by decide +kernel
theorem dX12_years_6 : decode cX12_years 6 = .ok (.getfield 81, 3) := by decide +kernel
theorem dX12_years_9 : decode cX12_years 9 = .ok (.iconst 5, 1) := by decide +kernel
theorem dX12_years_10 : decode cX12_years 10 = .ok (.iconst 0, 1) := by decide +kernel
theorem dX12_years_11 : decode cX12_years 11 = .ok (.iastore, 1) := by decide +kernel
theorem dX12_years_12 : decode cX12_years 12 = .ok (.aload_n 0, 1) := by decide +kernel
theorem dX12_years_13 : decode cX12_years 13 = .ok (.invokevirtual 305, 3) := by decide +kernel
theorem dX12_years_16 : decode cX12_years 16 = .ok (.aload_n 0, 1) := by decide +kernel
theorem dX12_years_17 : decode cX12_years 17 = .ok (.getfield 167, 3) := by decide +kernel
theorem dX12_years_20 : decode cX12_years 20 = .ok (.ifCond .eq 15, 3) := by decide +kernel
theorem dX12_years_23 : decode cX12_years 23 = .ok (.aload_n 0, 1) := by decide +kernel
theorem dX12_years_24 : decode cX12_years 24 = .ok (.invokevirtual 342, 3) := by decide +kernel
theorem dX12_years_27 : decode cX12_years 27 = .ok (.ifCond .ne (-11), 3) := by decide +kernel
theorem dX12_years_30 : decode cX12_years 30 = .ok (.aload_n 0, 1) := by decide +kernel
theorem dX12_years_31 : decode cX12_years 31 = .ok (.getfield 178, 3) := by decide +kernel
theorem dX12_years_34 : decode cX12_years 34 = .ok (.ireturn, 1) := by decide +kernel
theorem dX12_years_35 : decode cX12_years 35 = .ok (.aload_n 0, 1) := by decide +kernel
theorem dX12_years_36 : decode cX12_years 36 = .ok (.iconst 5, 1) := by decide +kernel
theorem dX12_years_37 : decode cX12_years 37 = .ok (.iconst 0, 1) := by decide +kernel
theorem dX12_years_38 : decode cX12_years 38 = .ok (.invokevirtual 345, 3) := by decide +kernel
theorem dX12_years_41 : decode cX12_years 41 = .ok (.iconst 0, 1) := by decide +kernel
theorem dX12_years_42 : decode cX12_years 42 = .ok (.ireturn, 1) := by decide +kernel
theorem dX12_judges_0 : decode cX12_judges 0 = .ok (.aload_n 0, 1) := by decide +kernel
theorem dX12_judges_1 : decode cX12_judges 1 = .ok (.getfield 102, 3) := by decide +kernel
theorem dX12_judges_4 : decode cX12_judges 4 = .ok (.iconst 0, 1) := by decide +kernel
theorem dX12_judges_5 : decode cX12_judges 5 = .ok (.aload_n 0, 1) := by decide +kernel
theorem dX12_judges_6 : decode cX12_judges 6 = .ok (.getfield 105, 3) := by decide +kernel
theorem dX12_judges_9 : decode cX12_judges 9 = .ok (.iconst 0, 1) := by decide +kernel
theorem dX12_judges_10 : decode cX12_judges 10 = .ok (.invokestatic 393, 3) := by decide +kernel
theorem dX12_judges_13 : decode cX12_judges 13 = .ok (.aload_n 0, 1) := by decide +kernel
theorem dX12_judges_14 : decode cX12_judges 14 = .ok (.invokevirtual 337, 3) := by decide +kernel
theorem dX12_judges_17 : decode cX12_judges 17 = .ok (.aload_n 0, 1) := by decide +kernel
theorem dX12_judges_18 : decode cX12_judges 18 = .ok (.iload_n 1, 1) := by decide +kernel
theorem dX12_judges_19 : decode cX12_judges 19 = .ok (.putfield 120, 3) := by decide +kernel
theorem dX12_judges_22 : decode cX12_judges 22 = .ok (.aload_n 0, 1) := by decide +kernel
theorem dX12_judges_23 : decode cX12_judges 23 = .ok (.iconst (-1), 1) := by decide +kernel
theorem dX12_judges_24 : decode cX12_judges 24 = .ok (.putfield 418, 3) := by decide +kernel
theorem dX12_judges_27 : decode cX12_judges 27 = .ok (.aload_n 0, 1) := by decide +kernel
theorem dX12_judges_28 : decode cX12_judges 28 = .ok (.iconst (-1), 1) := by decide +kernel
theorem dX12_judges_29 : decode cX12_judges 29 = .ok (.putfield 415, 3) := by decide +kernel
theorem dX12_judges_32 : decode cX12_judges 32 = .ok (.aload_n 0, 1) := by decide +kernel
theorem dX12_judges_33 : decode cX12_judges 33 = .ok (.iconst 0, 1) := by decide +kernel
theorem dX12_judges_34 : decode cX12_judges 34 = .ok (.putfield 412, 3) := by decide +kernel
theorem dX12_judges_37 : decode cX12_judges 37 = .ok (.iconst 0, 1) := by decide +kernel
theorem dX12_judges_38 : decode cX12_judges 38 = .ok (.istore_n 2, 1) := by decide +kernel
theorem dX12_judges_39 : decode cX12_judges 39 = .ok (.iload_n 2, 1) := by decide +kernel
theorem dX12_judges_40 : decode cX12_judges 40 = .ok (.aload_n 0, 1) := by decide +kernel
theorem dX12_judges_41 : decode cX12_judges 41 = .ok (.getfield 81, 3) := by decide +kernel
theorem dX12_judges_44 : decode cX12_judges 44 = .ok (.iconst 0, 1) := by decide +kernel
theorem dX12_judges_45 : decode cX12_judges 45 = .ok (.iaload, 1) := by decide +kernel
theorem dX12_judges_46 : decode cX12_judges 46 = .ok (.if_icmp .ge 29, 3) := by decide +kernel
theorem dX12_judges_49 : decode cX12_judges 49 = .ok (.aload_n 0, 1) := by decide +kernel
theorem dX12_judges_50 : decode cX12_judges 50 = .ok (.iload_n 2, 1) := by decide +kernel
theorem dX12_judges_51 : decode cX12_judges 51 = .ok (.invokevirtual 421, 3) := by decide +kernel
theorem dX12_judges_54 : decode cX12_judges 54 = .ok (.ifCond .ne 15, 3) := by decide +kernel
theorem dX12_judges_57 : decode cX12_judges 57 = .ok (.aload_n 0, 1) := by decide +kernel
theorem dX12_judges_58 : decode cX12_judges 58 = .ok (.getfield 418, 3) := by decide +kernel
theorem dX12_judges_61 : decode cX12_judges 61 = .ok (.ifCond .ge 8, 3) := by decide +kernel
theorem dX12_judges_64 : decode cX12_judges 64 = .ok (.aload_n 0, 1) := by decide +kernel
theorem dX12_judges_65 : decode cX12_judges 65 = .ok (.iload_n 2, 1) := by decide +kernel
theorem dX12_judges_66 : decode cX12_judges 66 = .ok (.putfield 418, 3) := by decide +kernel
theorem dX12_judges_69 : decode cX12_judges 69 = .ok (.iinc 2 1, 3) := by decide +kernel
theorem dX12_judges_72 : decode cX12_judges 72 = .ok (.goto (-33), 3) := by decide +kernel
theorem dX12_judges_75 : decode cX12_judges 75 = .ok (.aload_n 0, 1) := by decide +kernel
theorem dX12_judges_76 : decode cX12_judges 76 = .ok (.aload_n 0, 1) := by decide +kernel
theorem dX12_judges_77 : decode cX12_judges 77 = .ok (.invokevirtual 424, 3) := by decide +kernel
theorem dX12_judges_80 : decode cX12_judges 80 = .ok (.putfield 427, 3) := by decide +kernel
theorem dX12_judges_83 : decode cX12_judges 83 = .ok (.aload_n 0, 1) := by decide +kernel
theorem dX12_judges_84 : decode cX12_judges 84 = .ok (.getfield 105, 3) := by decide +kernel
theorem dX12_judges_87 : decode cX12_judges 87 = .ok (.iconst 0, 1) := by decide +kernel
theorem dX12_judges_88 : decode cX12_judges 88 = .ok (.aload_n 0, 1) := by decide +kernel
theorem dX12_judges_89 : decode cX12_judges 89 = .ok (.getfield 102, 3) := by decide +kernel
theorem dX12_judges_92 : decode cX12_judges 92 = .ok (.iconst 0, 1) := by decide +kernel
theorem dX12_judges_93 : decode cX12_judges 93 = .ok (.invokestatic 393, 3) := by decide +kernel
theorem dX12_judges_96 : decode cX12_judges 96 = .ok (.return_, 1) := by decide +kernel
theorem dX12_judged_0 : decode cX12_judged 0 = .ok (.aload_n 0, 1) := by decide +kernel
theorem dX12_judged_1 : decode cX12_judged 1 = .ok (.iload_n 1, 1) := by decide +kernel
theorem dX12_judged_2 : decode cX12_judged 2 = .ok (.iconst 0, 1) := by decide +kernel
theorem dX12_judged_3 : decode cX12_judged 3 = .ok (.iconst 2, 1) := by decide +kernel
theorem dX12_judged_4 : decode cX12_judged 4 = .ok (.invokestatic 262, 3) := by decide +kernel
theorem dX12_judged_7 : decode cX12_judged 7 = .ok (.ifCond .eq 7, 3) := by decide +kernel
theorem dX12_judged_10 : decode cX12_judged 10 = .ok (.iconst 0, 1) := by decide +kernel
theorem dX12_judged_11 : decode cX12_judged 11 = .ok (.goto 4, 3) := by decide +kernel
theorem dX12_judged_14 : decode cX12_judged 14 = .ok (.iconst 1, 1) := by decide +kernel
theorem dX12_judged_15 : decode cX12_judged 15 = .ok (.putfield 143, 3) := by decide +kernel
theorem dX12_judged_18 : decode cX12_judged 18 = .ok (.aload_n 0, 1) := by decide +kernel
theorem dX12_judged_19 : decode cX12_judged 19 = .ok (.getfield 143, 3) := by decide +kernel
theorem dX12_judged_22 : decode cX12_judged 22 = .ok (.iconst 1, 1) := by decide +kernel
theorem dX12_judged_23 : decode cX12_judged 23 = .ok (.if_icmp .ne 5, 3) := by decide +kernel
theorem dX12_judged_26 : decode cX12_judged 26 = .ok (.iconst 0, 1) := by decide +kernel
theorem dX12_judged_27 : decode cX12_judged 27 = .ok (.ireturn, 1) := by decide +kernel
theorem dX12_judged_28 : decode cX12_judged 28 = .ok (.aload_n 0, 1) := by decide +kernel
theorem dX12_judged_29 : decode cX12_judged 29 = .ok (.aload_n 0, 1) := by decide +kernel
theorem dX12_judged_30 : decode cX12_judged 30 = .ok (.getfield 13, 3) := by decide +kernel
theorem dX12_judged_33 : decode cX12_judged 33 = .ok (.iconst 2, 1) := by decide +kernel
theorem dX12_judged_34 : decode cX12_judged 34 = .ok (.iaload, 1) := by decide +kernel
theorem dX12_judged_35 : decode cX12_judged 35 = .ok (.invokevirtual 430, 3) := by decide +kernel
theorem dX12_judged_38 : decode cX12_judged 38 = .ok (.iload_n 1, 1) := by decide +kernel
theorem dX12_judged_39 : decode cX12_judged 39 = .ok (.ifCond .ne 10, 3) := by decide +kernel
theorem dX12_judged_42 : decode cX12_judged 42 = .ok (.aload_n 0, 1) := by decide +kernel
theorem dX12_judged_43 : decode cX12_judged 43 = .ok (.getfield 418, 3) := by decide +kernel
theorem dX12_judged_46 : decode cX12_judged 46 = .ok (.goto 19, 3) := by decide +kernel
theorem dX12_judged_49 : decode cX12_judged 49 = .ok (.iload_n 1, 1) := by decide +kernel
theorem dX12_judged_50 : decode cX12_judged 50 = .ok (.iconst 1, 1) := by decide +kernel
theorem dX12_judged_51 : decode cX12_judged 51 = .ok (.if_icmp .ne 10, 3) := by decide +kernel
theorem dX12_judged_54 : decode cX12_judged 54 = .ok (.aload_n 0, 1) := by decide +kernel
theorem dX12_judged_55 : decode cX12_judged 55 = .ok (.getfield 415, 3) := by decide +kernel
theorem dX12_judged_58 : decode cX12_judged 58 = .ok (.goto 7, 3) := by decide +kernel
theorem dX12_judged_61 : decode cX12_judged 61 = .ok (.aload_n 0, 1) := by decide +kernel
theorem dX12_judged_62 : decode cX12_judged 62 = .ok (.getfield 427, 3) := by decide +kernel
theorem dX12_judged_65 : decode cX12_judged 65 = .ok (.ireturn, 1) := by decide +kernel
theorem dX12_other_0 : decode cX12_other 0 = .ok (.aload_n 0, 1) := by decide +kernel
theorem dX12_other_1 : decode cX12_other 1 = .ok (.iconst 0, 1) := by decide +kernel
theorem dX12_other_2 : decode cX12_other 2 = .ok (.putfield 143, 3) := by decide +kernel
theorem dX12_other_5 : decode cX12_other 5 = .ok (.iload_n 1, 1) := by decide +kernel
theorem dX12_other_6 : decode cX12_other 6 = .ok (.iconst 2, 1) := by decide +kernel
theorem dX12_other_7 : decode cX12_other 7 = .ok (.bipush 12, 2) := by decide +kernel
theorem dX12_other_9 : decode cX12_other 9 = .ok (.invokestatic 262, 3) := by decide +kernel
theorem dX12_other_12 : decode cX12_other 12 = .ok (.ifCond .ne 5, 3) := by decide +kernel
theorem dX12_other_15 : decode cX12_other 15 = .ok (.iconst (-1), 1) := by decide +kernel
theorem dX12_other_16 : decode cX12_other 16 = .ok (.ireturn, 1) := by decide +kernel
theorem dX12_other_17 : decode cX12_other 17 = .ok (.aload_n 0, 1) := by decide +kernel
theorem dX12_other_18 : decode cX12_other 18 = .ok (.iload_n 1, 1) := by decide +kernel
theorem dX12_other_19 : decode cX12_other 19 = .ok (.invokevirtual 430, 3) := by decide +kernel
theorem dX12_other_22 : decode cX12_other 22 = .ok (.aload_n 0, 1) := by decide +kernel
theorem dX12_other_23 : decode cX12_other 23 = .ok (.getfield 412, 3) := by decide +kernel
theorem dX12_other_26 : decode cX12_other 26 = .ok (.ireturn, 1) := by decide +kernel
theorem dX12_lives_0 : decode cX12_lives 0 = .ok (.aload_n 0, 1) := by decide +kernel
theorem dX12_lives_1 : decode cX12_lives 1 = .ok (.iload_n 1, 1) := by decide +kernel
theorem dX12_lives_2 : decode cX12_lives 2 = .ok (.iconst 0, 1) := by decide +kernel
theorem dX12_lives_3 : decode cX12_lives 3 = .ok (.sipush 9999, 3) := by decide +kernel
theorem dX12_lives_6 : decode cX12_lives 6 = .ok (.invokestatic 262, 3) := by decide +kernel
theorem dX12_lives_9 : decode cX12_lives 9 = .ok (.ifCond .eq 26, 3) := by decide +kernel
theorem dX12_lives_12 : decode cX12_lives 12 = .ok (.iload_n 2, 1) := by decide +kernel
theorem dX12_lives_13 : decode cX12_lives 13 = .ok (.iconst 1, 1) := by decide +kernel
theorem dX12_lives_14 : decode cX12_lives 14 = .ok (.bipush 99, 2) := by decide +kernel
theorem dX12_lives_16 : decode cX12_lives 16 = .ok (.invokestatic 262, 3) := by decide +kernel
theorem dX12_lives_19 : decode cX12_lives 19 = .ok (.ifCond .eq 16, 3) := by decide +kernel
theorem dX12_lives_22 : decode cX12_lives 22 = .ok (.iload_n 3, 1) := by decide +kernel
theorem dX12_lives_23 : decode cX12_lives 23 = .ok (.iconst 0, 1) := by decide +kernel
theorem dX12_lives_24 : decode cX12_lives 24 = .ok (.iconst 2, 1) := by decide +kernel
theorem dX12_lives_25 : decode cX12_lives 25 = .ok (.invokestatic 262, 3) := by decide +kernel
theorem dX12_lives_28 : decode cX12_lives 28 = .ok (.ifCond .eq 7, 3) := by decide +kernel
theorem dX12_lives_31 : decode cX12_lives 31 = .ok (.iconst 0, 1) := by decide +kernel
theorem dX12_lives_32 : decode cX12_lives 32 = .ok (.goto 4, 3) := by decide +kernel
theorem dX12_lives_35 : decode cX12_lives 35 = .ok (.iconst 1, 1) := by decide +kernel
theorem dX12_lives_36 : decode cX12_lives 36 = .ok (.putfield 143, 3) := by decide +kernel
theorem dX12_lives_39 : decode cX12_lives 39 = .ok (.aload_n 0, 1) := by decide +kernel
theorem dX12_lives_40 : decode cX12_lives 40 = .ok (.getfield 143, 3) := by decide +kernel
theorem dX12_lives_43 : decode cX12_lives 43 = .ok (.iconst 1, 1) := by decide +kernel
theorem dX12_lives_44 : decode cX12_lives 44 = .ok (.if_icmp .ne 5, 3) := by decide +kernel
theorem dX12_lives_47 : decode cX12_lives 47 = .ok (.iconst 0, 1) := by decide +kernel
theorem dX12_lives_48 : decode cX12_lives 48 = .ok (.ireturn, 1) := by decide +kernel
theorem dX12_lives_49 : decode cX12_lives 49 = .ok (.aload_n 0, 1) := by decide +kernel
theorem dX12_lives_50 : decode cX12_lives 50 = .ok (.iload_n 1, 1) := by decide +kernel
theorem dX12_lives_51 : decode cX12_lives 51 = .ok (.i2l, 1) := by decide +kernel
theorem dX12_lives_52 : decode cX12_lives 52 = .ok (.putfield 478, 3) := by decide +kernel
theorem dX12_lives_55 : decode cX12_lives 55 = .ok (.aload_n 0, 1) := by decide +kernel
theorem dX12_lives_56 : decode cX12_lives 56 = .ok (.aload_n 0, 1) := by decide +kernel
theorem dX12_lives_57 : decode cX12_lives 57 = .ok (.getfield 13, 3) := by decide +kernel
theorem dX12_lives_60 : decode cX12_lives 60 = .ok (.iconst 2, 1) := by decide +kernel
theorem dX12_lives_61 : decode cX12_lives 61 = .ok (.iaload, 1) := by decide +kernel
theorem dX12_lives_62 : decode cX12_lives 62 = .ok (.putfield 120, 3) := by decide +kernel
theorem dX12_lives_65 : decode cX12_lives 65 = .ok (.aload_n 0, 1) := by decide +kernel
theorem dX12_lives_66 : decode cX12_lives 66 = .ok (.getfield 102, 3) := by decide +kernel
theorem dX12_lives_69 : decode cX12_lives 69 = .ok (.iconst 0, 1) := by decide +kernel
theorem dX12_lives_70 : decode cX12_lives 70 = .ok (.aload_n 0, 1) := by decide +kernel
theorem dX12_lives_71 : decode cX12_lives 71 = .ok (.getfield 105, 3) := by decide +kernel
theorem dX12_lives_74 : decode cX12_lives 74 = .ok (.iconst 0, 1) := by decide +kernel
theorem dX12_lives_75 : decode cX12_lives 75 = .ok (.invokestatic 393, 3) := by decide +kernel
theorem dX12_lives_78 : decode cX12_lives 78 = .ok (.iconst 0, 1) := by decide +kernel
theorem dX12_lives_79 : decode cX12_lives 79 = .ok (.istore 4, 2) := by decide +kernel
theorem dX12_lives_81 : decode cX12_lives 81 = .ok (.iconst 0, 1) := by decide +kernel
theorem dX12_lives_82 : decode cX12_lives 82 = .ok (.istore 5, 2) := by decide +kernel
theorem dX12_lives_84 : decode cX12_lives 84 = .ok (.iload 5, 2) := by decide +kernel
theorem dX12_lives_86 : decode cX12_lives 86 = .ok (.iload_n 2, 1) := by decide +kernel
theorem dX12_lives_87 : decode cX12_lives 87 = .ok (.if_icmp .ge 36, 3) := by decide +kernel
theorem dX12_lives_90 : decode cX12_lives 90 = .ok (.aload_n 0, 1) := by decide +kernel
theorem dX12_lives_91 : decode cX12_lives 91 = .ok (.getfield 13, 3) := by decide +kernel
theorem dX12_lives_94 : decode cX12_lives 94 = .ok (.iconst 1, 1) := by decide +kernel
theorem dX12_lives_95 : decode cX12_lives 95 = .ok (.iaload, 1) := by decide +kernel
theorem dX12_lives_96 : decode cX12_lives 96 = .ok (.ifCond .le 27, 3) := by decide +kernel
theorem dX12_lives_99 : decode cX12_lives 99 = .ok (.aload_n 0, 1) := by decide +kernel
theorem dX12_lives_100 : decode cX12_lives 100 = .ok (.getfield 13, 3) := by decide +kernel
theorem dX12_lives_103 : decode cX12_lives 103 = .ok (.iconst 0, 1) := by decide +kernel
theorem dX12_lives_104 : decode cX12_lives 104 = .ok (.iaload, 1) := by decide +kernel
theorem dX12_lives_105 : decode cX12_lives 105 = .ok (.ifCond .le 18, 3) := by decide +kernel
theorem dX12_lives_108 : decode cX12_lives 108 = .ok (.iload 4, 2) := by decide +kernel
theorem dX12_lives_110 : decode cX12_lives 110 = .ok (.aload_n 0, 1) := by decide +kernel
theorem dX12_lives_111 : decode cX12_lives 111 = .ok (.invokevirtual 492, 3) := by decide +kernel
theorem dX12_lives_114 : decode cX12_lives 114 = .ok (.iadd, 1) := by decide +kernel
theorem dX12_lives_115 : decode cX12_lives 115 = .ok (.istore 4, 2) := by decide +kernel
theorem dX12_lives_117 : decode cX12_lives 117 = .ok (.iinc 5 1, 3) := by decide +kernel
theorem dX12_lives_120 : decode cX12_lives 120 = .ok (.goto (-36), 3) := by decide +kernel
theorem dX12_lives_123 : decode cX12_lives 123 = .ok (.aload_n 0, 1) := by decide +kernel
theorem dX12_lives_124 : decode cX12_lives 124 = .ok (.invokevirtual 456, 3) := by decide +kernel
theorem dX12_lives_127 : decode cX12_lives 127 = .ok (.istore 5, 2) := by decide +kernel
theorem dX12_lives_129 : decode cX12_lives 129 = .ok (.aload_n 0, 1) := by decide +kernel
theorem dX12_lives_130 : decode cX12_lives 130 = .ok (.invokevirtual 424, 3) := by decide +kernel
theorem dX12_lives_133 : decode cX12_lives 133 = .ok (.istore 6, 2) := by decide +kernel
theorem dX12_lives_135 : decode cX12_lives 135 = .ok (.aload_n 0, 1) := by decide +kernel
theorem dX12_lives_136 : decode cX12_lives 136 = .ok (.getfield 105, 3) := by decide +kernel
theorem dX12_lives_139 : decode cX12_lives 139 = .ok (.iconst 0, 1) := by decide +kernel
theorem dX12_lives_140 : decode cX12_lives 140 = .ok (.aload_n 0, 1) := by decide +kernel
theorem dX12_lives_141 : decode cX12_lives 141 = .ok (.getfield 102, 3) := by decide +kernel
theorem dX12_lives_144 : decode cX12_lives 144 = .ok (.iconst 0, 1) := by decide +kernel
theorem dX12_lives_145 : decode cX12_lives 145 = .ok (.invokestatic 393, 3) := by decide +kernel
theorem dX12_lives_148 : decode cX12_lives 148 = .ok (.iload_n 3, 1) := by decide +kernel
theorem dX12_lives_149 : decode cX12_lives 149 = .ok (.ifCond .ne 8, 3) := by decide +kernel
theorem dX12_lives_152 : decode cX12_lives 152 = .ok (.iload 4, 2) := by decide +kernel
theorem dX12_lives_154 : decode cX12_lives 154 = .ok (.goto 20, 3) := by decide +kernel
theorem dX12_lives_157 : decode cX12_lives 157 = .ok (.iload_n 3, 1) := by decide +kernel
theorem dX12_lives_158 : decode cX12_lives 158 = .ok (.iconst 1, 1) := by decide +kernel
theorem dX12_lives_159 : decode cX12_lives 159 = .ok (.if_icmp .ne 8, 3) := by decide +kernel
theorem dX12_lives_162 : decode cX12_lives 162 = .ok (.iload 5, 2) := by decide +kernel
theorem dX12_lives_164 : decode cX12_lives 164 = .ok (.goto 10, 3) := by decide +kernel
theorem dX12_lives_167 : decode cX12_lives 167 = .ok (.iload 6, 2) := by decide +kernel
theorem dX12_lives_169 : decode cX12_lives 169 = .ok (.aload_n 0, 1) := by decide +kernel
theorem dX12_lives_170 : decode cX12_lives 170 = .ok (.invokevirtual 424, 3) := by decide +kernel
theorem dX12_lives_173 : decode cX12_lives 173 = .ok (.isub, 1) := by decide +kernel
theorem dX12_lives_174 : decode cX12_lives 174 = .ok (.ireturn, 1) := by decide +kernel
theorem dX12_mark_0 : decode cX12_mark 0 = .ok (.aload_n 0, 1) := by decide +kernel
theorem dX12_mark_1 : decode cX12_mark 1 = .ok (.iconst 0, 1) := by decide +kernel
theorem dX12_mark_2 : decode cX12_mark 2 = .ok (.putfield 143, 3) := by decide +kernel
theorem dX12_mark_5 : decode cX12_mark 5 = .ok (.iload_n 1, 1) := by decide +kernel
theorem dX12_mark_6 : decode cX12_mark 6 = .ok (.iconst 0, 1) := by decide +kernel
theorem dX12_mark_7 : decode cX12_mark 7 = .ok (.iconst 3, 1) := by decide +kernel
theorem dX12_mark_8 : decode cX12_mark 8 = .ok (.invokestatic 262, 3) := by decide +kernel
theorem dX12_mark_11 : decode cX12_mark 11 = .ok (.ifCond .eq 16, 3) := by decide +kernel
theorem dX12_mark_14 : decode cX12_mark 14 = .ok (.iload_n 2, 1) := by decide +kernel
theorem dX12_mark_15 : decode cX12_mark 15 = .ok (.ifCond .eq 14, 3) := by decide +kernel
theorem dX12_mark_18 : decode cX12_mark 18 = .ok (.aload_n 0, 1) := by decide +kernel
theorem dX12_mark_19 : decode cX12_mark 19 = .ok (.getfield 117, 3) := by decide +kernel
theorem dX12_mark_22 : decode cX12_mark 22 = .ok (.iload_n 1, 1) := by decide +kernel
theorem dX12_mark_23 : decode cX12_mark 23 = .ok (.baload, 1) := by decide +kernel
theorem dX12_mark_24 : decode cX12_mark 24 = .ok (.ifCond .ne 5, 3) := by decide +kernel
theorem dX12_mark_27 : decode cX12_mark 27 = .ok (.iconst 0, 1) := by decide +kernel
theorem dX12_mark_28 : decode cX12_mark 28 = .ok (.ireturn, 1) := by decide +kernel
theorem dX12_mark_29 : decode cX12_mark 29 = .ok (.aload_n 0, 1) := by decide +kernel
theorem dX12_mark_30 : decode cX12_mark 30 = .ok (.getfield 117, 3) := by decide +kernel
theorem dX12_mark_33 : decode cX12_mark 33 = .ok (.iload_n 1, 1) := by decide +kernel
theorem dX12_mark_34 : decode cX12_mark 34 = .ok (.iconst 1, 1) := by decide +kernel
theorem dX12_mark_35 : decode cX12_mark 35 = .ok (.bastore, 1) := by decide +kernel
theorem dX12_mark_36 : decode cX12_mark 36 = .ok (.iload_n 2, 1) := by decide +kernel
theorem dX12_mark_37 : decode cX12_mark 37 = .ok (.ifCond .eq 9, 3) := by decide +kernel
theorem dX12_mark_40 : decode cX12_mark 40 = .ok (.iconst 1, 1) := by decide +kernel
theorem dX12_mark_41 : decode cX12_mark 41 = .ok (.iload_n 1, 1) := by decide +kernel
theorem dX12_mark_42 : decode cX12_mark 42 = .ok (.iadd, 1) := by decide +kernel
theorem dX12_mark_43 : decode cX12_mark 43 = .ok (.goto 4, 3) := by decide +kernel
theorem dX12_mark_46 : decode cX12_mark 46 = .ok (.iconst 0, 1) := by decide +kernel
theorem dX12_mark_47 : decode cX12_mark 47 = .ok (.istore_n 3, 1) := by decide +kernel
theorem dX12_mark_48 : decode cX12_mark 48 = .ok (.iload_n 2, 1) := by decide +kernel
theorem dX12_mark_49 : decode cX12_mark 49 = .ok (.ifCond .eq 7, 3) := by decide +kernel
theorem dX12_mark_52 : decode cX12_mark 52 = .ok (.iconst 0, 1) := by decide +kernel
theorem dX12_mark_53 : decode cX12_mark 53 = .ok (.goto 6, 3) := by decide +kernel
theorem dX12_mark_56 : decode cX12_mark 56 = .ok (.iconst 1, 1) := by decide +kernel
theorem dX12_mark_57 : decode cX12_mark 57 = .ok (.iload_n 1, 1) := by decide +kernel
theorem dX12_mark_58 : decode cX12_mark 58 = .ok (.iadd, 1) := by decide +kernel
theorem dX12_mark_59 : decode cX12_mark 59 = .ok (.istore 4, 2) := by decide +kernel
theorem dX12_mark_61 : decode cX12_mark 61 = .ok (.aload_n 0, 1) := by decide +kernel
theorem dX12_mark_62 : decode cX12_mark 62 = .ok (.iload_n 3, 1) := by decide +kernel
theorem dX12_mark_63 : decode cX12_mark 63 = .ok (.iload 4, 2) := by decide +kernel
theorem dX12_mark_65 : decode cX12_mark 65 = .ok (.invokevirtual 345, 3) := by decide +kernel
theorem dX12_mark_68 : decode cX12_mark 68 = .ok (.aload_n 0, 1) := by decide +kernel
theorem dX12_mark_69 : decode cX12_mark 69 = .ok (.iload_n 3, 1) := by decide +kernel
theorem dX12_mark_70 : decode cX12_mark 70 = .ok (.iload 4, 2) := by decide +kernel
theorem dX12_mark_72 : decode cX12_mark 72 = .ok (.invokevirtual 495, 3) := by decide +kernel
theorem dX12_mark_75 : decode cX12_mark 75 = .ok (.iload_n 2, 1) := by decide +kernel
theorem dX12_mark_76 : decode cX12_mark 76 = .ok (.ifCond .eq 28, 3) := by decide +kernel
theorem dX12_mark_79 : decode cX12_mark 79 = .ok (.aload_n 0, 1) := by decide +kernel
theorem dX12_mark_80 : decode cX12_mark 80 = .ok (.getfield 111, 3) := by decide +kernel
theorem dX12_mark_83 : decode cX12_mark 83 = .ok (.sipush 133, 3) := by decide +kernel
theorem dX12_mark_86 : decode cX12_mark 86 = .ok (.iload_n 1, 1) := by decide +kernel
theorem dX12_mark_87 : decode cX12_mark 87 = .ok (.imul, 1) := by decide +kernel
theorem dX12_mark_88 : decode cX12_mark 88 = .ok (.aload_n 0, 1) := by decide +kernel
theorem dX12_mark_89 : decode cX12_mark 89 = .ok (.getfield 102, 3) := by decide +kernel
theorem dX12_mark_92 : decode cX12_mark 92 = .ok (.iconst 0, 1) := by decide +kernel
theorem dX12_mark_93 : decode cX12_mark 93 = .ok (.invokestatic 393, 3) := by decide +kernel
theorem dX12_mark_96 : decode cX12_mark 96 = .ok (.aload_n 0, 1) := by decide +kernel
theorem dX12_mark_97 : decode cX12_mark 97 = .ok (.iconst 0, 1) := by decide +kernel
theorem dX12_mark_98 : decode cX12_mark 98 = .ok (.putfield 339, 3) := by decide +kernel
theorem dX12_mark_101 : decode cX12_mark 101 = .ok (.goto 20, 3) := by decide +kernel
theorem dX12_mark_104 : decode cX12_mark 104 = .ok (.aload_n 0, 1) := by decide +kernel
theorem dX12_mark_105 : decode cX12_mark 105 = .ok (.getfield 102, 3) := by decide +kernel
theorem dX12_mark_108 : decode cX12_mark 108 = .ok (.iconst 0, 1) := by decide +kernel
theorem dX12_mark_109 : decode cX12_mark 109 = .ok (.aload_n 0, 1) := by decide +kernel
theorem dX12_mark_110 : decode cX12_mark 110 = .ok (.getfield 111, 3) := by decide +kernel
theorem dX12_mark_113 : decode cX12_mark 113 = .ok (.sipush 133, 3) := by decide +kernel
theorem dX12_mark_116 : decode cX12_mark 116 = .ok (.iload_n 1, 1) := by decide +kernel
theorem dX12_mark_117 : decode cX12_mark 117 = .ok (.imul, 1) := by decide +kernel
theorem dX12_mark_118 : decode cX12_mark 118 = .ok (.invokestatic 393, 3) := by decide +kernel
theorem dX12_mark_121 : decode cX12_mark 121 = .ok (.iconst 1, 1) := by decide +kernel
theorem dX12_mark_122 : decode cX12_mark 122 = .ok (.ireturn, 1) := by decide +kernel
set_option maxHeartbeats 4000000 in
set_option maxRecDepth 100000 in
theorem c_X12_nextToken (γ : kΓ) (l : Launch) (z : Nat) (z2 : Nat) (z10 : Nat) (z11 : Nat) (z12 : Nat) (z13 : Nat) (z14 : Nat) (z15 : Nat) (z16 : Nat) (z17 : Nat) (z18 : Nat) (z19 : Nat) (z22 : Nat) (z23 : Nat) (z24 : Nat) (z25 : Nat) (z26 : Nat) (z27 : Nat) (z28 : Nat) (z29 : Nat) (z30 : Nat) (z31 : Nat) (z32 : Nat) (z33 : Nat) (z36 : Nat) (z37 : Nat) (z38 : Nat) (z39 : Nat) (z40 : Nat) (z41 : Nat) (z42 : Nat) (z43 : Nat) (z44 : Nat) (z45 : Nat) (z46 : Nat) (z47 : Nat) (z48 : Nat) (z55 : Nat) (z56 : Nat) (z59 : Nat) (z60 : Nat) (z61 : Nat) (n0 : Int32) (n1 : Int32) (n5 : Int32) (n6 : Int32) (n7 : Int64) (n8 : Int32) (n9 : Int32) (n20 : Int32) (n21 : Int32) (n34 : Int32) (n35 : Int64) (n49 : Int32) (n50 : Int32) (n51 : Int32) (n52 : Int32) (n53 : Int32) (n54 : Int32) (n57 : Int32) (n58 : Int32) (n62 : Int32) (n63 : Int64) : kM γ l yX12_nextToken cX12_nextToken 2 none ({ frames := 0, cells := 0, slots := 0, locals := 0 } : Room) [.ref z] [(z, .inr (11, [.int n0, .int n1, .ref z2, .int 0, .int 0, .int n5, .int n6, .long n7, .int n8, .int n9, .ref z10, .ref z11, .ref z12, .ref z13, .ref z14, .ref z15, .ref z16, .ref z17, .ref z18, .ref z19, .int n20, .int n21, .ref z22, .ref z23, .ref z24, .ref z25, .ref z26, .ref z27, .ref z28, .ref z29, .ref z30, .ref z31, .ref z32, .ref z33, .int n34, .long n35, .ref z36, .ref z37, .ref z38, .ref z39, .ref z40, .ref z41, .ref z42, .ref z43, .ref z44, .ref z45, .ref z46, .ref z47, .ref z48, .int n49, .int n50, .int n51, .int n52, .int n53, .int n54, .ref z55, .ref z56, .int n57, .int n58, .ref z59, .ref z60, .ref z61, .int n62, .long n63]))] (fun r w1 => r = none ∧ w1 = [(z, .inr (11, [.int n0, .int n1, .ref z2, .int 0, .int 0, .int 0, .int 0, .long 0, .int 0, .int n9, .ref z10, .ref z11, .ref z12, .ref z13, .ref z14, .ref z15, .ref z16, .ref z17, .ref z18, .ref z19, .int n20, .int n21, .ref z22, .ref z23, .ref z24, .ref z25, .ref z26, .ref z27, .ref z28, .ref z29, .ref z30, .ref z31, .ref z32, .ref z33, .int n34, .long n35, .ref z36, .ref z37, .ref z38, .ref z39, .ref z40, .ref z41, .ref z42, .ref z43, .ref z44, .ref z45, .ref z46, .ref z47, .ref z48, .int n49, .int n50, .int n51, .int n52, .int n53, .int n54, .ref z55, .ref z56, .int n57, .int n58, .ref z59, .ref z60, .ref z61, .int n62, .long n63]))]) := by
  refine k_ofW (by decide) (Nat.le_of_ble_eq_true rfl) ?_
  intro p e s m below meth c A ls hC hr hlocks hname hw hl
  have hx := hC.1
  have hb := hC.2.1
  have hl : lv_has ls 2 [(0, .ref z)] := hl
  refine lv_aload_n hx hb dX12_nextToken_0 rfl (lv_at hl 0 rfl) ?_
  refine fg_RX12_154 hC hw 0 rfl rfl dX12_nextToken_1 ?_
  refine lv_aload_n hx hb dX12_nextToken_4 rfl (lv_at hl 0 rfl) ?_
  refine fg_RX12_151 hC hw 0 rfl rfl dX12_nextToken_5 ?_
  refine lv_icmp_ge (tgt := 52) hx hb dX12_nextToken_8 (by decide) (fun _ => ?_) (fun h => absurd (by decide) h)
  refine lv_aload_n hx hb dX12_nextToken_52 rfl (lv_at hl 0 rfl) ?_
  refine lv_aload_n hx hb dX12_nextToken_53 rfl (lv_at hl 0 rfl) ?_
  refine fg_RX12_154 hC hw 0 rfl rfl dX12_nextToken_54 ?_
  refine fs_RX12_157 hC hw 0 rfl rfl rfl (Nat.le_of_ble_eq_true rfl) dX12_nextToken_57 (fun H locs hw => ?_)
  have hw : kW γ A [(z, .inr (11, [.int n0, .int n1, .ref z2, .int 0, .int 0, .int 0, .int n6, .long n7, .int n8, .int n9, .ref z10, .ref z11, .ref z12, .ref z13, .ref z14, .ref z15, .ref z16, .ref z17, .ref z18, .ref z19, .int n20, .int n21, .ref z22, .ref z23, .ref z24, .ref z25, .ref z26, .ref z27, .ref z28, .ref z29, .ref z30, .ref z31, .ref z32, .ref z33, .int n34, .long n35, .ref z36, .ref z37, .ref z38, .ref z39, .ref z40, .ref z41, .ref z42, .ref z43, .ref z44, .ref z45, .ref z46, .ref z47, .ref z48, .int n49, .int n50, .int n51, .int n52, .int n53, .int n54, .ref z55, .ref z56, .int n57, .int n58, .ref z59, .ref z60, .ref z61, .int n62, .long n63]))] s H locs := hw
  refine lv_aload_n hx hb dX12_nextToken_60 rfl (lv_at hl 0 rfl) ?_
  refine lv_lconst (v := 0) hx hb dX12_nextToken_61 (by decide) ?_
  refine fs_RX12_160 hC hw 0 rfl rfl rfl (Nat.le_of_ble_eq_true rfl) dX12_nextToken_62 (fun H locs hw => ?_)
  have hw : kW γ A [(z, .inr (11, [.int n0, .int n1, .ref z2, .int 0, .int 0, .int 0, .int n6, .long 0, .int n8, .int n9, .ref z10, .ref z11, .ref z12, .ref z13, .ref z14, .ref z15, .ref z16, .ref z17, .ref z18, .ref z19, .int n20, .int n21, .ref z22, .ref z23, .ref z24, .ref z25, .ref z26, .ref z27, .ref z28, .ref z29, .ref z30, .ref z31, .ref z32, .ref z33, .int n34, .long n35, .ref z36, .ref z37, .ref z38, .ref z39, .ref z40, .ref z41, .ref z42, .ref z43, .ref z44, .ref z45, .ref z46, .ref z47, .ref z48, .int n49, .int n50, .int n51, .int n52, .int n53, .int n54, .ref z55, .ref z56, .int n57, .int n58, .ref z59, .ref z60, .ref z61, .int n62, .long n63]))] s H locs := hw
  refine lv_aload_n hx hb dX12_nextToken_65 rfl (lv_at hl 0 rfl) ?_
  refine lv_iconst (v := 0) hx hb dX12_nextToken_66 (by decide) ?_
  refine fs_RX12_164 hC hw 0 rfl rfl rfl (Nat.le_of_ble_eq_true rfl) dX12_nextToken_67 (fun H locs hw => ?_)
  have hw : kW γ A [(z, .inr (11, [.int n0, .int n1, .ref z2, .int 0, .int 0, .int 0, .int n6, .long 0, .int 0, .int n9, .ref z10, .ref z11, .ref z12, .ref z13, .ref z14, .ref z15, .ref z16, .ref z17, .ref z18, .ref z19, .int n20, .int n21, .ref z22, .ref z23, .ref z24, .ref z25, .ref z26, .ref z27, .ref z28, .ref z29, .ref z30, .ref z31, .ref z32, .ref z33, .int n34, .long n35, .ref z36, .ref z37, .ref z38, .ref z39, .ref z40, .ref z41, .ref z42, .ref z43, .ref z44, .ref z45, .ref z46, .ref z47, .ref z48, .int n49, .int n50, .int n51, .int n52, .int n53, .int n54, .ref z55, .ref z56, .int n57, .int n58, .ref z59, .ref z60, .ref z61, .int n62, .long n63]))] s H locs := hw
  refine lv_aload_n hx hb dX12_nextToken_70 rfl (lv_at hl 0 rfl) ?_
  refine fg_RX12_154 hC hw 0 rfl rfl dX12_nextToken_71 ?_
  refine lv_aload_n hx hb dX12_nextToken_74 rfl (lv_at hl 0 rfl) ?_
  refine fg_RX12_151 hC hw 0 rfl rfl dX12_nextToken_75 ?_
  refine lv_icmp_ne (tgt := 87) hx hb dX12_nextToken_78 (by decide) (fun h => absurd rfl h) (fun _ => ?_)
  refine lv_aload_n hx hb dX12_nextToken_81 rfl (lv_at hl 0 rfl) ?_
  refine lv_iconst (v := 0) hx hb dX12_nextToken_82 (by decide) ?_
  refine fs_RX12_167 hC hw 0 rfl rfl rfl (Nat.le_of_ble_eq_true rfl) dX12_nextToken_83 (fun H locs hw => ?_)
  have hw : kW γ A [(z, .inr (11, [.int n0, .int n1, .ref z2, .int 0, .int 0, .int 0, .int 0, .long 0, .int 0, .int n9, .ref z10, .ref z11, .ref z12, .ref z13, .ref z14, .ref z15, .ref z16, .ref z17, .ref z18, .ref z19, .int n20, .int n21, .ref z22, .ref z23, .ref z24, .ref z25, .ref z26, .ref z27, .ref z28, .ref z29, .ref z30, .ref z31, .ref z32, .ref z33, .int n34, .long n35, .ref z36, .ref z37, .ref z38, .ref z39, .ref z40, .ref z41, .ref z42, .ref z43, .ref z44, .ref z45, .ref z46, .ref z47, .ref z48, .int n49, .int n50, .int n51, .int n52, .int n53, .int n54, .ref z55, .ref z56, .int n57, .int n58, .ref z59, .ref z60, .ref z61, .int n62, .long n63]))] s H locs := hw
  exact k_vret hC hr hlocks hw [0] rfl rfl ⟨rfl, rfl⟩ (by decide) (by decide) dX12_nextToken_86

set_option maxHeartbeats 4000000 in
set_option maxRecDepth 100000 in
theorem c_X12_begins (γ : kΓ) (l : Launch) (z : Nat) (z2 : Nat) (z10 : Nat) (z11 : Nat) (z12 : Nat) (z13 : Nat) (z14 : Nat) (z15 : Nat) (z16 : Nat) (z17 : Nat) (z18 : Nat) (z19 : Nat) (z22 : Nat) (z23 : Nat) (z24 : Nat) (z25 : Nat) (z26 : Nat) (z27 : Nat) (z28 : Nat) (z29 : Nat) (z30 : Nat) (z31 : Nat) (z32 : Nat) (z33 : Nat) (z36 : Nat) (z37 : Nat) (z38 : Nat) (z39 : Nat) (z40 : Nat) (z41 : Nat) (z42 : Nat) (z43 : Nat) (z44 : Nat) (z45 : Nat) (z46 : Nat) (z47 : Nat) (z48 : Nat) (z55 : Nat) (z56 : Nat) (z59 : Nat) (z60 : Nat) (z61 : Nat) (n0 : Int32) (n3 : Int32) (n4 : Int32) (n5 : Int32) (n6 : Int32) (n7 : Int64) (n8 : Int32) (n9 : Int32) (n20 : Int32) (n21 : Int32) (n34 : Int32) (n35 : Int64) (n49 : Int32) (n50 : Int32) (n51 : Int32) (n52 : Int32) (n53 : Int32) (n54 : Int32) (n57 : Int32) (n58 : Int32) (n62 : Int32) (n63 : Int64) : kM γ l yX12_begins cX12_begins 1 none ({ frames := 1, cells := 0, slots := 0, locals := 21 } : Room) [.ref z] [(z, .inr (11, [.int n0, .int 0, .ref z2, .int n3, .int n4, .int n5, .int n6, .long n7, .int n8, .int n9, .ref z10, .ref z11, .ref z12, .ref z13, .ref z14, .ref z15, .ref z16, .ref z17, .ref z18, .ref z19, .int n20, .int n21, .ref z22, .ref z23, .ref z24, .ref z25, .ref z26, .ref z27, .ref z28, .ref z29, .ref z30, .ref z31, .ref z32, .ref z33, .int n34, .long n35, .ref z36, .ref z37, .ref z38, .ref z39, .ref z40, .ref z41, .ref z42, .ref z43, .ref z44, .ref z45, .ref z46, .ref z47, .ref z48, .int n49, .int n50, .int n51, .int n52, .int n53, .int n54, .ref z55, .ref z56, .int n57, .int n58, .ref z59, .ref z60, .ref z61, .int n62, .long n63]))] (fun r w1 => r = none ∧ w1 = [(z, .inr (11, [.int n0, .int 0, .ref z2, .int 0, .int 0, .int 0, .int 0, .long 0, .int 0, .int n9, .ref z10, .ref z11, .ref z12, .ref z13, .ref z14, .ref z15, .ref z16, .ref z17, .ref z18, .ref z19, .int n20, .int n21, .ref z22, .ref z23, .ref z24, .ref z25, .ref z26, .ref z27, .ref z28, .ref z29, .ref z30, .ref z31, .ref z32, .ref z33, .int n34, .long n35, .ref z36, .ref z37, .ref z38, .ref z39, .ref z40, .ref z41, .ref z42, .ref z43, .ref z44, .ref z45, .ref z46, .ref z47, .ref z48, .int n49, .int n50, .int n51, .int n52, .int n53, .int n54, .ref z55, .ref z56, .int n57, .int n58, .ref z59, .ref z60, .ref z61, .int n62, .long n63]))]) := by
  refine k_ofW (by decide) (Nat.le_of_ble_eq_true rfl) ?_
  intro p e s m below meth c A ls hC hr hlocks hname hw hl
  have hx := hC.1
  have hb := hC.2.1
  have hl : lv_has ls 1 [(0, .ref z)] := hl
  refine lv_aload_n hx hb dX12_begins_0 rfl (lv_at hl 0 rfl) ?_
  refine lv_aload_n hx hb dX12_begins_1 rfl (lv_at hl 0 rfl) ?_
  refine fg_RX12_148 hC hw 0 rfl rfl dX12_begins_2 ?_
  refine fs_RX12_151 hC hw 0 rfl rfl rfl (Nat.le_of_ble_eq_true rfl) dX12_begins_5 (fun H locs hw => ?_)
  have hw : kW γ A [(z, .inr (11, [.int n0, .int 0, .ref z2, .int 0, .int n4, .int n5, .int n6, .long n7, .int n8, .int n9, .ref z10, .ref z11, .ref z12, .ref z13, .ref z14, .ref z15, .ref z16, .ref z17, .ref z18, .ref z19, .int n20, .int n21, .ref z22, .ref z23, .ref z24, .ref z25, .ref z26, .ref z27, .ref z28, .ref z29, .ref z30, .ref z31, .ref z32, .ref z33, .int n34, .long n35, .ref z36, .ref z37, .ref z38, .ref z39, .ref z40, .ref z41, .ref z42, .ref z43, .ref z44, .ref z45, .ref z46, .ref z47, .ref z48, .int n49, .int n50, .int n51, .int n52, .int n53, .int n54, .ref z55, .ref z56, .int n57, .int n58, .ref z59, .ref z60, .ref z61, .int n62, .long n63]))] s H locs := hw
  refine lv_aload_n hx hb dX12_begins_8 rfl (lv_at hl 0 rfl) ?_
  refine lv_iconst (v := 0) hx hb dX12_begins_9 (by decide) ?_
  refine fs_RX12_148 hC hw 0 rfl rfl rfl (Nat.le_of_ble_eq_true rfl) dX12_begins_10 (fun H locs hw => ?_)
  have hw : kW γ A [(z, .inr (11, [.int n0, .int 0, .ref z2, .int 0, .int n4, .int n5, .int n6, .long n7, .int n8, .int n9, .ref z10, .ref z11, .ref z12, .ref z13, .ref z14, .ref z15, .ref z16, .ref z17, .ref z18, .ref z19, .int n20, .int n21, .ref z22, .ref z23, .ref z24, .ref z25, .ref z26, .ref z27, .ref z28, .ref z29, .ref z30, .ref z31, .ref z32, .ref z33, .int n34, .long n35, .ref z36, .ref z37, .ref z38, .ref z39, .ref z40, .ref z41, .ref z42, .ref z43, .ref z44, .ref z45, .ref z46, .ref z47, .ref z48, .int n49, .int n50, .int n51, .int n52, .int n53, .int n54, .ref z55, .ref z56, .int n57, .int n58, .ref z59, .ref z60, .ref z61, .int n62, .long n63]))] s H locs := hw
  refine lv_aload_n hx hb dX12_begins_13 rfl (lv_at hl 0 rfl) ?_
  refine lv_iconst (v := 0) hx hb dX12_begins_14 (by decide) ?_
  refine fs_RX12_154 hC hw 0 rfl rfl rfl (Nat.le_of_ble_eq_true rfl) dX12_begins_15 (fun H locs hw => ?_)
  have hw : kW γ A [(z, .inr (11, [.int n0, .int 0, .ref z2, .int 0, .int 0, .int n5, .int n6, .long n7, .int n8, .int n9, .ref z10, .ref z11, .ref z12, .ref z13, .ref z14, .ref z15, .ref z16, .ref z17, .ref z18, .ref z19, .int n20, .int n21, .ref z22, .ref z23, .ref z24, .ref z25, .ref z26, .ref z27, .ref z28, .ref z29, .ref z30, .ref z31, .ref z32, .ref z33, .int n34, .long n35, .ref z36, .ref z37, .ref z38, .ref z39, .ref z40, .ref z41, .ref z42, .ref z43, .ref z44, .ref z45, .ref z46, .ref z47, .ref z48, .int n49, .int n50, .int n51, .int n52, .int n53, .int n54, .ref z55, .ref z56, .int n57, .int n58, .ref z59, .ref z60, .ref z61, .int n62, .long n63]))] s H locs := hw
  refine lv_aload_n hx hb dX12_begins_18 rfl (lv_at hl 0 rfl) ?_
  refine k_V (wr := []) 0 gw_1406 gw_1408 gp_54 gw_15 gw_1409 hd_X12_nextToken hC hw (c_X12_nextToken γ l z z2 z10 z11 z12 z13 z14 z15 z16 z17 z18 z19 z22 z23 z24 z25 z26 z27 z28 z29 z30 z31 z32 z33 z36 z37 z38 z39 z40 z41 z42 z43 z44 z45 z46 z47 z48 z55 z56 z59 z60 z61 n0 0 n5 n6 n7 n8 n9 n20 n21 n34 n35 n49 n50 n51 n52 n53 n54 n57 n58 n62 n63) ⟨by decide, by decide⟩ ⟨by decide, by decide⟩ hl.1 rfl 0 rfl rfl rfl (Nat.le_of_ble_eq_true rfl) [0] [] rfl rfl rfl rfl (by decide) dX12_begins_19 (fun r w1 H locs hq hw => ?_)
  obtain ⟨rfl, rfl⟩ := hq
  have hw : kW γ A [(z, .inr (11, [.int n0, .int 0, .ref z2, .int 0, .int 0, .int 0, .int 0, .long 0, .int 0, .int n9, .ref z10, .ref z11, .ref z12, .ref z13, .ref z14, .ref z15, .ref z16, .ref z17, .ref z18, .ref z19, .int n20, .int n21, .ref z22, .ref z23, .ref z24, .ref z25, .ref z26, .ref z27, .ref z28, .ref z29, .ref z30, .ref z31, .ref z32, .ref z33, .int n34, .long n35, .ref z36, .ref z37, .ref z38, .ref z39, .ref z40, .ref z41, .ref z42, .ref z43, .ref z44, .ref z45, .ref z46, .ref z47, .ref z48, .int n49, .int n50, .int n51, .int n52, .int n53, .int n54, .ref z55, .ref z56, .int n57, .int n58, .ref z59, .ref z60, .ref z61, .int n62, .long n63]))] s H locs := hw
  refine W.eq (g2 := F0 m 22 ls []) rfl ?_
  exact k_vret hC hr hlocks hw [0] rfl rfl ⟨rfl, rfl⟩ (by decide) (by decide) dX12_begins_22

set_option maxHeartbeats 4000000 in
set_option maxRecDepth 100000 in
theorem c_X12_readsAll (γ : kΓ) (l : Launch) (z : Nat) (z2 : Nat) (z10 : Nat) (z11 : Nat) (z12 : Nat) (z13 : Nat) (z14 : Nat) (z15 : Nat) (z16 : Nat) (z17 : Nat) (z18 : Nat) (z19 : Nat) (z22 : Nat) (z23 : Nat) (z24 : Nat) (z25 : Nat) (z26 : Nat) (z27 : Nat) (z28 : Nat) (z29 : Nat) (z30 : Nat) (z31 : Nat) (z32 : Nat) (z33 : Nat) (z36 : Nat) (z37 : Nat) (z38 : Nat) (z39 : Nat) (z40 : Nat) (z41 : Nat) (z42 : Nat) (z43 : Nat) (z44 : Nat) (z45 : Nat) (z46 : Nat) (z47 : Nat) (z48 : Nat) (z55 : Nat) (z56 : Nat) (z59 : Nat) (z60 : Nat) (z61 : Nat) (fa : Nat → Int32) (f1 : Nat → Int32) (f2 : Nat → Int32) (ha0 : fa 0 = 0) (ha1 : fa 1 = 0) (ha2 : fa 2 = 10) (ha3 : fa 3 = 10) (ha4 : fa 4 = 3) : kM γ l yX12_readsAll cX12_readsAll 2 ((some .boolean)) ({ frames := 2, cells := 0, slots := 0, locals := 41 } : Room) [.ref z] [(z, .inr (11, [.int 0, .int 0, .ref z2, .int 0, .int 0, .int 0, .int 0, .long 0, .int 0, .int 0, .ref z10, .ref z11, .ref z12, .ref z13, .ref z14, .ref z15, .ref z16, .ref z17, .ref z18, .ref z19, .int 0, .int 0, .ref z22, .ref z23, .ref z24, .ref z25, .ref z26, .ref z27, .ref z28, .ref z29, .ref z30, .ref z31, .ref z32, .ref z33, .int 0, .long 0, .ref z36, .ref z37, .ref z38, .ref z39, .ref z40, .ref z41, .ref z42, .ref z43, .ref z44, .ref z45, .ref z46, .ref z47, .ref z48, .int 0, .int 10, .int 0, .int 0, .int 0, .int 0, .ref z55, .ref z56, .int 0, .int 0, .ref z59, .ref z60, .ref z61, .int 0, .long 0])), (z10, .inl (γ.2.1 0, 10, .inl fa)), (z17, .inl (γ.2.1 0, 4, .inl f1)), (z18, .inl (γ.2.1 0, 4, .inl f2))] (fun r w1 => ∃ (gb : Nat → Int32), ∃ (k1 : Nat → Int32), ∃ (k2 : Nat → Int32), r = some (.int 1) ∧ w1 = [(z, .inr (11, [.int 0, .int 0, .ref z2, .int 0, .int 0, .int 0, .int 0, .long 0, .int 0, .int 0, .ref z10, .ref z11, .ref z12, .ref z13, .ref z14, .ref z15, .ref z16, .ref z17, .ref z18, .ref z19, .int 1000, .int 0, .ref z22, .ref z23, .ref z24, .ref z25, .ref z26, .ref z27, .ref z28, .ref z29, .ref z30, .ref z31, .ref z32, .ref z33, .int 0, .long 0, .ref z36, .ref z37, .ref z38, .ref z39, .ref z40, .ref z41, .ref z42, .ref z43, .ref z44, .ref z45, .ref z46, .ref z47, .ref z48, .int 0, .int 10, .int 0, .int 0, .int 0, .int 0, .ref z55, .ref z56, .int 0, .int 0, .ref z59, .ref z60, .ref z61, .int 0, .long 0])), (z10, .inl (γ.2.1 0, 10, .inl gb)), (z17, .inl (γ.2.1 0, 4, .inl k1)), (z18, .inl (γ.2.1 0, 4, .inl k2))]) := by
  refine k_ofW (by decide) (Nat.le_of_ble_eq_true rfl) ?_
  intro p e s m below meth c A ls hC hr hlocks hname hw hl
  have hx := hC.1
  have hb := hC.2.1
  have hl : lv_has ls 2 [(0, .ref z)] := hl
  refine lv_aload_n hx hb dX12_readsAll_0 rfl (lv_at hl 0 rfl) ?_
  refine lv_iconst (v := 1) hx hb dX12_readsAll_1 (by decide) ?_
  refine k_V (wr := [(z17, .inl (γ.2.1 0, 4, .inl f1)), (z18, .inl (γ.2.1 0, 4, .inl f2))]) 1 gw_1188 gw_1190 gp_51 gw_15 gw_1191 hd_X12_usual hC hw (c_X12_usual_1 γ l z z2 z10 z11 z12 z13 z14 z15 z16 z17 z18 z19 z22 z23 z24 z25 z26 z27 z28 z29 z30 z31 z32 z33 z36 z37 z38 z39 z40 z41 z42 z43 z44 z45 z46 z47 z48 z55 z56 z59 z60 z61 0 0 0 0 0 0 0 0 0 0 0 0 0 0 10 0 0 0 0 0 0 0 0 fa ha0 ha1 ha2 ha3 ha4) ⟨by decide, by decide⟩ ⟨by decide, by decide⟩ hl.1 rfl 0 rfl rfl rfl (Nat.le_of_ble_eq_true rfl) [0, 1] [2, 3] rfl rfl rfl rfl (by decide) dX12_readsAll_2 (fun r w1 H locs hq hw => ?_)
  obtain ⟨gb_1330, rfl, rfl, g_1331, g_1332, g_1333, g_1334, g_1335⟩ := hq
  have hw : kW γ A [(z17, .inl (γ.2.1 0, 4, .inl f1)), (z18, .inl (γ.2.1 0, 4, .inl f2)), (z, .inr (11, [.int 0, .int 0, .ref z2, .int 0, .int 0, .int 0, .int 0, .long 0, .int 0, .int 0, .ref z10, .ref z11, .ref z12, .ref z13, .ref z14, .ref z15, .ref z16, .ref z17, .ref z18, .ref z19, .int 0, .int 0, .ref z22, .ref z23, .ref z24, .ref z25, .ref z26, .ref z27, .ref z28, .ref z29, .ref z30, .ref z31, .ref z32, .ref z33, .int 0, .long 0, .ref z36, .ref z37, .ref z38, .ref z39, .ref z40, .ref z41, .ref z42, .ref z43, .ref z44, .ref z45, .ref z46, .ref z47, .ref z48, .int 0, .int 10, .int 0, .int 0, .int 0, .int 0, .ref z55, .ref z56, .int 0, .int 0, .ref z59, .ref z60, .ref z61, .int 0, .long 0])), (z10, .inl (γ.2.1 0, 10, .inl gb_1330))] s H locs := hw
  refine W.eq (g2 := F0 m 5 ls []) rfl ?_
  refine lv_iconst (v := 2) hx hb dX12_readsAll_5 (by decide) ?_
  refine lv_istore_n (lv' := [(1, .int 2), (0, .ref z)]) hx hb dX12_readsAll_6 rfl hl (by decide) rfl (fun ls hl => ?_)
  refine lv_iload_n hx hb dX12_readsAll_7 rfl (lv_at hl 0 rfl) ?_
  refine lv_iconst (v := 4) hx hb dX12_readsAll_8 (by decide) ?_
  refine lv_icmp_ge (tgt := 36) hx hb dX12_readsAll_9 (by decide) (fun h => absurd h (by decide)) (fun _ => ?_)
  refine lv_aload_n hx hb dX12_readsAll_12 rfl (lv_at hl 1 rfl) ?_
  refine fg_RX12_35 hC hw 2 rfl rfl dX12_readsAll_13 ?_
  refine lv_iload_n hx hb dX12_readsAll_16 rfl (lv_at hl 0 rfl) ?_
  refine lv_sipush (v := 1000) hx hb dX12_readsAll_17 (by decide) ?_
  refine k_iast hC hw 0 rfl (k_in0 (by decide)) dX12_readsAll_20 (fun H locs hw => ?_)
  obtain ⟨f_1336, ef_1336⟩ : ∃ g, g = upd f1 (2 : Int32).toNatClampNeg 1000 := ⟨_, rfl⟩
  have hw : kW γ A [(z17, .inl (γ.2.1 0, 4, .inl f_1336)), (z18, .inl (γ.2.1 0, 4, .inl f2)), (z, .inr (11, [.int 0, .int 0, .ref z2, .int 0, .int 0, .int 0, .int 0, .long 0, .int 0, .int 0, .ref z10, .ref z11, .ref z12, .ref z13, .ref z14, .ref z15, .ref z16, .ref z17, .ref z18, .ref z19, .int 0, .int 0, .ref z22, .ref z23, .ref z24, .ref z25, .ref z26, .ref z27, .ref z28, .ref z29, .ref z30, .ref z31, .ref z32, .ref z33, .int 0, .long 0, .ref z36, .ref z37, .ref z38, .ref z39, .ref z40, .ref z41, .ref z42, .ref z43, .ref z44, .ref z45, .ref z46, .ref z47, .ref z48, .int 0, .int 10, .int 0, .int 0, .int 0, .int 0, .ref z55, .ref z56, .int 0, .int 0, .ref z59, .ref z60, .ref z61, .int 0, .long 0])), (z10, .inl (γ.2.1 0, 10, .inl gb_1330))] s H locs := by rw [ef_1336]; exact hw
  have h_1337 : f_1336 2 = 1000 := by rw [ef_1336]; rfl
  refine lv_aload_n hx hb dX12_readsAll_21 rfl (lv_at hl 1 rfl) ?_
  refine fg_RX12_38 hC hw 2 rfl rfl dX12_readsAll_22 ?_
  refine lv_iload_n hx hb dX12_readsAll_25 rfl (lv_at hl 0 rfl) ?_
  refine lv_sipush (v := 1000) hx hb dX12_readsAll_26 (by decide) ?_
  refine k_iast hC hw 1 rfl (k_in0 (by decide)) dX12_readsAll_29 (fun H locs hw => ?_)
  obtain ⟨f_1338, ef_1338⟩ : ∃ g, g = upd f2 (2 : Int32).toNatClampNeg 1000 := ⟨_, rfl⟩
  have hw : kW γ A [(z17, .inl (γ.2.1 0, 4, .inl f_1336)), (z18, .inl (γ.2.1 0, 4, .inl f_1338)), (z, .inr (11, [.int 0, .int 0, .ref z2, .int 0, .int 0, .int 0, .int 0, .long 0, .int 0, .int 0, .ref z10, .ref z11, .ref z12, .ref z13, .ref z14, .ref z15, .ref z16, .ref z17, .ref z18, .ref z19, .int 0, .int 0, .ref z22, .ref z23, .ref z24, .ref z25, .ref z26, .ref z27, .ref z28, .ref z29, .ref z30, .ref z31, .ref z32, .ref z33, .int 0, .long 0, .ref z36, .ref z37, .ref z38, .ref z39, .ref z40, .ref z41, .ref z42, .ref z43, .ref z44, .ref z45, .ref z46, .ref z47, .ref z48, .int 0, .int 10, .int 0, .int 0, .int 0, .int 0, .ref z55, .ref z56, .int 0, .int 0, .ref z59, .ref z60, .ref z61, .int 0, .long 0])), (z10, .inl (γ.2.1 0, 10, .inl gb_1330))] s H locs := by rw [ef_1338]; exact hw
  have h_1339 : f_1338 2 = 1000 := by rw [ef_1338]; rfl
  refine lv_iinc (v := 3) (lv' := [(1, .int 3), (0, .ref z)]) hx hb dX12_readsAll_30 hl (k := 0) rfl (by decide) (by decide) rfl (fun ls hl => ?_)
  refine lv_goto (tgt := 7) hx hb dX12_readsAll_33 (by decide) ?_
  refine lv_iload_n hx hb dX12_readsAll_7 rfl (lv_at hl 0 rfl) ?_
  refine lv_iconst (v := 4) hx hb dX12_readsAll_8 (by decide) ?_
  refine lv_icmp_ge (tgt := 36) hx hb dX12_readsAll_9 (by decide) (fun h => absurd h (by decide)) (fun _ => ?_)
  refine lv_aload_n hx hb dX12_readsAll_12 rfl (lv_at hl 1 rfl) ?_
  refine fg_RX12_35 hC hw 2 rfl rfl dX12_readsAll_13 ?_
  refine lv_iload_n hx hb dX12_readsAll_16 rfl (lv_at hl 0 rfl) ?_
  refine lv_sipush (v := 1000) hx hb dX12_readsAll_17 (by decide) ?_
  refine k_iast hC hw 0 rfl (k_in0 (by decide)) dX12_readsAll_20 (fun H locs hw => ?_)
  obtain ⟨f_1340, ef_1340⟩ : ∃ g, g = upd f_1336 (3 : Int32).toNatClampNeg 1000 := ⟨_, rfl⟩
  have hw : kW γ A [(z17, .inl (γ.2.1 0, 4, .inl f_1340)), (z18, .inl (γ.2.1 0, 4, .inl f_1338)), (z, .inr (11, [.int 0, .int 0, .ref z2, .int 0, .int 0, .int 0, .int 0, .long 0, .int 0, .int 0, .ref z10, .ref z11, .ref z12, .ref z13, .ref z14, .ref z15, .ref z16, .ref z17, .ref z18, .ref z19, .int 0, .int 0, .ref z22, .ref z23, .ref z24, .ref z25, .ref z26, .ref z27, .ref z28, .ref z29, .ref z30, .ref z31, .ref z32, .ref z33, .int 0, .long 0, .ref z36, .ref z37, .ref z38, .ref z39, .ref z40, .ref z41, .ref z42, .ref z43, .ref z44, .ref z45, .ref z46, .ref z47, .ref z48, .int 0, .int 10, .int 0, .int 0, .int 0, .int 0, .ref z55, .ref z56, .int 0, .int 0, .ref z59, .ref z60, .ref z61, .int 0, .long 0])), (z10, .inl (γ.2.1 0, 10, .inl gb_1330))] s H locs := by rw [ef_1340]; exact hw
  have h_1341 : f_1340 2 = 1000 := by rw [ef_1340]; exact h_1337
  have h_1342 : f_1340 3 = 1000 := by rw [ef_1340]; rfl
  refine lv_aload_n hx hb dX12_readsAll_21 rfl (lv_at hl 1 rfl) ?_
  refine fg_RX12_38 hC hw 2 rfl rfl dX12_readsAll_22 ?_
  refine lv_iload_n hx hb dX12_readsAll_25 rfl (lv_at hl 0 rfl) ?_
  refine lv_sipush (v := 1000) hx hb dX12_readsAll_26 (by decide) ?_
  refine k_iast hC hw 1 rfl (k_in0 (by decide)) dX12_readsAll_29 (fun H locs hw => ?_)
  obtain ⟨f_1343, ef_1343⟩ : ∃ g, g = upd f_1338 (3 : Int32).toNatClampNeg 1000 := ⟨_, rfl⟩
  have hw : kW γ A [(z17, .inl (γ.2.1 0, 4, .inl f_1340)), (z18, .inl (γ.2.1 0, 4, .inl f_1343)), (z, .inr (11, [.int 0, .int 0, .ref z2, .int 0, .int 0, .int 0, .int 0, .long 0, .int 0, .int 0, .ref z10, .ref z11, .ref z12, .ref z13, .ref z14, .ref z15, .ref z16, .ref z17, .ref z18, .ref z19, .int 0, .int 0, .ref z22, .ref z23, .ref z24, .ref z25, .ref z26, .ref z27, .ref z28, .ref z29, .ref z30, .ref z31, .ref z32, .ref z33, .int 0, .long 0, .ref z36, .ref z37, .ref z38, .ref z39, .ref z40, .ref z41, .ref z42, .ref z43, .ref z44, .ref z45, .ref z46, .ref z47, .ref z48, .int 0, .int 10, .int 0, .int 0, .int 0, .int 0, .ref z55, .ref z56, .int 0, .int 0, .ref z59, .ref z60, .ref z61, .int 0, .long 0])), (z10, .inl (γ.2.1 0, 10, .inl gb_1330))] s H locs := by rw [ef_1343]; exact hw
  have h_1344 : f_1343 2 = 1000 := by rw [ef_1343]; exact h_1339
  have h_1345 : f_1343 3 = 1000 := by rw [ef_1343]; rfl
  refine lv_iinc (v := 4) (lv' := [(1, .int 4), (0, .ref z)]) hx hb dX12_readsAll_30 hl (k := 0) rfl (by decide) (by decide) rfl (fun ls hl => ?_)
  refine lv_goto (tgt := 7) hx hb dX12_readsAll_33 (by decide) ?_
  refine lv_iload_n hx hb dX12_readsAll_7 rfl (lv_at hl 0 rfl) ?_
  refine lv_iconst (v := 4) hx hb dX12_readsAll_8 (by decide) ?_
  refine lv_icmp_ge (tgt := 36) hx hb dX12_readsAll_9 (by decide) (fun _ => ?_) (fun h => absurd (by decide) h)
  refine lv_aload_n hx hb dX12_readsAll_36 rfl (lv_at hl 1 rfl) ?_
  refine lv_iconst (v := 0) hx hb dX12_readsAll_37 (by decide) ?_
  refine fs_RX12_299 hC hw 2 rfl rfl rfl (Nat.le_of_ble_eq_true rfl) dX12_readsAll_38 (fun H locs hw => ?_)
  have hw : kW γ A [(z17, .inl (γ.2.1 0, 4, .inl f_1340)), (z18, .inl (γ.2.1 0, 4, .inl f_1343)), (z, .inr (11, [.int 0, .int 0, .ref z2, .int 0, .int 0, .int 0, .int 0, .long 0, .int 0, .int 0, .ref z10, .ref z11, .ref z12, .ref z13, .ref z14, .ref z15, .ref z16, .ref z17, .ref z18, .ref z19, .int 0, .int 0, .ref z22, .ref z23, .ref z24, .ref z25, .ref z26, .ref z27, .ref z28, .ref z29, .ref z30, .ref z31, .ref z32, .ref z33, .int 0, .long 0, .ref z36, .ref z37, .ref z38, .ref z39, .ref z40, .ref z41, .ref z42, .ref z43, .ref z44, .ref z45, .ref z46, .ref z47, .ref z48, .int 0, .int 10, .int 0, .int 0, .int 0, .int 0, .ref z55, .ref z56, .int 0, .int 0, .ref z59, .ref z60, .ref z61, .int 0, .long 0])), (z10, .inl (γ.2.1 0, 10, .inl gb_1330))] s H locs := hw
  refine lv_aload_n hx hb dX12_readsAll_41 rfl (lv_at hl 1 rfl) ?_
  refine lv_sipush (v := 1000) hx hb dX12_readsAll_42 (by decide) ?_
  refine fs_RX12_181 hC hw 2 rfl rfl rfl (Nat.le_of_ble_eq_true rfl) dX12_readsAll_45 (fun H locs hw => ?_)
  have hw : kW γ A [(z17, .inl (γ.2.1 0, 4, .inl f_1340)), (z18, .inl (γ.2.1 0, 4, .inl f_1343)), (z, .inr (11, [.int 0, .int 0, .ref z2, .int 0, .int 0, .int 0, .int 0, .long 0, .int 0, .int 0, .ref z10, .ref z11, .ref z12, .ref z13, .ref z14, .ref z15, .ref z16, .ref z17, .ref z18, .ref z19, .int 1000, .int 0, .ref z22, .ref z23, .ref z24, .ref z25, .ref z26, .ref z27, .ref z28, .ref z29, .ref z30, .ref z31, .ref z32, .ref z33, .int 0, .long 0, .ref z36, .ref z37, .ref z38, .ref z39, .ref z40, .ref z41, .ref z42, .ref z43, .ref z44, .ref z45, .ref z46, .ref z47, .ref z48, .int 0, .int 10, .int 0, .int 0, .int 0, .int 0, .ref z55, .ref z56, .int 0, .int 0, .ref z59, .ref z60, .ref z61, .int 0, .long 0])), (z10, .inl (γ.2.1 0, 10, .inl gb_1330))] s H locs := hw
  refine lv_aload_n hx hb dX12_readsAll_48 rfl (lv_at hl 1 rfl) ?_
  refine k_V (wr := [(z17, .inl (γ.2.1 0, 4, .inl f_1340)), (z18, .inl (γ.2.1 0, 4, .inl f_1343)), (z10, .inl (γ.2.1 0, 10, .inl gb_1330))]) 0 gw_1402 gw_1404 gp_53 gw_15 gw_1405 hd_X12_begins hC hw (c_X12_begins γ l z z2 z10 z11 z12 z13 z14 z15 z16 z17 z18 z19 z22 z23 z24 z25 z26 z27 z28 z29 z30 z31 z32 z33 z36 z37 z38 z39 z40 z41 z42 z43 z44 z45 z46 z47 z48 z55 z56 z59 z60 z61 0 0 0 0 0 0 0 0 1000 0 0 0 0 10 0 0 0 0 0 0 0 0) ⟨by decide, by decide⟩ ⟨by decide, by decide⟩ hl.1 rfl 2 rfl rfl rfl (Nat.le_of_ble_eq_true rfl) [2] [0, 1, 3] rfl rfl rfl rfl (by decide) dX12_readsAll_49 (fun r w1 H locs hq hw => ?_)
  obtain ⟨rfl, rfl⟩ := hq
  have hw : kW γ A [(z17, .inl (γ.2.1 0, 4, .inl f_1340)), (z18, .inl (γ.2.1 0, 4, .inl f_1343)), (z10, .inl (γ.2.1 0, 10, .inl gb_1330)), (z, .inr (11, [.int 0, .int 0, .ref z2, .int 0, .int 0, .int 0, .int 0, .long 0, .int 0, .int 0, .ref z10, .ref z11, .ref z12, .ref z13, .ref z14, .ref z15, .ref z16, .ref z17, .ref z18, .ref z19, .int 1000, .int 0, .ref z22, .ref z23, .ref z24, .ref z25, .ref z26, .ref z27, .ref z28, .ref z29, .ref z30, .ref z31, .ref z32, .ref z33, .int 0, .long 0, .ref z36, .ref z37, .ref z38, .ref z39, .ref z40, .ref z41, .ref z42, .ref z43, .ref z44, .ref z45, .ref z46, .ref z47, .ref z48, .int 0, .int 10, .int 0, .int 0, .int 0, .int 0, .ref z55, .ref z56, .int 0, .int 0, .ref z59, .ref z60, .ref z61, .int 0, .long 0]))] s H locs := hw
  refine W.eq (g2 := F0 m 52 ls []) rfl ?_
  refine lv_aload_n hx hb dX12_readsAll_52 rfl (lv_at hl 1 rfl) ?_
  refine fg_RX12_167 hC hw 3 rfl rfl dX12_readsAll_53 ?_
  refine lv_if_eq (tgt := 224) hx hb dX12_readsAll_56 (by decide) (fun _ => ?_) (fun h => absurd (by decide) h)
  refine lv_iconst (v := 1) hx hb dX12_readsAll_224 (by decide) ?_
  exact k_zret hC hr hlocks rfl hw [3, 2, 0, 1] rfl rfl ⟨gb_1330, f_1340, f_1343, rfl, rfl⟩ (by decide) (by decide) dX12_readsAll_225

set_option maxHeartbeats 4000000 in
set_option maxRecDepth 100000 in
theorem c_X12_lays (γ : kΓ) (l : Launch) (z : Nat) (z2 : Nat) (z10 : Nat) (z11 : Nat) (z12 : Nat) (z13 : Nat) (z14 : Nat) (z15 : Nat) (z16 : Nat) (z17 : Nat) (z18 : Nat) (z19 : Nat) (z22 : Nat) (z23 : Nat) (z24 : Nat) (z25 : Nat) (z26 : Nat) (z27 : Nat) (z28 : Nat) (z29 : Nat) (z30 : Nat) (z31 : Nat) (z32 : Nat) (z33 : Nat) (z36 : Nat) (z37 : Nat) (z38 : Nat) (z39 : Nat) (z40 : Nat) (z41 : Nat) (z42 : Nat) (z43 : Nat) (z44 : Nat) (z45 : Nat) (z46 : Nat) (z47 : Nat) (z48 : Nat) (z55 : Nat) (z56 : Nat) (z59 : Nat) (z60 : Nat) (z61 : Nat) (n0 : Int32) (n1 : Int32) (n3 : Int32) (n4 : Int32) (n5 : Int32) (n6 : Int32) (n7 : Int64) (n8 : Int32) (n9 : Int32) (n20 : Int32) (n21 : Int32) (n34 : Int32) (n35 : Int64) (n49 : Int32) (n50 : Int32) (n51 : Int32) (n52 : Int32) (n53 : Int32) (n54 : Int32) (n57 : Int32) (n58 : Int32) (n62 : Int32) (n63 : Int64) (w0 : Nat → Int64) (w1 : Nat → Int64) (w2 : Nat → Int32) (w3 : Nat → Int32) (w4 : Nat → Int32) (w5 : Nat → Int32) (w6 : Nat → Int32) (w7 : Nat → Int32) (w8 : Nat → Int32) (fa : Nat → Int32) : kM γ l yX12_lays cX12_lays 2 none ({ frames := 1, cells := 0, slots := 0, locals := 22 } : Room) [.ref z] [(z, .inr (11, [.int n0, .int n1, .ref z2, .int n3, .int n4, .int n5, .int n6, .long n7, .int n8, .int n9, .ref z10, .ref z11, .ref z12, .ref z13, .ref z14, .ref z15, .ref z16, .ref z17, .ref z18, .ref z19, .int n20, .int n21, .ref z22, .ref z23, .ref z24, .ref z25, .ref z26, .ref z27, .ref z28, .ref z29, .ref z30, .ref z31, .ref z32, .ref z33, .int n34, .long n35, .ref z36, .ref z37, .ref z38, .ref z39, .ref z40, .ref z41, .ref z42, .ref z43, .ref z44, .ref z45, .ref z46, .ref z47, .ref z48, .int n49, .int n50, .int n51, .int n52, .int n53, .int n54, .ref z55, .ref z56, .int n57, .int n58, .ref z59, .ref z60, .ref z61, .int n62, .long n63])), (z10, .inl (γ.2.1 0, 10, .inl fa)), (z11, .inl (γ.2.1 1, 16, .inr (.inl w0))), (z12, .inl (γ.2.1 1, 10, .inr (.inl w1))), (z13, .inl (γ.2.1 0, 16, .inl w2)), (z14, .inl (γ.2.1 0, 16, .inl w3)), (z15, .inl (γ.2.1 0, 16, .inl w4)), (z16, .inl (γ.2.1 0, 10, .inl w5)), (z19, .inl (γ.2.1 0, 2000, .inl w6)), (z17, .inl (γ.2.1 0, 4, .inl w7)), (z18, .inl (γ.2.1 0, 4, .inl w8))] (fun r w1 => r = none ∧ w1 = [(z, .inr (11, [.int n0, .int n1, .ref z2, .int n3, .int n4, .int n5, .int n6, .long n7, .int n8, .int n9, .ref z10, .ref z11, .ref z12, .ref z13, .ref z14, .ref z15, .ref z16, .ref z17, .ref z18, .ref z19, .int n20, .int n21, .ref z22, .ref z23, .ref z24, .ref z25, .ref z26, .ref z27, .ref z28, .ref z29, .ref z30, .ref z31, .ref z32, .ref z33, .int n34, .long n35, .ref z36, .ref z37, .ref z38, .ref z39, .ref z40, .ref z41, .ref z42, .ref z43, .ref z44, .ref z45, .ref z46, .ref z47, .ref z48, .int n49, .int n50, .int n51, .int n52, .int n53, .int n54, .ref z55, .ref z56, .int n57, .int n58, .ref z59, .ref z60, .ref z61, .int n62, .long n63]))]) := by
  refine k_ofW (by decide) (Nat.le_of_ble_eq_true rfl) ?_
  intro p e s m below meth c A ls hC hr hlocks hname hw hl
  have hx := hC.1
  have hb := hC.2.1
  have hl : lv_has ls 2 [(0, .ref z)] := hl
  refine lv_aload_n hx hb dX12_lays_0 rfl (lv_at hl 0 rfl) ?_
  refine fg_RX12_13 hC hw 0 rfl rfl dX12_lays_1 ?_
  refine lv_iconst (v := 5) hx hb dX12_lays_4 (by decide) ?_
  refine k_S (wr := [(z, .inr (11, [.int n0, .int n1, .ref z2, .int n3, .int n4, .int n5, .int n6, .long n7, .int n8, .int n9, .ref z10, .ref z11, .ref z12, .ref z13, .ref z14, .ref z15, .ref z16, .ref z17, .ref z18, .ref z19, .int n20, .int n21, .ref z22, .ref z23, .ref z24, .ref z25, .ref z26, .ref z27, .ref z28, .ref z29, .ref z30, .ref z31, .ref z32, .ref z33, .int n34, .long n35, .ref z36, .ref z37, .ref z38, .ref z39, .ref z40, .ref z41, .ref z42, .ref z43, .ref z44, .ref z45, .ref z46, .ref z47, .ref z48, .int n49, .int n50, .int n51, .int n52, .int n53, .int n54, .ref z55, .ref z56, .int n57, .int n58, .ref z59, .ref z60, .ref z61, .int n62, .long n63])), (z11, .inl (γ.2.1 1, 16, .inr (.inl w0))), (z12, .inl (γ.2.1 1, 10, .inr (.inl w1))), (z13, .inl (γ.2.1 0, 16, .inl w2)), (z14, .inl (γ.2.1 0, 16, .inl w3)), (z15, .inl (γ.2.1 0, 16, .inl w4)), (z16, .inl (γ.2.1 0, 10, .inl w5)), (z19, .inl (γ.2.1 0, 2000, .inl w6)), (z17, .inl (γ.2.1 0, 4, .inl w7)), (z18, .inl (γ.2.1 0, 4, .inl w8))]) 2 gw_1523 gw_1524 gw_15 gw_1525 hd_X12_shifts hC hw (c_X12_shifts γ l z10 10 fa 5 (by decide) (by decide)) ⟨by decide, by decide⟩ ⟨by decide, by decide⟩ hl.1 rfl rfl (Nat.le_of_ble_eq_true rfl) [1] [0, 2, 3, 4, 5, 6, 7, 8, 9, 10] rfl rfl rfl rfl (by decide) dX12_lays_5 (fun r w1 H locs hq hw => ?_)
  obtain ⟨f9_1346, rfl, rfl⟩ := hq
  have hw : kW γ A [(z, .inr (11, [.int n0, .int n1, .ref z2, .int n3, .int n4, .int n5, .int n6, .long n7, .int n8, .int n9, .ref z10, .ref z11, .ref z12, .ref z13, .ref z14, .ref z15, .ref z16, .ref z17, .ref z18, .ref z19, .int n20, .int n21, .ref z22, .ref z23, .ref z24, .ref z25, .ref z26, .ref z27, .ref z28, .ref z29, .ref z30, .ref z31, .ref z32, .ref z33, .int n34, .long n35, .ref z36, .ref z37, .ref z38, .ref z39, .ref z40, .ref z41, .ref z42, .ref z43, .ref z44, .ref z45, .ref z46, .ref z47, .ref z48, .int n49, .int n50, .int n51, .int n52, .int n53, .int n54, .ref z55, .ref z56, .int n57, .int n58, .ref z59, .ref z60, .ref z61, .int n62, .long n63])), (z11, .inl (γ.2.1 1, 16, .inr (.inl w0))), (z12, .inl (γ.2.1 1, 10, .inr (.inl w1))), (z13, .inl (γ.2.1 0, 16, .inl w2)), (z14, .inl (γ.2.1 0, 16, .inl w3)), (z15, .inl (γ.2.1 0, 16, .inl w4)), (z16, .inl (γ.2.1 0, 10, .inl w5)), (z19, .inl (γ.2.1 0, 2000, .inl w6)), (z17, .inl (γ.2.1 0, 4, .inl w7)), (z18, .inl (γ.2.1 0, 4, .inl w8)), (z10, .inl (γ.2.1 0, 10, .inl f9_1346))] s H locs := hw
  refine W.eq (g2 := F0 m 8 ls []) rfl ?_
  refine lv_aload_n hx hb dX12_lays_8 rfl (lv_at hl 0 rfl) ?_
  refine fg_RX12_16 hC hw 0 rfl rfl dX12_lays_9 ?_
  refine lv_bipush (v := 8) hx hb dX12_lays_12 (by decide) ?_
  refine k_S (wr := [(z, .inr (11, [.int n0, .int n1, .ref z2, .int n3, .int n4, .int n5, .int n6, .long n7, .int n8, .int n9, .ref z10, .ref z11, .ref z12, .ref z13, .ref z14, .ref z15, .ref z16, .ref z17, .ref z18, .ref z19, .int n20, .int n21, .ref z22, .ref z23, .ref z24, .ref z25, .ref z26, .ref z27, .ref z28, .ref z29, .ref z30, .ref z31, .ref z32, .ref z33, .int n34, .long n35, .ref z36, .ref z37, .ref z38, .ref z39, .ref z40, .ref z41, .ref z42, .ref z43, .ref z44, .ref z45, .ref z46, .ref z47, .ref z48, .int n49, .int n50, .int n51, .int n52, .int n53, .int n54, .ref z55, .ref z56, .int n57, .int n58, .ref z59, .ref z60, .ref z61, .int n62, .long n63])), (z12, .inl (γ.2.1 1, 10, .inr (.inl w1))), (z13, .inl (γ.2.1 0, 16, .inl w2)), (z14, .inl (γ.2.1 0, 16, .inl w3)), (z15, .inl (γ.2.1 0, 16, .inl w4)), (z16, .inl (γ.2.1 0, 10, .inl w5)), (z19, .inl (γ.2.1 0, 2000, .inl w6)), (z17, .inl (γ.2.1 0, 4, .inl w7)), (z18, .inl (γ.2.1 0, 4, .inl w8)), (z10, .inl (γ.2.1 0, 10, .inl f9_1346))]) 2 gw_1526 gw_1527 gw_15 gw_1528 hd_X12_shiftsNames hC hw (c_X12_shiftsNames γ l z11 16 w0 8 (by decide) (by decide)) ⟨by decide, by decide⟩ ⟨by decide, by decide⟩ hl.1 rfl rfl (Nat.le_of_ble_eq_true rfl) [1] [0, 2, 3, 4, 5, 6, 7, 8, 9, 10] rfl rfl rfl rfl (by decide) dX12_lays_14 (fun r w1 H locs hq hw => ?_)
  obtain ⟨f9_1347, rfl, rfl⟩ := hq
  have hw : kW γ A [(z, .inr (11, [.int n0, .int n1, .ref z2, .int n3, .int n4, .int n5, .int n6, .long n7, .int n8, .int n9, .ref z10, .ref z11, .ref z12, .ref z13, .ref z14, .ref z15, .ref z16, .ref z17, .ref z18, .ref z19, .int n20, .int n21, .ref z22, .ref z23, .ref z24, .ref z25, .ref z26, .ref z27, .ref z28, .ref z29, .ref z30, .ref z31, .ref z32, .ref z33, .int n34, .long n35, .ref z36, .ref z37, .ref z38, .ref z39, .ref z40, .ref z41, .ref z42, .ref z43, .ref z44, .ref z45, .ref z46, .ref z47, .ref z48, .int n49, .int n50, .int n51, .int n52, .int n53, .int n54, .ref z55, .ref z56, .int n57, .int n58, .ref z59, .ref z60, .ref z61, .int n62, .long n63])), (z12, .inl (γ.2.1 1, 10, .inr (.inl w1))), (z13, .inl (γ.2.1 0, 16, .inl w2)), (z14, .inl (γ.2.1 0, 16, .inl w3)), (z15, .inl (γ.2.1 0, 16, .inl w4)), (z16, .inl (γ.2.1 0, 10, .inl w5)), (z19, .inl (γ.2.1 0, 2000, .inl w6)), (z17, .inl (γ.2.1 0, 4, .inl w7)), (z18, .inl (γ.2.1 0, 4, .inl w8)), (z10, .inl (γ.2.1 0, 10, .inl f9_1346)), (z11, .inl (γ.2.1 1, 16, .inr (.inl f9_1347)))] s H locs := hw
  refine W.eq (g2 := F0 m 17 ls []) rfl ?_
  refine lv_aload_n hx hb dX12_lays_17 rfl (lv_at hl 0 rfl) ?_
  refine fg_RX12_20 hC hw 0 rfl rfl dX12_lays_18 ?_
  refine lv_iconst (v := 5) hx hb dX12_lays_21 (by decide) ?_
  refine k_S (wr := [(z, .inr (11, [.int n0, .int n1, .ref z2, .int n3, .int n4, .int n5, .int n6, .long n7, .int n8, .int n9, .ref z10, .ref z11, .ref z12, .ref z13, .ref z14, .ref z15, .ref z16, .ref z17, .ref z18, .ref z19, .int n20, .int n21, .ref z22, .ref z23, .ref z24, .ref z25, .ref z26, .ref z27, .ref z28, .ref z29, .ref z30, .ref z31, .ref z32, .ref z33, .int n34, .long n35, .ref z36, .ref z37, .ref z38, .ref z39, .ref z40, .ref z41, .ref z42, .ref z43, .ref z44, .ref z45, .ref z46, .ref z47, .ref z48, .int n49, .int n50, .int n51, .int n52, .int n53, .int n54, .ref z55, .ref z56, .int n57, .int n58, .ref z59, .ref z60, .ref z61, .int n62, .long n63])), (z13, .inl (γ.2.1 0, 16, .inl w2)), (z14, .inl (γ.2.1 0, 16, .inl w3)), (z15, .inl (γ.2.1 0, 16, .inl w4)), (z16, .inl (γ.2.1 0, 10, .inl w5)), (z19, .inl (γ.2.1 0, 2000, .inl w6)), (z17, .inl (γ.2.1 0, 4, .inl w7)), (z18, .inl (γ.2.1 0, 4, .inl w8)), (z10, .inl (γ.2.1 0, 10, .inl f9_1346)), (z11, .inl (γ.2.1 1, 16, .inr (.inl f9_1347)))]) 2 gw_1526 gw_1527 gw_15 gw_1528 hd_X12_shiftsNames hC hw (c_X12_shiftsNames γ l z12 10 w1 5 (by decide) (by decide)) ⟨by decide, by decide⟩ ⟨by decide, by decide⟩ hl.1 rfl rfl (Nat.le_of_ble_eq_true rfl) [1] [0, 2, 3, 4, 5, 6, 7, 8, 9, 10] rfl rfl rfl rfl (by decide) dX12_lays_22 (fun r w1 H locs hq hw => ?_)
  obtain ⟨f9_1348, rfl, rfl⟩ := hq
  have hw : kW γ A [(z, .inr (11, [.int n0, .int n1, .ref z2, .int n3, .int n4, .int n5, .int n6, .long n7, .int n8, .int n9, .ref z10, .ref z11, .ref z12, .ref z13, .ref z14, .ref z15, .ref z16, .ref z17, .ref z18, .ref z19, .int n20, .int n21, .ref z22, .ref z23, .ref z24, .ref z25, .ref z26, .ref z27, .ref z28, .ref z29, .ref z30, .ref z31, .ref z32, .ref z33, .int n34, .long n35, .ref z36, .ref z37, .ref z38, .ref z39, .ref z40, .ref z41, .ref z42, .ref z43, .ref z44, .ref z45, .ref z46, .ref z47, .ref z48, .int n49, .int n50, .int n51, .int n52, .int n53, .int n54, .ref z55, .ref z56, .int n57, .int n58, .ref z59, .ref z60, .ref z61, .int n62, .long n63])), (z13, .inl (γ.2.1 0, 16, .inl w2)), (z14, .inl (γ.2.1 0, 16, .inl w3)), (z15, .inl (γ.2.1 0, 16, .inl w4)), (z16, .inl (γ.2.1 0, 10, .inl w5)), (z19, .inl (γ.2.1 0, 2000, .inl w6)), (z17, .inl (γ.2.1 0, 4, .inl w7)), (z18, .inl (γ.2.1 0, 4, .inl w8)), (z10, .inl (γ.2.1 0, 10, .inl f9_1346)), (z11, .inl (γ.2.1 1, 16, .inr (.inl f9_1347))), (z12, .inl (γ.2.1 1, 10, .inr (.inl f9_1348)))] s H locs := hw
  refine W.eq (g2 := F0 m 25 ls []) rfl ?_
  refine lv_aload_n hx hb dX12_lays_25 rfl (lv_at hl 0 rfl) ?_
  refine fg_RX12_23 hC hw 0 rfl rfl dX12_lays_26 ?_
  refine lv_bipush (v := 8) hx hb dX12_lays_29 (by decide) ?_
  refine k_S (wr := [(z, .inr (11, [.int n0, .int n1, .ref z2, .int n3, .int n4, .int n5, .int n6, .long n7, .int n8, .int n9, .ref z10, .ref z11, .ref z12, .ref z13, .ref z14, .ref z15, .ref z16, .ref z17, .ref z18, .ref z19, .int n20, .int n21, .ref z22, .ref z23, .ref z24, .ref z25, .ref z26, .ref z27, .ref z28, .ref z29, .ref z30, .ref z31, .ref z32, .ref z33, .int n34, .long n35, .ref z36, .ref z37, .ref z38, .ref z39, .ref z40, .ref z41, .ref z42, .ref z43, .ref z44, .ref z45, .ref z46, .ref z47, .ref z48, .int n49, .int n50, .int n51, .int n52, .int n53, .int n54, .ref z55, .ref z56, .int n57, .int n58, .ref z59, .ref z60, .ref z61, .int n62, .long n63])), (z14, .inl (γ.2.1 0, 16, .inl w3)), (z15, .inl (γ.2.1 0, 16, .inl w4)), (z16, .inl (γ.2.1 0, 10, .inl w5)), (z19, .inl (γ.2.1 0, 2000, .inl w6)), (z17, .inl (γ.2.1 0, 4, .inl w7)), (z18, .inl (γ.2.1 0, 4, .inl w8)), (z10, .inl (γ.2.1 0, 10, .inl f9_1346)), (z11, .inl (γ.2.1 1, 16, .inr (.inl f9_1347))), (z12, .inl (γ.2.1 1, 10, .inr (.inl f9_1348)))]) 2 gw_1523 gw_1524 gw_15 gw_1525 hd_X12_shifts hC hw (c_X12_shifts γ l z13 16 w2 8 (by decide) (by decide)) ⟨by decide, by decide⟩ ⟨by decide, by decide⟩ hl.1 rfl rfl (Nat.le_of_ble_eq_true rfl) [1] [0, 2, 3, 4, 5, 6, 7, 8, 9, 10] rfl rfl rfl rfl (by decide) dX12_lays_31 (fun r w1 H locs hq hw => ?_)
  obtain ⟨f9_1349, rfl, rfl⟩ := hq
  have hw : kW γ A [(z, .inr (11, [.int n0, .int n1, .ref z2, .int n3, .int n4, .int n5, .int n6, .long n7, .int n8, .int n9, .ref z10, .ref z11, .ref z12, .ref z13, .ref z14, .ref z15, .ref z16, .ref z17, .ref z18, .ref z19, .int n20, .int n21, .ref z22, .ref z23, .ref z24, .ref z25, .ref z26, .ref z27, .ref z28, .ref z29, .ref z30, .ref z31, .ref z32, .ref z33, .int n34, .long n35, .ref z36, .ref z37, .ref z38, .ref z39, .ref z40, .ref z41, .ref z42, .ref z43, .ref z44, .ref z45, .ref z46, .ref z47, .ref z48, .int n49, .int n50, .int n51, .int n52, .int n53, .int n54, .ref z55, .ref z56, .int n57, .int n58, .ref z59, .ref z60, .ref z61, .int n62, .long n63])), (z14, .inl (γ.2.1 0, 16, .inl w3)), (z15, .inl (γ.2.1 0, 16, .inl w4)), (z16, .inl (γ.2.1 0, 10, .inl w5)), (z19, .inl (γ.2.1 0, 2000, .inl w6)), (z17, .inl (γ.2.1 0, 4, .inl w7)), (z18, .inl (γ.2.1 0, 4, .inl w8)), (z10, .inl (γ.2.1 0, 10, .inl f9_1346)), (z11, .inl (γ.2.1 1, 16, .inr (.inl f9_1347))), (z12, .inl (γ.2.1 1, 10, .inr (.inl f9_1348))), (z13, .inl (γ.2.1 0, 16, .inl f9_1349))] s H locs := hw
  refine W.eq (g2 := F0 m 34 ls []) rfl ?_
  refine lv_aload_n hx hb dX12_lays_34 rfl (lv_at hl 0 rfl) ?_
  refine fg_RX12_26 hC hw 0 rfl rfl dX12_lays_35 ?_
  refine lv_bipush (v := 8) hx hb dX12_lays_38 (by decide) ?_
  refine k_S (wr := [(z, .inr (11, [.int n0, .int n1, .ref z2, .int n3, .int n4, .int n5, .int n6, .long n7, .int n8, .int n9, .ref z10, .ref z11, .ref z12, .ref z13, .ref z14, .ref z15, .ref z16, .ref z17, .ref z18, .ref z19, .int n20, .int n21, .ref z22, .ref z23, .ref z24, .ref z25, .ref z26, .ref z27, .ref z28, .ref z29, .ref z30, .ref z31, .ref z32, .ref z33, .int n34, .long n35, .ref z36, .ref z37, .ref z38, .ref z39, .ref z40, .ref z41, .ref z42, .ref z43, .ref z44, .ref z45, .ref z46, .ref z47, .ref z48, .int n49, .int n50, .int n51, .int n52, .int n53, .int n54, .ref z55, .ref z56, .int n57, .int n58, .ref z59, .ref z60, .ref z61, .int n62, .long n63])), (z15, .inl (γ.2.1 0, 16, .inl w4)), (z16, .inl (γ.2.1 0, 10, .inl w5)), (z19, .inl (γ.2.1 0, 2000, .inl w6)), (z17, .inl (γ.2.1 0, 4, .inl w7)), (z18, .inl (γ.2.1 0, 4, .inl w8)), (z10, .inl (γ.2.1 0, 10, .inl f9_1346)), (z11, .inl (γ.2.1 1, 16, .inr (.inl f9_1347))), (z12, .inl (γ.2.1 1, 10, .inr (.inl f9_1348))), (z13, .inl (γ.2.1 0, 16, .inl f9_1349))]) 2 gw_1523 gw_1524 gw_15 gw_1525 hd_X12_shifts hC hw (c_X12_shifts γ l z14 16 w3 8 (by decide) (by decide)) ⟨by decide, by decide⟩ ⟨by decide, by decide⟩ hl.1 rfl rfl (Nat.le_of_ble_eq_true rfl) [1] [0, 2, 3, 4, 5, 6, 7, 8, 9, 10] rfl rfl rfl rfl (by decide) dX12_lays_40 (fun r w1 H locs hq hw => ?_)
  obtain ⟨f9_1350, rfl, rfl⟩ := hq
  have hw : kW γ A [(z, .inr (11, [.int n0, .int n1, .ref z2, .int n3, .int n4, .int n5, .int n6, .long n7, .int n8, .int n9, .ref z10, .ref z11, .ref z12, .ref z13, .ref z14, .ref z15, .ref z16, .ref z17, .ref z18, .ref z19, .int n20, .int n21, .ref z22, .ref z23, .ref z24, .ref z25, .ref z26, .ref z27, .ref z28, .ref z29, .ref z30, .ref z31, .ref z32, .ref z33, .int n34, .long n35, .ref z36, .ref z37, .ref z38, .ref z39, .ref z40, .ref z41, .ref z42, .ref z43, .ref z44, .ref z45, .ref z46, .ref z47, .ref z48, .int n49, .int n50, .int n51, .int n52, .int n53, .int n54, .ref z55, .ref z56, .int n57, .int n58, .ref z59, .ref z60, .ref z61, .int n62, .long n63])), (z15, .inl (γ.2.1 0, 16, .inl w4)), (z16, .inl (γ.2.1 0, 10, .inl w5)), (z19, .inl (γ.2.1 0, 2000, .inl w6)), (z17, .inl (γ.2.1 0, 4, .inl w7)), (z18, .inl (γ.2.1 0, 4, .inl w8)), (z10, .inl (γ.2.1 0, 10, .inl f9_1346)), (z11, .inl (γ.2.1 1, 16, .inr (.inl f9_1347))), (z12, .inl (γ.2.1 1, 10, .inr (.inl f9_1348))), (z13, .inl (γ.2.1 0, 16, .inl f9_1349)), (z14, .inl (γ.2.1 0, 16, .inl f9_1350))] s H locs := hw
  refine W.eq (g2 := F0 m 43 ls []) rfl ?_
  refine lv_aload_n hx hb dX12_lays_43 rfl (lv_at hl 0 rfl) ?_
  refine fg_RX12_29 hC hw 0 rfl rfl dX12_lays_44 ?_
  refine lv_bipush (v := 8) hx hb dX12_lays_47 (by decide) ?_
  refine k_S (wr := [(z, .inr (11, [.int n0, .int n1, .ref z2, .int n3, .int n4, .int n5, .int n6, .long n7, .int n8, .int n9, .ref z10, .ref z11, .ref z12, .ref z13, .ref z14, .ref z15, .ref z16, .ref z17, .ref z18, .ref z19, .int n20, .int n21, .ref z22, .ref z23, .ref z24, .ref z25, .ref z26, .ref z27, .ref z28, .ref z29, .ref z30, .ref z31, .ref z32, .ref z33, .int n34, .long n35, .ref z36, .ref z37, .ref z38, .ref z39, .ref z40, .ref z41, .ref z42, .ref z43, .ref z44, .ref z45, .ref z46, .ref z47, .ref z48, .int n49, .int n50, .int n51, .int n52, .int n53, .int n54, .ref z55, .ref z56, .int n57, .int n58, .ref z59, .ref z60, .ref z61, .int n62, .long n63])), (z16, .inl (γ.2.1 0, 10, .inl w5)), (z19, .inl (γ.2.1 0, 2000, .inl w6)), (z17, .inl (γ.2.1 0, 4, .inl w7)), (z18, .inl (γ.2.1 0, 4, .inl w8)), (z10, .inl (γ.2.1 0, 10, .inl f9_1346)), (z11, .inl (γ.2.1 1, 16, .inr (.inl f9_1347))), (z12, .inl (γ.2.1 1, 10, .inr (.inl f9_1348))), (z13, .inl (γ.2.1 0, 16, .inl f9_1349)), (z14, .inl (γ.2.1 0, 16, .inl f9_1350))]) 2 gw_1523 gw_1524 gw_15 gw_1525 hd_X12_shifts hC hw (c_X12_shifts γ l z15 16 w4 8 (by decide) (by decide)) ⟨by decide, by decide⟩ ⟨by decide, by decide⟩ hl.1 rfl rfl (Nat.le_of_ble_eq_true rfl) [1] [0, 2, 3, 4, 5, 6, 7, 8, 9, 10] rfl rfl rfl rfl (by decide) dX12_lays_49 (fun r w1 H locs hq hw => ?_)
  obtain ⟨f9_1351, rfl, rfl⟩ := hq
  have hw : kW γ A [(z, .inr (11, [.int n0, .int n1, .ref z2, .int n3, .int n4, .int n5, .int n6, .long n7, .int n8, .int n9, .ref z10, .ref z11, .ref z12, .ref z13, .ref z14, .ref z15, .ref z16, .ref z17, .ref z18, .ref z19, .int n20, .int n21, .ref z22, .ref z23, .ref z24, .ref z25, .ref z26, .ref z27, .ref z28, .ref z29, .ref z30, .ref z31, .ref z32, .ref z33, .int n34, .long n35, .ref z36, .ref z37, .ref z38, .ref z39, .ref z40, .ref z41, .ref z42, .ref z43, .ref z44, .ref z45, .ref z46, .ref z47, .ref z48, .int n49, .int n50, .int n51, .int n52, .int n53, .int n54, .ref z55, .ref z56, .int n57, .int n58, .ref z59, .ref z60, .ref z61, .int n62, .long n63])), (z16, .inl (γ.2.1 0, 10, .inl w5)), (z19, .inl (γ.2.1 0, 2000, .inl w6)), (z17, .inl (γ.2.1 0, 4, .inl w7)), (z18, .inl (γ.2.1 0, 4, .inl w8)), (z10, .inl (γ.2.1 0, 10, .inl f9_1346)), (z11, .inl (γ.2.1 1, 16, .inr (.inl f9_1347))), (z12, .inl (γ.2.1 1, 10, .inr (.inl f9_1348))), (z13, .inl (γ.2.1 0, 16, .inl f9_1349)), (z14, .inl (γ.2.1 0, 16, .inl f9_1350)), (z15, .inl (γ.2.1 0, 16, .inl f9_1351))] s H locs := hw
  refine W.eq (g2 := F0 m 52 ls []) rfl ?_
  refine lv_aload_n hx hb dX12_lays_52 rfl (lv_at hl 0 rfl) ?_
  refine fg_RX12_32 hC hw 0 rfl rfl dX12_lays_53 ?_
  refine lv_iconst (v := 5) hx hb dX12_lays_56 (by decide) ?_
  refine k_S (wr := [(z, .inr (11, [.int n0, .int n1, .ref z2, .int n3, .int n4, .int n5, .int n6, .long n7, .int n8, .int n9, .ref z10, .ref z11, .ref z12, .ref z13, .ref z14, .ref z15, .ref z16, .ref z17, .ref z18, .ref z19, .int n20, .int n21, .ref z22, .ref z23, .ref z24, .ref z25, .ref z26, .ref z27, .ref z28, .ref z29, .ref z30, .ref z31, .ref z32, .ref z33, .int n34, .long n35, .ref z36, .ref z37, .ref z38, .ref z39, .ref z40, .ref z41, .ref z42, .ref z43, .ref z44, .ref z45, .ref z46, .ref z47, .ref z48, .int n49, .int n50, .int n51, .int n52, .int n53, .int n54, .ref z55, .ref z56, .int n57, .int n58, .ref z59, .ref z60, .ref z61, .int n62, .long n63])), (z19, .inl (γ.2.1 0, 2000, .inl w6)), (z17, .inl (γ.2.1 0, 4, .inl w7)), (z18, .inl (γ.2.1 0, 4, .inl w8)), (z10, .inl (γ.2.1 0, 10, .inl f9_1346)), (z11, .inl (γ.2.1 1, 16, .inr (.inl f9_1347))), (z12, .inl (γ.2.1 1, 10, .inr (.inl f9_1348))), (z13, .inl (γ.2.1 0, 16, .inl f9_1349)), (z14, .inl (γ.2.1 0, 16, .inl f9_1350)), (z15, .inl (γ.2.1 0, 16, .inl f9_1351))]) 2 gw_1523 gw_1524 gw_15 gw_1525 hd_X12_shifts hC hw (c_X12_shifts γ l z16 10 w5 5 (by decide) (by decide)) ⟨by decide, by decide⟩ ⟨by decide, by decide⟩ hl.1 rfl rfl (Nat.le_of_ble_eq_true rfl) [1] [0, 2, 3, 4, 5, 6, 7, 8, 9, 10] rfl rfl rfl rfl (by decide) dX12_lays_57 (fun r w1 H locs hq hw => ?_)
  obtain ⟨f9_1352, rfl, rfl⟩ := hq
  have hw : kW γ A [(z, .inr (11, [.int n0, .int n1, .ref z2, .int n3, .int n4, .int n5, .int n6, .long n7, .int n8, .int n9, .ref z10, .ref z11, .ref z12, .ref z13, .ref z14, .ref z15, .ref z16, .ref z17, .ref z18, .ref z19, .int n20, .int n21, .ref z22, .ref z23, .ref z24, .ref z25, .ref z26, .ref z27, .ref z28, .ref z29, .ref z30, .ref z31, .ref z32, .ref z33, .int n34, .long n35, .ref z36, .ref z37, .ref z38, .ref z39, .ref z40, .ref z41, .ref z42, .ref z43, .ref z44, .ref z45, .ref z46, .ref z47, .ref z48, .int n49, .int n50, .int n51, .int n52, .int n53, .int n54, .ref z55, .ref z56, .int n57, .int n58, .ref z59, .ref z60, .ref z61, .int n62, .long n63])), (z19, .inl (γ.2.1 0, 2000, .inl w6)), (z17, .inl (γ.2.1 0, 4, .inl w7)), (z18, .inl (γ.2.1 0, 4, .inl w8)), (z10, .inl (γ.2.1 0, 10, .inl f9_1346)), (z11, .inl (γ.2.1 1, 16, .inr (.inl f9_1347))), (z12, .inl (γ.2.1 1, 10, .inr (.inl f9_1348))), (z13, .inl (γ.2.1 0, 16, .inl f9_1349)), (z14, .inl (γ.2.1 0, 16, .inl f9_1350)), (z15, .inl (γ.2.1 0, 16, .inl f9_1351)), (z16, .inl (γ.2.1 0, 10, .inl f9_1352))] s H locs := hw
  refine W.eq (g2 := F0 m 60 ls []) rfl ?_
  refine lv_aload_n hx hb dX12_lays_60 rfl (lv_at hl 0 rfl) ?_
  refine fg_RX12_41 hC hw 0 rfl rfl dX12_lays_61 ?_
  refine lv_sipush (v := 1000) hx hb dX12_lays_64 (by decide) ?_
  refine k_S (wr := [(z, .inr (11, [.int n0, .int n1, .ref z2, .int n3, .int n4, .int n5, .int n6, .long n7, .int n8, .int n9, .ref z10, .ref z11, .ref z12, .ref z13, .ref z14, .ref z15, .ref z16, .ref z17, .ref z18, .ref z19, .int n20, .int n21, .ref z22, .ref z23, .ref z24, .ref z25, .ref z26, .ref z27, .ref z28, .ref z29, .ref z30, .ref z31, .ref z32, .ref z33, .int n34, .long n35, .ref z36, .ref z37, .ref z38, .ref z39, .ref z40, .ref z41, .ref z42, .ref z43, .ref z44, .ref z45, .ref z46, .ref z47, .ref z48, .int n49, .int n50, .int n51, .int n52, .int n53, .int n54, .ref z55, .ref z56, .int n57, .int n58, .ref z59, .ref z60, .ref z61, .int n62, .long n63])), (z17, .inl (γ.2.1 0, 4, .inl w7)), (z18, .inl (γ.2.1 0, 4, .inl w8)), (z10, .inl (γ.2.1 0, 10, .inl f9_1346)), (z11, .inl (γ.2.1 1, 16, .inr (.inl f9_1347))), (z12, .inl (γ.2.1 1, 10, .inr (.inl f9_1348))), (z13, .inl (γ.2.1 0, 16, .inl f9_1349)), (z14, .inl (γ.2.1 0, 16, .inl f9_1350)), (z15, .inl (γ.2.1 0, 16, .inl f9_1351)), (z16, .inl (γ.2.1 0, 10, .inl f9_1352))]) 2 gw_1523 gw_1524 gw_15 gw_1525 hd_X12_shifts hC hw (c_X12_shifts γ l z19 2000 w6 1000 (by decide) (by decide)) ⟨by decide, by decide⟩ ⟨by decide, by decide⟩ hl.1 rfl rfl (Nat.le_of_ble_eq_true rfl) [1] [0, 2, 3, 4, 5, 6, 7, 8, 9, 10] rfl rfl rfl rfl (by decide) dX12_lays_67 (fun r w1 H locs hq hw => ?_)
  obtain ⟨f9_1353, rfl, rfl⟩ := hq
  have hw : kW γ A [(z, .inr (11, [.int n0, .int n1, .ref z2, .int n3, .int n4, .int n5, .int n6, .long n7, .int n8, .int n9, .ref z10, .ref z11, .ref z12, .ref z13, .ref z14, .ref z15, .ref z16, .ref z17, .ref z18, .ref z19, .int n20, .int n21, .ref z22, .ref z23, .ref z24, .ref z25, .ref z26, .ref z27, .ref z28, .ref z29, .ref z30, .ref z31, .ref z32, .ref z33, .int n34, .long n35, .ref z36, .ref z37, .ref z38, .ref z39, .ref z40, .ref z41, .ref z42, .ref z43, .ref z44, .ref z45, .ref z46, .ref z47, .ref z48, .int n49, .int n50, .int n51, .int n52, .int n53, .int n54, .ref z55, .ref z56, .int n57, .int n58, .ref z59, .ref z60, .ref z61, .int n62, .long n63])), (z17, .inl (γ.2.1 0, 4, .inl w7)), (z18, .inl (γ.2.1 0, 4, .inl w8)), (z10, .inl (γ.2.1 0, 10, .inl f9_1346)), (z11, .inl (γ.2.1 1, 16, .inr (.inl f9_1347))), (z12, .inl (γ.2.1 1, 10, .inr (.inl f9_1348))), (z13, .inl (γ.2.1 0, 16, .inl f9_1349)), (z14, .inl (γ.2.1 0, 16, .inl f9_1350)), (z15, .inl (γ.2.1 0, 16, .inl f9_1351)), (z16, .inl (γ.2.1 0, 10, .inl f9_1352)), (z19, .inl (γ.2.1 0, 2000, .inl f9_1353))] s H locs := hw
  refine W.eq (g2 := F0 m 70 ls []) rfl ?_
  refine lv_iconst (v := 0) hx hb dX12_lays_70 (by decide) ?_
  refine lv_istore_n (lv' := [(1, .int 0), (0, .ref z)]) hx hb dX12_lays_71 rfl hl (by decide) rfl (fun ls hl => ?_)
  refine lv_iload_n hx hb dX12_lays_72 rfl (lv_at hl 0 rfl) ?_
  refine lv_iconst (v := 2) hx hb dX12_lays_73 (by decide) ?_
  refine lv_icmp_ge (tgt := 119) hx hb dX12_lays_74 (by decide) (fun h => absurd h (by decide)) (fun _ => ?_)
  refine lv_aload_n hx hb dX12_lays_77 rfl (lv_at hl 1 rfl) ?_
  refine fg_RX12_35 hC hw 0 rfl rfl dX12_lays_78 ?_
  refine lv_iload_n hx hb dX12_lays_81 rfl (lv_at hl 0 rfl) ?_
  refine lv_aload_n hx hb dX12_lays_82 rfl (lv_at hl 1 rfl) ?_
  refine fg_RX12_35 hC hw 0 rfl rfl dX12_lays_83 ?_
  refine lv_iconst (v := 2) hx hb dX12_lays_86 (by decide) ?_
  refine lv_iload_n hx hb dX12_lays_87 rfl (lv_at hl 0 rfl) ?_
  refine lv_iadd hx hb dX12_lays_88 ?_
  refine lv_topi (fun x_1354 ex_1354 => ?_)
  obtain rfl : x_1354 = 2 := ex_1354.trans (by decide)
  refine k_iald hC hw 1 rfl (k_in0 (by decide)) dX12_lays_89 ?_
  refine lv_topi (fun x_1355 ex_1355 => ?_)
  refine lv_sipush (v := 1000) hx hb dX12_lays_90 (by decide) ?_
  refine lv_isub hx hb dX12_lays_93 ?_
  refine lv_topi (fun x_1356 ex_1356 => ?_)
  refine k_iast hC hw 1 rfl (k_in0 (by decide)) dX12_lays_94 (fun H locs hw => ?_)
  obtain ⟨f_1357, ef_1357⟩ : ∃ g, g = upd w7 (0 : Int32).toNatClampNeg x_1356 := ⟨_, rfl⟩
  have hw : kW γ A [(z, .inr (11, [.int n0, .int n1, .ref z2, .int n3, .int n4, .int n5, .int n6, .long n7, .int n8, .int n9, .ref z10, .ref z11, .ref z12, .ref z13, .ref z14, .ref z15, .ref z16, .ref z17, .ref z18, .ref z19, .int n20, .int n21, .ref z22, .ref z23, .ref z24, .ref z25, .ref z26, .ref z27, .ref z28, .ref z29, .ref z30, .ref z31, .ref z32, .ref z33, .int n34, .long n35, .ref z36, .ref z37, .ref z38, .ref z39, .ref z40, .ref z41, .ref z42, .ref z43, .ref z44, .ref z45, .ref z46, .ref z47, .ref z48, .int n49, .int n50, .int n51, .int n52, .int n53, .int n54, .ref z55, .ref z56, .int n57, .int n58, .ref z59, .ref z60, .ref z61, .int n62, .long n63])), (z17, .inl (γ.2.1 0, 4, .inl f_1357)), (z18, .inl (γ.2.1 0, 4, .inl w8)), (z10, .inl (γ.2.1 0, 10, .inl f9_1346)), (z11, .inl (γ.2.1 1, 16, .inr (.inl f9_1347))), (z12, .inl (γ.2.1 1, 10, .inr (.inl f9_1348))), (z13, .inl (γ.2.1 0, 16, .inl f9_1349)), (z14, .inl (γ.2.1 0, 16, .inl f9_1350)), (z15, .inl (γ.2.1 0, 16, .inl f9_1351)), (z16, .inl (γ.2.1 0, 10, .inl f9_1352)), (z19, .inl (γ.2.1 0, 2000, .inl f9_1353))] s H locs := by rw [ef_1357]; exact hw
  have h_1358 : f_1357 0 = x_1356 := by rw [ef_1357]; rfl
  refine lv_aload_n hx hb dX12_lays_95 rfl (lv_at hl 1 rfl) ?_
  refine fg_RX12_38 hC hw 0 rfl rfl dX12_lays_96 ?_
  refine lv_iload_n hx hb dX12_lays_99 rfl (lv_at hl 0 rfl) ?_
  refine lv_aload_n hx hb dX12_lays_100 rfl (lv_at hl 1 rfl) ?_
  refine fg_RX12_38 hC hw 0 rfl rfl dX12_lays_101 ?_
  refine lv_iconst (v := 2) hx hb dX12_lays_104 (by decide) ?_
  refine lv_iload_n hx hb dX12_lays_105 rfl (lv_at hl 0 rfl) ?_
  refine lv_iadd hx hb dX12_lays_106 ?_
  refine lv_topi (fun x_1359 ex_1359 => ?_)
  obtain rfl : x_1359 = 2 := ex_1359.trans (by decide)
  refine k_iald hC hw 2 rfl (k_in0 (by decide)) dX12_lays_107 ?_
  refine lv_topi (fun x_1360 ex_1360 => ?_)
  refine lv_sipush (v := 1000) hx hb dX12_lays_108 (by decide) ?_
  refine lv_isub hx hb dX12_lays_111 ?_
  refine lv_topi (fun x_1361 ex_1361 => ?_)
  refine k_iast hC hw 2 rfl (k_in0 (by decide)) dX12_lays_112 (fun H locs hw => ?_)
  obtain ⟨f_1362, ef_1362⟩ : ∃ g, g = upd w8 (0 : Int32).toNatClampNeg x_1361 := ⟨_, rfl⟩
  have hw : kW γ A [(z, .inr (11, [.int n0, .int n1, .ref z2, .int n3, .int n4, .int n5, .int n6, .long n7, .int n8, .int n9, .ref z10, .ref z11, .ref z12, .ref z13, .ref z14, .ref z15, .ref z16, .ref z17, .ref z18, .ref z19, .int n20, .int n21, .ref z22, .ref z23, .ref z24, .ref z25, .ref z26, .ref z27, .ref z28, .ref z29, .ref z30, .ref z31, .ref z32, .ref z33, .int n34, .long n35, .ref z36, .ref z37, .ref z38, .ref z39, .ref z40, .ref z41, .ref z42, .ref z43, .ref z44, .ref z45, .ref z46, .ref z47, .ref z48, .int n49, .int n50, .int n51, .int n52, .int n53, .int n54, .ref z55, .ref z56, .int n57, .int n58, .ref z59, .ref z60, .ref z61, .int n62, .long n63])), (z17, .inl (γ.2.1 0, 4, .inl f_1357)), (z18, .inl (γ.2.1 0, 4, .inl f_1362)), (z10, .inl (γ.2.1 0, 10, .inl f9_1346)), (z11, .inl (γ.2.1 1, 16, .inr (.inl f9_1347))), (z12, .inl (γ.2.1 1, 10, .inr (.inl f9_1348))), (z13, .inl (γ.2.1 0, 16, .inl f9_1349)), (z14, .inl (γ.2.1 0, 16, .inl f9_1350)), (z15, .inl (γ.2.1 0, 16, .inl f9_1351)), (z16, .inl (γ.2.1 0, 10, .inl f9_1352)), (z19, .inl (γ.2.1 0, 2000, .inl f9_1353))] s H locs := by rw [ef_1362]; exact hw
  have h_1363 : f_1362 0 = x_1361 := by rw [ef_1362]; rfl
  refine lv_iinc (v := 1) (lv' := [(1, .int 1), (0, .ref z)]) hx hb dX12_lays_113 hl (k := 0) rfl (by decide) (by decide) rfl (fun ls hl => ?_)
  refine lv_goto (tgt := 72) hx hb dX12_lays_116 (by decide) ?_
  refine lv_iload_n hx hb dX12_lays_72 rfl (lv_at hl 0 rfl) ?_
  refine lv_iconst (v := 2) hx hb dX12_lays_73 (by decide) ?_
  refine lv_icmp_ge (tgt := 119) hx hb dX12_lays_74 (by decide) (fun h => absurd h (by decide)) (fun _ => ?_)
  refine lv_aload_n hx hb dX12_lays_77 rfl (lv_at hl 1 rfl) ?_
  refine fg_RX12_35 hC hw 0 rfl rfl dX12_lays_78 ?_
  refine lv_iload_n hx hb dX12_lays_81 rfl (lv_at hl 0 rfl) ?_
  refine lv_aload_n hx hb dX12_lays_82 rfl (lv_at hl 1 rfl) ?_
  refine fg_RX12_35 hC hw 0 rfl rfl dX12_lays_83 ?_
  refine lv_iconst (v := 2) hx hb dX12_lays_86 (by decide) ?_
  refine lv_iload_n hx hb dX12_lays_87 rfl (lv_at hl 0 rfl) ?_
  refine lv_iadd hx hb dX12_lays_88 ?_
  refine lv_topi (fun x_1364 ex_1364 => ?_)
  obtain rfl : x_1364 = 3 := ex_1364.trans (by decide)
  refine k_iald hC hw 1 rfl (k_in0 (by decide)) dX12_lays_89 ?_
  refine lv_topi (fun x_1365 ex_1365 => ?_)
  refine lv_sipush (v := 1000) hx hb dX12_lays_90 (by decide) ?_
  refine lv_isub hx hb dX12_lays_93 ?_
  refine lv_topi (fun x_1366 ex_1366 => ?_)
  refine k_iast hC hw 1 rfl (k_in0 (by decide)) dX12_lays_94 (fun H locs hw => ?_)
  obtain ⟨f_1367, ef_1367⟩ : ∃ g, g = upd f_1357 (1 : Int32).toNatClampNeg x_1366 := ⟨_, rfl⟩
  have hw : kW γ A [(z, .inr (11, [.int n0, .int n1, .ref z2, .int n3, .int n4, .int n5, .int n6, .long n7, .int n8, .int n9, .ref z10, .ref z11, .ref z12, .ref z13, .ref z14, .ref z15, .ref z16, .ref z17, .ref z18, .ref z19, .int n20, .int n21, .ref z22, .ref z23, .ref z24, .ref z25, .ref z26, .ref z27, .ref z28, .ref z29, .ref z30, .ref z31, .ref z32, .ref z33, .int n34, .long n35, .ref z36, .ref z37, .ref z38, .ref z39, .ref z40, .ref z41, .ref z42, .ref z43, .ref z44, .ref z45, .ref z46, .ref z47, .ref z48, .int n49, .int n50, .int n51, .int n52, .int n53, .int n54, .ref z55, .ref z56, .int n57, .int n58, .ref z59, .ref z60, .ref z61, .int n62, .long n63])), (z17, .inl (γ.2.1 0, 4, .inl f_1367)), (z18, .inl (γ.2.1 0, 4, .inl f_1362)), (z10, .inl (γ.2.1 0, 10, .inl f9_1346)), (z11, .inl (γ.2.1 1, 16, .inr (.inl f9_1347))), (z12, .inl (γ.2.1 1, 10, .inr (.inl f9_1348))), (z13, .inl (γ.2.1 0, 16, .inl f9_1349)), (z14, .inl (γ.2.1 0, 16, .inl f9_1350)), (z15, .inl (γ.2.1 0, 16, .inl f9_1351)), (z16, .inl (γ.2.1 0, 10, .inl f9_1352)), (z19, .inl (γ.2.1 0, 2000, .inl f9_1353))] s H locs := by rw [ef_1367]; exact hw
  have h_1368 : f_1367 0 = x_1356 := by rw [ef_1367]; exact h_1358
  have h_1369 : f_1367 1 = x_1366 := by rw [ef_1367]; rfl
  refine lv_aload_n hx hb dX12_lays_95 rfl (lv_at hl 1 rfl) ?_
  refine fg_RX12_38 hC hw 0 rfl rfl dX12_lays_96 ?_
  refine lv_iload_n hx hb dX12_lays_99 rfl (lv_at hl 0 rfl) ?_
  refine lv_aload_n hx hb dX12_lays_100 rfl (lv_at hl 1 rfl) ?_
  refine fg_RX12_38 hC hw 0 rfl rfl dX12_lays_101 ?_
  refine lv_iconst (v := 2) hx hb dX12_lays_104 (by decide) ?_
  refine lv_iload_n hx hb dX12_lays_105 rfl (lv_at hl 0 rfl) ?_
  refine lv_iadd hx hb dX12_lays_106 ?_
  refine lv_topi (fun x_1370 ex_1370 => ?_)
  obtain rfl : x_1370 = 3 := ex_1370.trans (by decide)
  refine k_iald hC hw 2 rfl (k_in0 (by decide)) dX12_lays_107 ?_
  refine lv_topi (fun x_1371 ex_1371 => ?_)
  refine lv_sipush (v := 1000) hx hb dX12_lays_108 (by decide) ?_
  refine lv_isub hx hb dX12_lays_111 ?_
  refine lv_topi (fun x_1372 ex_1372 => ?_)
  refine k_iast hC hw 2 rfl (k_in0 (by decide)) dX12_lays_112 (fun H locs hw => ?_)
  obtain ⟨f_1373, ef_1373⟩ : ∃ g, g = upd f_1362 (1 : Int32).toNatClampNeg x_1372 := ⟨_, rfl⟩
  have hw : kW γ A [(z, .inr (11, [.int n0, .int n1, .ref z2, .int n3, .int n4, .int n5, .int n6, .long n7, .int n8, .int n9, .ref z10, .ref z11, .ref z12, .ref z13, .ref z14, .ref z15, .ref z16, .ref z17, .ref z18, .ref z19, .int n20, .int n21, .ref z22, .ref z23, .ref z24, .ref z25, .ref z26, .ref z27, .ref z28, .ref z29, .ref z30, .ref z31, .ref z32, .ref z33, .int n34, .long n35, .ref z36, .ref z37, .ref z38, .ref z39, .ref z40, .ref z41, .ref z42, .ref z43, .ref z44, .ref z45, .ref z46, .ref z47, .ref z48, .int n49, .int n50, .int n51, .int n52, .int n53, .int n54, .ref z55, .ref z56, .int n57, .int n58, .ref z59, .ref z60, .ref z61, .int n62, .long n63])), (z17, .inl (γ.2.1 0, 4, .inl f_1367)), (z18, .inl (γ.2.1 0, 4, .inl f_1373)), (z10, .inl (γ.2.1 0, 10, .inl f9_1346)), (z11, .inl (γ.2.1 1, 16, .inr (.inl f9_1347))), (z12, .inl (γ.2.1 1, 10, .inr (.inl f9_1348))), (z13, .inl (γ.2.1 0, 16, .inl f9_1349)), (z14, .inl (γ.2.1 0, 16, .inl f9_1350)), (z15, .inl (γ.2.1 0, 16, .inl f9_1351)), (z16, .inl (γ.2.1 0, 10, .inl f9_1352)), (z19, .inl (γ.2.1 0, 2000, .inl f9_1353))] s H locs := by rw [ef_1373]; exact hw
  have h_1374 : f_1373 0 = x_1361 := by rw [ef_1373]; exact h_1363
  have h_1375 : f_1373 1 = x_1372 := by rw [ef_1373]; rfl
  refine lv_iinc (v := 2) (lv' := [(1, .int 2), (0, .ref z)]) hx hb dX12_lays_113 hl (k := 0) rfl (by decide) (by decide) rfl (fun ls hl => ?_)
  refine lv_goto (tgt := 72) hx hb dX12_lays_116 (by decide) ?_
  refine lv_iload_n hx hb dX12_lays_72 rfl (lv_at hl 0 rfl) ?_
  refine lv_iconst (v := 2) hx hb dX12_lays_73 (by decide) ?_
  refine lv_icmp_ge (tgt := 119) hx hb dX12_lays_74 (by decide) (fun _ => ?_) (fun h => absurd (by decide) h)
  exact k_vret hC hr hlocks hw [0] rfl rfl ⟨rfl, rfl⟩ (by decide) (by decide) dX12_lays_119

set_option maxHeartbeats 4000000 in
set_option maxRecDepth 100000 in
theorem c_X12_abbey (γ : kΓ) (l : Launch) (z : Nat) (z2 : Nat) (z10 : Nat) (z11 : Nat) (z12 : Nat) (z13 : Nat) (z14 : Nat) (z15 : Nat) (z16 : Nat) (z17 : Nat) (z18 : Nat) (z19 : Nat) (z22 : Nat) (z23 : Nat) (z24 : Nat) (z25 : Nat) (z26 : Nat) (z27 : Nat) (z28 : Nat) (z29 : Nat) (z30 : Nat) (z31 : Nat) (z32 : Nat) (z33 : Nat) (z36 : Nat) (z37 : Nat) (z38 : Nat) (z39 : Nat) (z40 : Nat) (z41 : Nat) (z42 : Nat) (z43 : Nat) (z44 : Nat) (z45 : Nat) (z46 : Nat) (z47 : Nat) (z48 : Nat) (z55 : Nat) (z56 : Nat) (z59 : Nat) (z60 : Nat) (z61 : Nat) (fa : Nat → Int32) (fs : Nat → Int32) (ha0 : fa 0 = 0) (ha1 : fa 1 = 0) (ha2 : fa 2 = 10) (ha3 : fa 3 = 10) (ha4 : fa 4 = 3) : kM γ l yX12_abbey cX12_abbey 2 ((some .int)) ({ frames := 3, cells := 0, slots := 0, locals := 62 } : Room) [.ref z] [(z, .inr (11, [.int 0, .int 0, .ref z2, .int 0, .int 0, .int 0, .int 0, .long 0, .int 0, .int 0, .ref z10, .ref z11, .ref z12, .ref z13, .ref z14, .ref z15, .ref z16, .ref z17, .ref z18, .ref z19, .int 0, .int 0, .ref z22, .ref z23, .ref z24, .ref z25, .ref z26, .ref z27, .ref z28, .ref z29, .ref z30, .ref z31, .ref z32, .ref z33, .int 0, .long 0, .ref z36, .ref z37, .ref z38, .ref z39, .ref z40, .ref z41, .ref z42, .ref z43, .ref z44, .ref z45, .ref z46, .ref z47, .ref z48, .int 0, .int 10, .int 0, .int 0, .int 0, .int 0, .ref z55, .ref z56, .int 0, .int 0, .ref z59, .ref z60, .ref z61, .int 0, .long 0])), (z10, .inl (γ.2.1 0, 10, .inl fa)), (z11, .inl (γ.2.1 1, 16, .inr (.inl (fun _ => 0)))), (z12, .inl (γ.2.1 1, 10, .inr (.inl (fun _ => 0)))), (z13, .inl (γ.2.1 0, 16, .inl (fun _ => 0))), (z14, .inl (γ.2.1 0, 16, .inl (fun _ => 0))), (z15, .inl (γ.2.1 0, 16, .inl (fun _ => 0))), (z16, .inl (γ.2.1 0, 10, .inl (fun _ => 0))), (z19, .inl (γ.2.1 0, 2000, .inl (fun _ => 0))), (z17, .inl (γ.2.1 0, 4, .inl (fun _ => 0))), (z18, .inl (γ.2.1 0, 4, .inl (fun _ => 0))), (z43, .inl (γ.2.1 0, 133, .inl fs)), (z36, .inl (γ.2.1 0, 6, .inl (fun _ => 0))), (z40, .inl (γ.2.1 0, 5, .inl (fun _ => 0))), (z48, .inl (γ.2.1 3, 4, .inl (fun _ => 0)))] (fun r w1 => r = some (.int 0) ∧ w1 = []) := by
  refine k_ofW (by decide) (Nat.le_of_ble_eq_true rfl) ?_
  intro p e s m below meth c A ls hC hr hlocks hname hw hl
  have hx := hC.1
  have hb := hC.2.1
  have hl : lv_has ls 2 [(0, .ref z)] := hl
  refine lv_aload_n hx hb dX12_abbey_0 rfl (lv_at hl 0 rfl) ?_
  refine lv_iconst (v := 0) hx hb dX12_abbey_1 (by decide) ?_
  refine fs_RX12_143 hC hw 0 rfl rfl rfl (Nat.le_of_ble_eq_true rfl) dX12_abbey_2 (fun H locs hw => ?_)
  have hw : kW γ A [(z, .inr (11, [.int 0, .int 0, .ref z2, .int 0, .int 0, .int 0, .int 0, .long 0, .int 0, .int 0, .ref z10, .ref z11, .ref z12, .ref z13, .ref z14, .ref z15, .ref z16, .ref z17, .ref z18, .ref z19, .int 0, .int 0, .ref z22, .ref z23, .ref z24, .ref z25, .ref z26, .ref z27, .ref z28, .ref z29, .ref z30, .ref z31, .ref z32, .ref z33, .int 0, .long 0, .ref z36, .ref z37, .ref z38, .ref z39, .ref z40, .ref z41, .ref z42, .ref z43, .ref z44, .ref z45, .ref z46, .ref z47, .ref z48, .int 0, .int 10, .int 0, .int 0, .int 0, .int 0, .ref z55, .ref z56, .int 0, .int 0, .ref z59, .ref z60, .ref z61, .int 0, .long 0])), (z10, .inl (γ.2.1 0, 10, .inl fa)), (z11, .inl (γ.2.1 1, 16, .inr (.inl (fun _ => 0)))), (z12, .inl (γ.2.1 1, 10, .inr (.inl (fun _ => 0)))), (z13, .inl (γ.2.1 0, 16, .inl (fun _ => 0))), (z14, .inl (γ.2.1 0, 16, .inl (fun _ => 0))), (z15, .inl (γ.2.1 0, 16, .inl (fun _ => 0))), (z16, .inl (γ.2.1 0, 10, .inl (fun _ => 0))), (z19, .inl (γ.2.1 0, 2000, .inl (fun _ => 0))), (z17, .inl (γ.2.1 0, 4, .inl (fun _ => 0))), (z18, .inl (γ.2.1 0, 4, .inl (fun _ => 0))), (z43, .inl (γ.2.1 0, 133, .inl fs)), (z36, .inl (γ.2.1 0, 6, .inl (fun _ => 0))), (z40, .inl (γ.2.1 0, 5, .inl (fun _ => 0))), (z48, .inl (γ.2.1 3, 4, .inl (fun _ => 0)))] s H locs := hw
  refine lv_aload_n hx hb dX12_abbey_5 rfl (lv_at hl 0 rfl) ?_
  refine k_V (wr := [(z11, .inl (γ.2.1 1, 16, .inr (.inl (fun _ => 0)))), (z12, .inl (γ.2.1 1, 10, .inr (.inl (fun _ => 0)))), (z13, .inl (γ.2.1 0, 16, .inl (fun _ => 0))), (z14, .inl (γ.2.1 0, 16, .inl (fun _ => 0))), (z15, .inl (γ.2.1 0, 16, .inl (fun _ => 0))), (z16, .inl (γ.2.1 0, 10, .inl (fun _ => 0))), (z19, .inl (γ.2.1 0, 2000, .inl (fun _ => 0))), (z43, .inl (γ.2.1 0, 133, .inl fs)), (z36, .inl (γ.2.1 0, 6, .inl (fun _ => 0))), (z40, .inl (γ.2.1 0, 5, .inl (fun _ => 0))), (z48, .inl (γ.2.1 3, 4, .inl (fun _ => 0)))]) 0 gw_1398 gw_1400 gp_52 gw_15 gw_1401 hd_X12_readsAll hC hw (c_X12_readsAll γ l z z2 z10 z11 z12 z13 z14 z15 z16 z17 z18 z19 z22 z23 z24 z25 z26 z27 z28 z29 z30 z31 z32 z33 z36 z37 z38 z39 z40 z41 z42 z43 z44 z45 z46 z47 z48 z55 z56 z59 z60 z61 fa (fun _ => 0) (fun _ => 0) ha0 ha1 ha2 ha3 ha4) ⟨by decide, by decide⟩ ⟨by decide, by decide⟩ hl.1 rfl 0 rfl rfl rfl (Nat.le_of_ble_eq_true rfl) [0, 1, 9, 10] [2, 3, 4, 5, 6, 7, 8, 11, 12, 13, 14] rfl rfl rfl rfl (by decide) dX12_abbey_6 (fun r w1 H locs hq hw => ?_)
  obtain ⟨gb_1376, k1_1377, k2_1378, rfl, rfl⟩ := hq
  have hw : kW γ A [(z11, .inl (γ.2.1 1, 16, .inr (.inl (fun _ => 0)))), (z12, .inl (γ.2.1 1, 10, .inr (.inl (fun _ => 0)))), (z13, .inl (γ.2.1 0, 16, .inl (fun _ => 0))), (z14, .inl (γ.2.1 0, 16, .inl (fun _ => 0))), (z15, .inl (γ.2.1 0, 16, .inl (fun _ => 0))), (z16, .inl (γ.2.1 0, 10, .inl (fun _ => 0))), (z19, .inl (γ.2.1 0, 2000, .inl (fun _ => 0))), (z43, .inl (γ.2.1 0, 133, .inl fs)), (z36, .inl (γ.2.1 0, 6, .inl (fun _ => 0))), (z40, .inl (γ.2.1 0, 5, .inl (fun _ => 0))), (z48, .inl (γ.2.1 3, 4, .inl (fun _ => 0))), (z, .inr (11, [.int 0, .int 0, .ref z2, .int 0, .int 0, .int 0, .int 0, .long 0, .int 0, .int 0, .ref z10, .ref z11, .ref z12, .ref z13, .ref z14, .ref z15, .ref z16, .ref z17, .ref z18, .ref z19, .int 1000, .int 0, .ref z22, .ref z23, .ref z24, .ref z25, .ref z26, .ref z27, .ref z28, .ref z29, .ref z30, .ref z31, .ref z32, .ref z33, .int 0, .long 0, .ref z36, .ref z37, .ref z38, .ref z39, .ref z40, .ref z41, .ref z42, .ref z43, .ref z44, .ref z45, .ref z46, .ref z47, .ref z48, .int 0, .int 10, .int 0, .int 0, .int 0, .int 0, .ref z55, .ref z56, .int 0, .int 0, .ref z59, .ref z60, .ref z61, .int 0, .long 0])), (z10, .inl (γ.2.1 0, 10, .inl gb_1376)), (z17, .inl (γ.2.1 0, 4, .inl k1_1377)), (z18, .inl (γ.2.1 0, 4, .inl k2_1378))] s H locs := hw
  refine W.eq (g2 := F0 m 9 ls [.int 1]) rfl ?_
  refine lv_if_ne (tgt := 17) hx hb dX12_abbey_9 (by decide) (fun _ => ?_) (fun h => absurd h (by decide))
  refine lv_aload_n hx hb dX12_abbey_17 rfl (lv_at hl 0 rfl) ?_
  refine k_V (wr := [(z43, .inl (γ.2.1 0, 133, .inl fs)), (z36, .inl (γ.2.1 0, 6, .inl (fun _ => 0))), (z40, .inl (γ.2.1 0, 5, .inl (fun _ => 0))), (z48, .inl (γ.2.1 3, 4, .inl (fun _ => 0)))]) 0 gw_1519 gw_1521 gp_75 gw_15 gw_1522 hd_X12_lays hC hw (c_X12_lays γ l z z2 z10 z11 z12 z13 z14 z15 z16 z17 z18 z19 z22 z23 z24 z25 z26 z27 z28 z29 z30 z31 z32 z33 z36 z37 z38 z39 z40 z41 z42 z43 z44 z45 z46 z47 z48 z55 z56 z59 z60 z61 0 0 0 0 0 0 0 0 0 1000 0 0 0 0 10 0 0 0 0 0 0 0 0 (fun _ => 0) (fun _ => 0) (fun _ => 0) (fun _ => 0) (fun _ => 0) (fun _ => 0) (fun _ => 0) k1_1377 k2_1378 gb_1376) ⟨by decide, by decide⟩ ⟨by decide, by decide⟩ hl.1 rfl 11 rfl rfl rfl (Nat.le_of_ble_eq_true rfl) [11, 12, 0, 1, 2, 3, 4, 5, 6, 13, 14] [7, 8, 9, 10] rfl rfl rfl rfl (by decide) dX12_abbey_18 (fun r w1 H locs hq hw => ?_)
  obtain ⟨rfl, rfl⟩ := hq
  have hw : kW γ A [(z43, .inl (γ.2.1 0, 133, .inl fs)), (z36, .inl (γ.2.1 0, 6, .inl (fun _ => 0))), (z40, .inl (γ.2.1 0, 5, .inl (fun _ => 0))), (z48, .inl (γ.2.1 3, 4, .inl (fun _ => 0))), (z, .inr (11, [.int 0, .int 0, .ref z2, .int 0, .int 0, .int 0, .int 0, .long 0, .int 0, .int 0, .ref z10, .ref z11, .ref z12, .ref z13, .ref z14, .ref z15, .ref z16, .ref z17, .ref z18, .ref z19, .int 1000, .int 0, .ref z22, .ref z23, .ref z24, .ref z25, .ref z26, .ref z27, .ref z28, .ref z29, .ref z30, .ref z31, .ref z32, .ref z33, .int 0, .long 0, .ref z36, .ref z37, .ref z38, .ref z39, .ref z40, .ref z41, .ref z42, .ref z43, .ref z44, .ref z45, .ref z46, .ref z47, .ref z48, .int 0, .int 10, .int 0, .int 0, .int 0, .int 0, .ref z55, .ref z56, .int 0, .int 0, .ref z59, .ref z60, .ref z61, .int 0, .long 0]))] s H locs := hw
  refine W.eq (g2 := F0 m 21 ls []) rfl ?_
  refine lv_aload_n hx hb dX12_abbey_21 rfl (lv_at hl 0 rfl) ?_
  refine k_V (wr := [(z36, .inl (γ.2.1 0, 6, .inl (fun _ => 0))), (z40, .inl (γ.2.1 0, 5, .inl (fun _ => 0))), (z48, .inl (γ.2.1 3, 4, .inl (fun _ => 0)))]) 0 gw_1529 gw_1531 gp_76 gw_15 gw_1532 hd_X12_fresh hC hw (c_X12_fresh γ l z z2 z10 z11 z12 z13 z14 z15 z16 z17 z18 z19 z22 z23 z24 z25 z26 z27 z28 z29 z30 z31 z32 z33 z36 z37 z38 z39 z40 z41 z42 z43 z44 z45 z46 z47 z48 z55 z56 z59 z60 z61 0 0 0 0 0 0 0 0 0 1000 0 0 0 0 10 0 0 0 0 0 0 0 0 fs) ⟨by decide, by decide⟩ ⟨by decide, by decide⟩ hl.1 rfl 4 rfl rfl rfl (Nat.le_of_ble_eq_true rfl) [4, 0] [1, 2, 3] rfl rfl rfl rfl (by decide) dX12_abbey_22 (fun r w1 H locs hq hw => ?_)
  obtain ⟨f9_1379, rfl, rfl⟩ := hq
  have hw : kW γ A [(z36, .inl (γ.2.1 0, 6, .inl (fun _ => 0))), (z40, .inl (γ.2.1 0, 5, .inl (fun _ => 0))), (z48, .inl (γ.2.1 3, 4, .inl (fun _ => 0))), (z, .inr (11, [.int 0, .int 0, .ref z2, .int 0, .int 0, .int 0, .int 0, .long 0, .int 0, .int 0, .ref z10, .ref z11, .ref z12, .ref z13, .ref z14, .ref z15, .ref z16, .ref z17, .ref z18, .ref z19, .int 1000, .int 0, .ref z22, .ref z23, .ref z24, .ref z25, .ref z26, .ref z27, .ref z28, .ref z29, .ref z30, .ref z31, .ref z32, .ref z33, .int 0, .long 0, .ref z36, .ref z37, .ref z38, .ref z39, .ref z40, .ref z41, .ref z42, .ref z43, .ref z44, .ref z45, .ref z46, .ref z47, .ref z48, .int 0, .int 10, .int 0, .int 0, .int 0, .int 0, .ref z55, .ref z56, .int 0, .int 0, .ref z59, .ref z60, .ref z61, .int 0, .long 0])), (z43, .inl (γ.2.1 0, 133, .inl f9_1379))] s H locs := hw
  refine W.eq (g2 := F0 m 25 ls []) rfl ?_
  refine lv_aload_n hx hb dX12_abbey_25 rfl (lv_at hl 0 rfl) ?_
  refine fg_RX12_81 hC hw 3 rfl rfl dX12_abbey_26 ?_
  refine lv_iconst (v := 0) hx hb dX12_abbey_29 (by decide) ?_
  refine lv_iconst (v := 0) hx hb dX12_abbey_30 (by decide) ?_
  refine k_iast hC hw 0 rfl (k_in0 (by decide)) dX12_abbey_31 (fun H locs hw => ?_)
  obtain ⟨f_1380, ef_1380⟩ : ∃ g, g = upd (fun _ => 0) (0 : Int32).toNatClampNeg 0 := ⟨_, rfl⟩
  have hw : kW γ A [(z36, .inl (γ.2.1 0, 6, .inl f_1380)), (z40, .inl (γ.2.1 0, 5, .inl (fun _ => 0))), (z48, .inl (γ.2.1 3, 4, .inl (fun _ => 0))), (z, .inr (11, [.int 0, .int 0, .ref z2, .int 0, .int 0, .int 0, .int 0, .long 0, .int 0, .int 0, .ref z10, .ref z11, .ref z12, .ref z13, .ref z14, .ref z15, .ref z16, .ref z17, .ref z18, .ref z19, .int 1000, .int 0, .ref z22, .ref z23, .ref z24, .ref z25, .ref z26, .ref z27, .ref z28, .ref z29, .ref z30, .ref z31, .ref z32, .ref z33, .int 0, .long 0, .ref z36, .ref z37, .ref z38, .ref z39, .ref z40, .ref z41, .ref z42, .ref z43, .ref z44, .ref z45, .ref z46, .ref z47, .ref z48, .int 0, .int 10, .int 0, .int 0, .int 0, .int 0, .ref z55, .ref z56, .int 0, .int 0, .ref z59, .ref z60, .ref z61, .int 0, .long 0])), (z43, .inl (γ.2.1 0, 133, .inl f9_1379))] s H locs := by rw [ef_1380]; exact hw
  have h_1381 : f_1380 0 = 0 := by rw [ef_1380]; rfl
  refine lv_aload_n hx hb dX12_abbey_32 rfl (lv_at hl 0 rfl) ?_
  refine fg_RX12_93 hC hw 3 rfl rfl dX12_abbey_33 ?_
  refine lv_iconst (v := 0) hx hb dX12_abbey_36 (by decide) ?_
  refine lv_iconst (v := 0) hx hb dX12_abbey_37 (by decide) ?_
  refine k_iast hC hw 1 rfl (k_in0 (by decide)) dX12_abbey_38 (fun H locs hw => ?_)
  obtain ⟨f_1382, ef_1382⟩ : ∃ g, g = upd (fun _ => 0) (0 : Int32).toNatClampNeg 0 := ⟨_, rfl⟩
  have hw : kW γ A [(z36, .inl (γ.2.1 0, 6, .inl f_1380)), (z40, .inl (γ.2.1 0, 5, .inl f_1382)), (z48, .inl (γ.2.1 3, 4, .inl (fun _ => 0))), (z, .inr (11, [.int 0, .int 0, .ref z2, .int 0, .int 0, .int 0, .int 0, .long 0, .int 0, .int 0, .ref z10, .ref z11, .ref z12, .ref z13, .ref z14, .ref z15, .ref z16, .ref z17, .ref z18, .ref z19, .int 1000, .int 0, .ref z22, .ref z23, .ref z24, .ref z25, .ref z26, .ref z27, .ref z28, .ref z29, .ref z30, .ref z31, .ref z32, .ref z33, .int 0, .long 0, .ref z36, .ref z37, .ref z38, .ref z39, .ref z40, .ref z41, .ref z42, .ref z43, .ref z44, .ref z45, .ref z46, .ref z47, .ref z48, .int 0, .int 10, .int 0, .int 0, .int 0, .int 0, .ref z55, .ref z56, .int 0, .int 0, .ref z59, .ref z60, .ref z61, .int 0, .long 0])), (z43, .inl (γ.2.1 0, 133, .inl f9_1379))] s H locs := by rw [ef_1382]; exact hw
  have h_1383 : f_1382 0 = 0 := by rw [ef_1382]; rfl
  refine lv_aload_n hx hb dX12_abbey_39 rfl (lv_at hl 0 rfl) ?_
  refine lv_iconst (v := 0) hx hb dX12_abbey_40 (by decide) ?_
  refine fs_RX12_339 hC hw 3 rfl rfl rfl (Nat.le_of_ble_eq_true rfl) dX12_abbey_41 (fun H locs hw => ?_)
  have hw : kW γ A [(z36, .inl (γ.2.1 0, 6, .inl f_1380)), (z40, .inl (γ.2.1 0, 5, .inl f_1382)), (z48, .inl (γ.2.1 3, 4, .inl (fun _ => 0))), (z, .inr (11, [.int 0, .int 0, .ref z2, .int 0, .int 0, .int 0, .int 0, .long 0, .int 0, .int 0, .ref z10, .ref z11, .ref z12, .ref z13, .ref z14, .ref z15, .ref z16, .ref z17, .ref z18, .ref z19, .int 1000, .int 0, .ref z22, .ref z23, .ref z24, .ref z25, .ref z26, .ref z27, .ref z28, .ref z29, .ref z30, .ref z31, .ref z32, .ref z33, .int 0, .long 0, .ref z36, .ref z37, .ref z38, .ref z39, .ref z40, .ref z41, .ref z42, .ref z43, .ref z44, .ref z45, .ref z46, .ref z47, .ref z48, .int 0, .int 10, .int 0, .int 0, .int 0, .int 0, .ref z55, .ref z56, .int 0, .int 0, .ref z59, .ref z60, .ref z61, .int 0, .long 0])), (z43, .inl (γ.2.1 0, 133, .inl f9_1379))] s H locs := hw
  refine lv_iconst (v := 0) hx hb dX12_abbey_44 (by decide) ?_
  refine lv_istore_n (lv' := [(1, .int 0), (0, .ref z)]) hx hb dX12_abbey_45 rfl hl (by decide) rfl (fun ls hl => ?_)
  refine lv_iload_n hx hb dX12_abbey_46 rfl (lv_at hl 0 rfl) ?_
  refine lv_iconst (v := 4) hx hb dX12_abbey_47 (by decide) ?_
  refine lv_icmp_ge (tgt := 64) hx hb dX12_abbey_48 (by decide) (fun h => absurd h (by decide)) (fun _ => ?_)
  refine lv_aload_n hx hb dX12_abbey_51 rfl (lv_at hl 1 rfl) ?_
  refine fg_RX12_117 hC hw 3 rfl rfl dX12_abbey_52 ?_
  refine lv_iload_n hx hb dX12_abbey_55 rfl (lv_at hl 0 rfl) ?_
  refine lv_iconst (v := 0) hx hb dX12_abbey_56 (by decide) ?_
  refine k_zast hC hw 2 rfl (k_in0 (by decide)) dX12_abbey_57 (fun H locs hw => ?_)
  obtain ⟨f_1384, ef_1384⟩ : ∃ g, g = upd (fun _ => 0) (0 : Int32).toNatClampNeg (vp_nar .boolean 0) := ⟨_, rfl⟩
  have hw : kW γ A [(z36, .inl (γ.2.1 0, 6, .inl f_1380)), (z40, .inl (γ.2.1 0, 5, .inl f_1382)), (z48, .inl (γ.2.1 3, 4, .inl f_1384)), (z, .inr (11, [.int 0, .int 0, .ref z2, .int 0, .int 0, .int 0, .int 0, .long 0, .int 0, .int 0, .ref z10, .ref z11, .ref z12, .ref z13, .ref z14, .ref z15, .ref z16, .ref z17, .ref z18, .ref z19, .int 1000, .int 0, .ref z22, .ref z23, .ref z24, .ref z25, .ref z26, .ref z27, .ref z28, .ref z29, .ref z30, .ref z31, .ref z32, .ref z33, .int 0, .long 0, .ref z36, .ref z37, .ref z38, .ref z39, .ref z40, .ref z41, .ref z42, .ref z43, .ref z44, .ref z45, .ref z46, .ref z47, .ref z48, .int 0, .int 10, .int 0, .int 0, .int 0, .int 0, .ref z55, .ref z56, .int 0, .int 0, .ref z59, .ref z60, .ref z61, .int 0, .long 0])), (z43, .inl (γ.2.1 0, 133, .inl f9_1379))] s H locs := by rw [ef_1384]; exact hw
  refine lv_iinc (v := 1) (lv' := [(1, .int 1), (0, .ref z)]) hx hb dX12_abbey_58 hl (k := 0) rfl (by decide) (by decide) rfl (fun ls hl => ?_)
  refine lv_goto (tgt := 46) hx hb dX12_abbey_61 (by decide) ?_
  refine lv_iload_n hx hb dX12_abbey_46 rfl (lv_at hl 0 rfl) ?_
  refine lv_iconst (v := 4) hx hb dX12_abbey_47 (by decide) ?_
  refine lv_icmp_ge (tgt := 64) hx hb dX12_abbey_48 (by decide) (fun h => absurd h (by decide)) (fun _ => ?_)
  refine lv_aload_n hx hb dX12_abbey_51 rfl (lv_at hl 1 rfl) ?_
  refine fg_RX12_117 hC hw 3 rfl rfl dX12_abbey_52 ?_
  refine lv_iload_n hx hb dX12_abbey_55 rfl (lv_at hl 0 rfl) ?_
  refine lv_iconst (v := 0) hx hb dX12_abbey_56 (by decide) ?_
  refine k_zast hC hw 2 rfl (k_in0 (by decide)) dX12_abbey_57 (fun H locs hw => ?_)
  obtain ⟨f_1385, ef_1385⟩ : ∃ g, g = upd f_1384 (1 : Int32).toNatClampNeg (vp_nar .boolean 0) := ⟨_, rfl⟩
  have hw : kW γ A [(z36, .inl (γ.2.1 0, 6, .inl f_1380)), (z40, .inl (γ.2.1 0, 5, .inl f_1382)), (z48, .inl (γ.2.1 3, 4, .inl f_1385)), (z, .inr (11, [.int 0, .int 0, .ref z2, .int 0, .int 0, .int 0, .int 0, .long 0, .int 0, .int 0, .ref z10, .ref z11, .ref z12, .ref z13, .ref z14, .ref z15, .ref z16, .ref z17, .ref z18, .ref z19, .int 1000, .int 0, .ref z22, .ref z23, .ref z24, .ref z25, .ref z26, .ref z27, .ref z28, .ref z29, .ref z30, .ref z31, .ref z32, .ref z33, .int 0, .long 0, .ref z36, .ref z37, .ref z38, .ref z39, .ref z40, .ref z41, .ref z42, .ref z43, .ref z44, .ref z45, .ref z46, .ref z47, .ref z48, .int 0, .int 10, .int 0, .int 0, .int 0, .int 0, .ref z55, .ref z56, .int 0, .int 0, .ref z59, .ref z60, .ref z61, .int 0, .long 0])), (z43, .inl (γ.2.1 0, 133, .inl f9_1379))] s H locs := by rw [ef_1385]; exact hw
  refine lv_iinc (v := 2) (lv' := [(1, .int 2), (0, .ref z)]) hx hb dX12_abbey_58 hl (k := 0) rfl (by decide) (by decide) rfl (fun ls hl => ?_)
  refine lv_goto (tgt := 46) hx hb dX12_abbey_61 (by decide) ?_
  refine lv_iload_n hx hb dX12_abbey_46 rfl (lv_at hl 0 rfl) ?_
  refine lv_iconst (v := 4) hx hb dX12_abbey_47 (by decide) ?_
  refine lv_icmp_ge (tgt := 64) hx hb dX12_abbey_48 (by decide) (fun h => absurd h (by decide)) (fun _ => ?_)
  refine lv_aload_n hx hb dX12_abbey_51 rfl (lv_at hl 1 rfl) ?_
  refine fg_RX12_117 hC hw 3 rfl rfl dX12_abbey_52 ?_
  refine lv_iload_n hx hb dX12_abbey_55 rfl (lv_at hl 0 rfl) ?_
  refine lv_iconst (v := 0) hx hb dX12_abbey_56 (by decide) ?_
  refine k_zast hC hw 2 rfl (k_in0 (by decide)) dX12_abbey_57 (fun H locs hw => ?_)
  obtain ⟨f_1386, ef_1386⟩ : ∃ g, g = upd f_1385 (2 : Int32).toNatClampNeg (vp_nar .boolean 0) := ⟨_, rfl⟩
  have hw : kW γ A [(z36, .inl (γ.2.1 0, 6, .inl f_1380)), (z40, .inl (γ.2.1 0, 5, .inl f_1382)), (z48, .inl (γ.2.1 3, 4, .inl f_1386)), (z, .inr (11, [.int 0, .int 0, .ref z2, .int 0, .int 0, .int 0, .int 0, .long 0, .int 0, .int 0, .ref z10, .ref z11, .ref z12, .ref z13, .ref z14, .ref z15, .ref z16, .ref z17, .ref z18, .ref z19, .int 1000, .int 0, .ref z22, .ref z23, .ref z24, .ref z25, .ref z26, .ref z27, .ref z28, .ref z29, .ref z30, .ref z31, .ref z32, .ref z33, .int 0, .long 0, .ref z36, .ref z37, .ref z38, .ref z39, .ref z40, .ref z41, .ref z42, .ref z43, .ref z44, .ref z45, .ref z46, .ref z47, .ref z48, .int 0, .int 10, .int 0, .int 0, .int 0, .int 0, .ref z55, .ref z56, .int 0, .int 0, .ref z59, .ref z60, .ref z61, .int 0, .long 0])), (z43, .inl (γ.2.1 0, 133, .inl f9_1379))] s H locs := by rw [ef_1386]; exact hw
  refine lv_iinc (v := 3) (lv' := [(1, .int 3), (0, .ref z)]) hx hb dX12_abbey_58 hl (k := 0) rfl (by decide) (by decide) rfl (fun ls hl => ?_)
  refine lv_goto (tgt := 46) hx hb dX12_abbey_61 (by decide) ?_
  refine lv_iload_n hx hb dX12_abbey_46 rfl (lv_at hl 0 rfl) ?_
  refine lv_iconst (v := 4) hx hb dX12_abbey_47 (by decide) ?_
  refine lv_icmp_ge (tgt := 64) hx hb dX12_abbey_48 (by decide) (fun h => absurd h (by decide)) (fun _ => ?_)
  refine lv_aload_n hx hb dX12_abbey_51 rfl (lv_at hl 1 rfl) ?_
  refine fg_RX12_117 hC hw 3 rfl rfl dX12_abbey_52 ?_
  refine lv_iload_n hx hb dX12_abbey_55 rfl (lv_at hl 0 rfl) ?_
  refine lv_iconst (v := 0) hx hb dX12_abbey_56 (by decide) ?_
  refine k_zast hC hw 2 rfl (k_in0 (by decide)) dX12_abbey_57 (fun H locs hw => ?_)
  obtain ⟨f_1387, ef_1387⟩ : ∃ g, g = upd f_1386 (3 : Int32).toNatClampNeg (vp_nar .boolean 0) := ⟨_, rfl⟩
  have hw : kW γ A [(z36, .inl (γ.2.1 0, 6, .inl f_1380)), (z40, .inl (γ.2.1 0, 5, .inl f_1382)), (z48, .inl (γ.2.1 3, 4, .inl f_1387)), (z, .inr (11, [.int 0, .int 0, .ref z2, .int 0, .int 0, .int 0, .int 0, .long 0, .int 0, .int 0, .ref z10, .ref z11, .ref z12, .ref z13, .ref z14, .ref z15, .ref z16, .ref z17, .ref z18, .ref z19, .int 1000, .int 0, .ref z22, .ref z23, .ref z24, .ref z25, .ref z26, .ref z27, .ref z28, .ref z29, .ref z30, .ref z31, .ref z32, .ref z33, .int 0, .long 0, .ref z36, .ref z37, .ref z38, .ref z39, .ref z40, .ref z41, .ref z42, .ref z43, .ref z44, .ref z45, .ref z46, .ref z47, .ref z48, .int 0, .int 10, .int 0, .int 0, .int 0, .int 0, .ref z55, .ref z56, .int 0, .int 0, .ref z59, .ref z60, .ref z61, .int 0, .long 0])), (z43, .inl (γ.2.1 0, 133, .inl f9_1379))] s H locs := by rw [ef_1387]; exact hw
  refine lv_iinc (v := 4) (lv' := [(1, .int 4), (0, .ref z)]) hx hb dX12_abbey_58 hl (k := 0) rfl (by decide) (by decide) rfl (fun ls hl => ?_)
  refine lv_goto (tgt := 46) hx hb dX12_abbey_61 (by decide) ?_
  refine lv_iload_n hx hb dX12_abbey_46 rfl (lv_at hl 0 rfl) ?_
  refine lv_iconst (v := 4) hx hb dX12_abbey_47 (by decide) ?_
  refine lv_icmp_ge (tgt := 64) hx hb dX12_abbey_48 (by decide) (fun _ => ?_) (fun h => absurd (by decide) h)
  refine lv_iconst (v := 0) hx hb dX12_abbey_64 (by decide) ?_
  exact k_iret hC hr hlocks hw [] rfl rfl ⟨rfl, rfl⟩ (by decide) (by decide) dX12_abbey_65

set_option maxHeartbeats 4000000 in
set_option maxRecDepth 100000 in
theorem c_X12_years (γ : kΓ) (l : Launch) (z : Nat) (z2 : Nat) (z10 : Nat) (z11 : Nat) (z12 : Nat) (z13 : Nat) (z14 : Nat) (z15 : Nat) (z16 : Nat) (z17 : Nat) (z18 : Nat) (z19 : Nat) (z22 : Nat) (z23 : Nat) (z24 : Nat) (z25 : Nat) (z26 : Nat) (z27 : Nat) (z28 : Nat) (z29 : Nat) (z30 : Nat) (z31 : Nat) (z32 : Nat) (z33 : Nat) (z36 : Nat) (z37 : Nat) (z38 : Nat) (z39 : Nat) (z40 : Nat) (z41 : Nat) (z42 : Nat) (z43 : Nat) (z44 : Nat) (z45 : Nat) (z46 : Nat) (z47 : Nat) (z48 : Nat) (z55 : Nat) (z56 : Nat) (z59 : Nat) (z60 : Nat) (z61 : Nat) : kM γ l yX12_years cX12_years 1 ((some .int)) ({ frames := 2, cells := 0, slots := 0, locals := 41 } : Room) [.ref z] [(z, .inr (11, [.int 0, .int 0, .ref z2, .int 0, .int 0, .int 0, .int 0, .long 0, .int 0, .int 0, .ref z10, .ref z11, .ref z12, .ref z13, .ref z14, .ref z15, .ref z16, .ref z17, .ref z18, .ref z19, .int 0, .int 0, .ref z22, .ref z23, .ref z24, .ref z25, .ref z26, .ref z27, .ref z28, .ref z29, .ref z30, .ref z31, .ref z32, .ref z33, .int 0, .long 0, .ref z36, .ref z37, .ref z38, .ref z39, .ref z40, .ref z41, .ref z42, .ref z43, .ref z44, .ref z45, .ref z46, .ref z47, .ref z48, .int 0, .int 10, .int 0, .int 0, .int 0, .int 0, .ref z55, .ref z56, .int 0, .int 0, .ref z59, .ref z60, .ref z61, .int 0, .long 0])), (z36, .inl (γ.2.1 0, 6, .inl (fun _ => 0))), (z37, .inl (γ.2.1 0, 240, .inl (fun _ => 0))), (z38, .inl (γ.2.1 0, 240, .inl (fun _ => 0))), (z39, .inl (γ.2.1 0, 240, .inl (fun _ => 0)))] (fun r w1 => r = some (.int 0) ∧ w1 = []) := by
  refine k_ofW (by decide) (Nat.le_of_ble_eq_true rfl) ?_
  intro p e s m below meth c A ls hC hr hlocks hname hw hl
  have hx := hC.1
  have hb := hC.2.1
  have hl : lv_has ls 1 [(0, .ref z)] := hl
  refine lv_aload_n hx hb dX12_years_0 rfl (lv_at hl 0 rfl) ?_
  refine lv_iconst (v := 0) hx hb dX12_years_1 (by decide) ?_
  refine fs_RX12_143 hC hw 0 rfl rfl rfl (Nat.le_of_ble_eq_true rfl) dX12_years_2 (fun H locs hw => ?_)
  have hw : kW γ A [(z, .inr (11, [.int 0, .int 0, .ref z2, .int 0, .int 0, .int 0, .int 0, .long 0, .int 0, .int 0, .ref z10, .ref z11, .ref z12, .ref z13, .ref z14, .ref z15, .ref z16, .ref z17, .ref z18, .ref z19, .int 0, .int 0, .ref z22, .ref z23, .ref z24, .ref z25, .ref z26, .ref z27, .ref z28, .ref z29, .ref z30, .ref z31, .ref z32, .ref z33, .int 0, .long 0, .ref z36, .ref z37, .ref z38, .ref z39, .ref z40, .ref z41, .ref z42, .ref z43, .ref z44, .ref z45, .ref z46, .ref z47, .ref z48, .int 0, .int 10, .int 0, .int 0, .int 0, .int 0, .ref z55, .ref z56, .int 0, .int 0, .ref z59, .ref z60, .ref z61, .int 0, .long 0])), (z36, .inl (γ.2.1 0, 6, .inl (fun _ => 0))), (z37, .inl (γ.2.1 0, 240, .inl (fun _ => 0))), (z38, .inl (γ.2.1 0, 240, .inl (fun _ => 0))), (z39, .inl (γ.2.1 0, 240, .inl (fun _ => 0)))] s H locs := hw
  refine lv_aload_n hx hb dX12_years_5 rfl (lv_at hl 0 rfl) ?_
  refine fg_RX12_81 hC hw 0 rfl rfl dX12_years_6 ?_
  refine lv_iconst (v := 5) hx hb dX12_years_9 (by decide) ?_
  refine lv_iconst (v := 0) hx hb dX12_years_10 (by decide) ?_
  refine k_iast hC hw 1 rfl (k_in0 (by decide)) dX12_years_11 (fun H locs hw => ?_)
  obtain ⟨f_1388, ef_1388⟩ : ∃ g, g = upd (fun _ => 0) (5 : Int32).toNatClampNeg 0 := ⟨_, rfl⟩
  have hw : kW γ A [(z, .inr (11, [.int 0, .int 0, .ref z2, .int 0, .int 0, .int 0, .int 0, .long 0, .int 0, .int 0, .ref z10, .ref z11, .ref z12, .ref z13, .ref z14, .ref z15, .ref z16, .ref z17, .ref z18, .ref z19, .int 0, .int 0, .ref z22, .ref z23, .ref z24, .ref z25, .ref z26, .ref z27, .ref z28, .ref z29, .ref z30, .ref z31, .ref z32, .ref z33, .int 0, .long 0, .ref z36, .ref z37, .ref z38, .ref z39, .ref z40, .ref z41, .ref z42, .ref z43, .ref z44, .ref z45, .ref z46, .ref z47, .ref z48, .int 0, .int 10, .int 0, .int 0, .int 0, .int 0, .ref z55, .ref z56, .int 0, .int 0, .ref z59, .ref z60, .ref z61, .int 0, .long 0])), (z36, .inl (γ.2.1 0, 6, .inl f_1388)), (z37, .inl (γ.2.1 0, 240, .inl (fun _ => 0))), (z38, .inl (γ.2.1 0, 240, .inl (fun _ => 0))), (z39, .inl (γ.2.1 0, 240, .inl (fun _ => 0)))] s H locs := by rw [ef_1388]; exact hw
  have h_1389 : f_1388 5 = 0 := by rw [ef_1388]; rfl
  refine lv_aload_n hx hb dX12_years_12 rfl (lv_at hl 0 rfl) ?_
  refine k_V (wr := [(z36, .inl (γ.2.1 0, 6, .inl f_1388)), (z37, .inl (γ.2.1 0, 240, .inl (fun _ => 0))), (z38, .inl (γ.2.1 0, 240, .inl (fun _ => 0))), (z39, .inl (γ.2.1 0, 240, .inl (fun _ => 0)))]) 0 gw_1402 gw_1404 gp_53 gw_15 gw_1405 hd_X12_begins hC hw (c_X12_begins γ l z z2 z10 z11 z12 z13 z14 z15 z16 z17 z18 z19 z22 z23 z24 z25 z26 z27 z28 z29 z30 z31 z32 z33 z36 z37 z38 z39 z40 z41 z42 z43 z44 z45 z46 z47 z48 z55 z56 z59 z60 z61 0 0 0 0 0 0 0 0 0 0 0 0 0 10 0 0 0 0 0 0 0 0) ⟨by decide, by decide⟩ ⟨by decide, by decide⟩ hl.1 rfl 0 rfl rfl rfl (Nat.le_of_ble_eq_true rfl) [0] [1, 2, 3, 4] rfl rfl rfl rfl (by decide) dX12_years_13 (fun r w1 H locs hq hw => ?_)
  obtain ⟨rfl, rfl⟩ := hq
  have hw : kW γ A [(z36, .inl (γ.2.1 0, 6, .inl f_1388)), (z37, .inl (γ.2.1 0, 240, .inl (fun _ => 0))), (z38, .inl (γ.2.1 0, 240, .inl (fun _ => 0))), (z39, .inl (γ.2.1 0, 240, .inl (fun _ => 0))), (z, .inr (11, [.int 0, .int 0, .ref z2, .int 0, .int 0, .int 0, .int 0, .long 0, .int 0, .int 0, .ref z10, .ref z11, .ref z12, .ref z13, .ref z14, .ref z15, .ref z16, .ref z17, .ref z18, .ref z19, .int 0, .int 0, .ref z22, .ref z23, .ref z24, .ref z25, .ref z26, .ref z27, .ref z28, .ref z29, .ref z30, .ref z31, .ref z32, .ref z33, .int 0, .long 0, .ref z36, .ref z37, .ref z38, .ref z39, .ref z40, .ref z41, .ref z42, .ref z43, .ref z44, .ref z45, .ref z46, .ref z47, .ref z48, .int 0, .int 10, .int 0, .int 0, .int 0, .int 0, .ref z55, .ref z56, .int 0, .int 0, .ref z59, .ref z60, .ref z61, .int 0, .long 0]))] s H locs := hw
  refine W.eq (g2 := F0 m 16 ls []) rfl ?_
  refine lv_aload_n hx hb dX12_years_16 rfl (lv_at hl 0 rfl) ?_
  refine fg_RX12_167 hC hw 4 rfl rfl dX12_years_17 ?_
  refine lv_if_eq (tgt := 35) hx hb dX12_years_20 (by decide) (fun _ => ?_) (fun h => absurd (by decide) h)
  refine lv_aload_n hx hb dX12_years_35 rfl (lv_at hl 0 rfl) ?_
  refine lv_iconst (v := 5) hx hb dX12_years_36 (by decide) ?_
  refine lv_iconst (v := 0) hx hb dX12_years_37 (by decide) ?_
  refine k_V (wr := []) 2 gw_1541 gw_1543 gp_78 gw_15 gw_1544 hd_X12_laysLines hC hw (c_X12_laysLines γ l z z2 z10 z11 z12 z13 z14 z15 z16 z17 z18 z19 z22 z23 z24 z25 z26 z27 z28 z29 z30 z31 z32 z33 z36 z37 z38 z39 z40 z41 z42 z43 z44 z45 z46 z47 z48 z55 z56 z59 z60 z61 0 0 0 0 0 0 0 0 0 0 0 0 0 0 10 0 0 0 0 0 0 0 0 f_1388 (fun _ => 0) (fun _ => 0) (fun _ => 0) 5 0 (by decide) (by decide)) ⟨by decide, by decide⟩ ⟨by decide, by decide⟩ hl.1 rfl 4 rfl rfl rfl (Nat.le_of_ble_eq_true rfl) [4, 0, 1, 2, 3] [] rfl rfl rfl rfl (by decide) dX12_years_38 (fun r w1 H locs hq hw => ?_)
  obtain ⟨k0_1390, kg0_1391, kg1_1392, kg2_1393, rfl, rfl⟩ := hq
  have hw : kW γ A [(z, .inr (11, [.int 0, .int 0, .ref z2, .int 0, .int 0, .int 0, .int 0, .long 0, .int 0, .int 0, .ref z10, .ref z11, .ref z12, .ref z13, .ref z14, .ref z15, .ref z16, .ref z17, .ref z18, .ref z19, .int 0, .int 0, .ref z22, .ref z23, .ref z24, .ref z25, .ref z26, .ref z27, .ref z28, .ref z29, .ref z30, .ref z31, .ref z32, .ref z33, .int 0, .long 0, .ref z36, .ref z37, .ref z38, .ref z39, .ref z40, .ref z41, .ref z42, .ref z43, .ref z44, .ref z45, .ref z46, .ref z47, .ref z48, .int 0, .int 10, .int 0, .int 0, .int 0, .int 0, .ref z55, .ref z56, .int 0, .int 0, .ref z59, .ref z60, .ref z61, .int 0, .long 0])), (z36, .inl (γ.2.1 0, 6, .inl k0_1390)), (z37, .inl (γ.2.1 0, 240, .inl kg0_1391)), (z38, .inl (γ.2.1 0, 240, .inl kg1_1392)), (z39, .inl (γ.2.1 0, 240, .inl kg2_1393))] s H locs := hw
  refine W.eq (g2 := F0 m 41 ls []) rfl ?_
  refine lv_iconst (v := 0) hx hb dX12_years_41 (by decide) ?_
  exact k_iret hC hr hlocks hw [] rfl rfl ⟨rfl, rfl⟩ (by decide) (by decide) dX12_years_42

set_option maxHeartbeats 4000000 in
set_option maxRecDepth 100000 in
theorem c_X12_judges (γ : kΓ) (l : Launch) (z : Nat) (z2 : Nat) (z10 : Nat) (z11 : Nat) (z12 : Nat) (z13 : Nat) (z14 : Nat) (z15 : Nat) (z16 : Nat) (z17 : Nat) (z18 : Nat) (z19 : Nat) (z22 : Nat) (z23 : Nat) (z24 : Nat) (z25 : Nat) (z26 : Nat) (z27 : Nat) (z28 : Nat) (z29 : Nat) (z30 : Nat) (z31 : Nat) (z32 : Nat) (z33 : Nat) (z36 : Nat) (z37 : Nat) (z38 : Nat) (z39 : Nat) (z40 : Nat) (z41 : Nat) (z42 : Nat) (z43 : Nat) (z44 : Nat) (z45 : Nat) (z46 : Nat) (z47 : Nat) (z48 : Nat) (z55 : Nat) (z56 : Nat) (z59 : Nat) (z60 : Nat) (z61 : Nat) (fa : Nat → Int32) (ti : Int32) (fs : Nat → Int32) (fd : Nat → Int32) (ha0 : fa 0 = 0) (ha1 : fa 1 = 0) (ha2 : fa 2 = 10) (ha3 : fa 3 = 10) (ha4 : fa 4 = 3) : kM γ l yX12_judges cX12_judges 3 none ({ frames := 1, cells := 0, slots := 0, locals := 24 } : Room) [.ref z, .int ti] [(z, .inr (11, [.int 0, .int 0, .ref z2, .int 0, .int 0, .int 0, .int 0, .long 0, .int 0, .int 0, .ref z10, .ref z11, .ref z12, .ref z13, .ref z14, .ref z15, .ref z16, .ref z17, .ref z18, .ref z19, .int 0, .int 0, .ref z22, .ref z23, .ref z24, .ref z25, .ref z26, .ref z27, .ref z28, .ref z29, .ref z30, .ref z31, .ref z32, .ref z33, .int 0, .long 0, .ref z36, .ref z37, .ref z38, .ref z39, .ref z40, .ref z41, .ref z42, .ref z43, .ref z44, .ref z45, .ref z46, .ref z47, .ref z48, .int 0, .int 10, .int 0, .int 0, .int 0, .int 0, .ref z55, .ref z56, .int 0, .int 0, .ref z59, .ref z60, .ref z61, .int 0, .long 0])), (z10, .inl (γ.2.1 0, 10, .inl fa)), (z43, .inl (γ.2.1 0, 133, .inl fs)), (z44, .inl (γ.2.1 0, 133, .inl fd)), (z36, .inl (γ.2.1 0, 6, .inl (fun _ => 0)))] (fun r w1 => r = none ∧ w1 = [(z, .inr (11, [.int 0, .int 0, .ref z2, .int 0, .int 0, .int 0, .int 0, .long 0, .int 0, .int 0, .ref z10, .ref z11, .ref z12, .ref z13, .ref z14, .ref z15, .ref z16, .ref z17, .ref z18, .ref z19, .int 0, .int 0, .ref z22, .ref z23, .ref z24, .ref z25, .ref z26, .ref z27, .ref z28, .ref z29, .ref z30, .ref z31, .ref z32, .ref z33, .int 0, .long 0, .ref z36, .ref z37, .ref z38, .ref z39, .ref z40, .ref z41, .ref z42, .ref z43, .ref z44, .ref z45, .ref z46, .ref z47, .ref z48, .int 0, .int ti, .int (-1), .int (-1), .int 0, .int 0, .ref z55, .ref z56, .int 0, .int 0, .ref z59, .ref z60, .ref z61, .int 0, .long 0]))]) := by
  refine k_ofW (by decide) (Nat.le_of_ble_eq_true rfl) ?_
  intro p e s m below meth c A ls hC hr hlocks hname hw hl
  have hx := hC.1
  have hb := hC.2.1
  have hl : lv_has ls 3 [(0, .ref z), (1, .int ti)] := hl
  refine lv_aload_n hx hb dX12_judges_0 rfl (lv_at hl 0 rfl) ?_
  refine fg_RX12_102 hC hw 0 rfl rfl dX12_judges_1 ?_
  refine lv_iconst (v := 0) hx hb dX12_judges_4 (by decide) ?_
  refine lv_aload_n hx hb dX12_judges_5 rfl (lv_at hl 0 rfl) ?_
  refine fg_RX12_105 hC hw 0 rfl rfl dX12_judges_6 ?_
  refine lv_iconst (v := 0) hx hb dX12_judges_9 (by decide) ?_
  refine k_S (wr := [(z, .inr (11, [.int 0, .int 0, .ref z2, .int 0, .int 0, .int 0, .int 0, .long 0, .int 0, .int 0, .ref z10, .ref z11, .ref z12, .ref z13, .ref z14, .ref z15, .ref z16, .ref z17, .ref z18, .ref z19, .int 0, .int 0, .ref z22, .ref z23, .ref z24, .ref z25, .ref z26, .ref z27, .ref z28, .ref z29, .ref z30, .ref z31, .ref z32, .ref z33, .int 0, .long 0, .ref z36, .ref z37, .ref z38, .ref z39, .ref z40, .ref z41, .ref z42, .ref z43, .ref z44, .ref z45, .ref z46, .ref z47, .ref z48, .int 0, .int 10, .int 0, .int 0, .int 0, .int 0, .ref z55, .ref z56, .int 0, .int 0, .ref z59, .ref z60, .ref z61, .int 0, .long 0])), (z10, .inl (γ.2.1 0, 10, .inl fa)), (z36, .inl (γ.2.1 0, 6, .inl (fun _ => 0)))]) 4 gw_1593 gw_1594 gw_15 gw_1595 hd_X12_copies hC hw (c_X12_copies γ l z43 133 fs 0 z44 133 fd 0 (by decide) (by decide) (by decide) (by decide)) ⟨by decide, by decide⟩ ⟨by decide, by decide⟩ hl.1 rfl rfl (Nat.le_of_ble_eq_true rfl) [2, 3] [0, 1, 4] rfl rfl rfl rfl (by decide) dX12_judges_10 (fun r w1 H locs hq hw => ?_)
  obtain ⟨f9_1394, rfl, rfl⟩ := hq
  have hw : kW γ A [(z, .inr (11, [.int 0, .int 0, .ref z2, .int 0, .int 0, .int 0, .int 0, .long 0, .int 0, .int 0, .ref z10, .ref z11, .ref z12, .ref z13, .ref z14, .ref z15, .ref z16, .ref z17, .ref z18, .ref z19, .int 0, .int 0, .ref z22, .ref z23, .ref z24, .ref z25, .ref z26, .ref z27, .ref z28, .ref z29, .ref z30, .ref z31, .ref z32, .ref z33, .int 0, .long 0, .ref z36, .ref z37, .ref z38, .ref z39, .ref z40, .ref z41, .ref z42, .ref z43, .ref z44, .ref z45, .ref z46, .ref z47, .ref z48, .int 0, .int 10, .int 0, .int 0, .int 0, .int 0, .ref z55, .ref z56, .int 0, .int 0, .ref z59, .ref z60, .ref z61, .int 0, .long 0])), (z10, .inl (γ.2.1 0, 10, .inl fa)), (z36, .inl (γ.2.1 0, 6, .inl (fun _ => 0))), (z43, .inl (γ.2.1 0, 133, .inl fs)), (z44, .inl (γ.2.1 0, 133, .inl f9_1394))] s H locs := hw
  refine W.eq (g2 := F0 m 13 ls []) rfl ?_
  refine lv_aload_n hx hb dX12_judges_13 rfl (lv_at hl 0 rfl) ?_
  refine k_V (wr := [(z10, .inl (γ.2.1 0, 10, .inl fa)), (z36, .inl (γ.2.1 0, 6, .inl (fun _ => 0))), (z44, .inl (γ.2.1 0, 133, .inl f9_1394))]) 0 gw_1529 gw_1531 gp_76 gw_15 gw_1532 hd_X12_fresh hC hw (c_X12_fresh γ l z z2 z10 z11 z12 z13 z14 z15 z16 z17 z18 z19 z22 z23 z24 z25 z26 z27 z28 z29 z30 z31 z32 z33 z36 z37 z38 z39 z40 z41 z42 z43 z44 z45 z46 z47 z48 z55 z56 z59 z60 z61 0 0 0 0 0 0 0 0 0 0 0 0 0 0 10 0 0 0 0 0 0 0 0 fs) ⟨by decide, by decide⟩ ⟨by decide, by decide⟩ hl.1 rfl 0 rfl rfl rfl (Nat.le_of_ble_eq_true rfl) [0, 3] [1, 2, 4] rfl rfl rfl rfl (by decide) dX12_judges_14 (fun r w1 H locs hq hw => ?_)
  obtain ⟨f9_1395, rfl, rfl⟩ := hq
  have hw : kW γ A [(z10, .inl (γ.2.1 0, 10, .inl fa)), (z36, .inl (γ.2.1 0, 6, .inl (fun _ => 0))), (z44, .inl (γ.2.1 0, 133, .inl f9_1394)), (z, .inr (11, [.int 0, .int 0, .ref z2, .int 0, .int 0, .int 0, .int 0, .long 0, .int 0, .int 0, .ref z10, .ref z11, .ref z12, .ref z13, .ref z14, .ref z15, .ref z16, .ref z17, .ref z18, .ref z19, .int 0, .int 0, .ref z22, .ref z23, .ref z24, .ref z25, .ref z26, .ref z27, .ref z28, .ref z29, .ref z30, .ref z31, .ref z32, .ref z33, .int 0, .long 0, .ref z36, .ref z37, .ref z38, .ref z39, .ref z40, .ref z41, .ref z42, .ref z43, .ref z44, .ref z45, .ref z46, .ref z47, .ref z48, .int 0, .int 10, .int 0, .int 0, .int 0, .int 0, .ref z55, .ref z56, .int 0, .int 0, .ref z59, .ref z60, .ref z61, .int 0, .long 0])), (z43, .inl (γ.2.1 0, 133, .inl f9_1395))] s H locs := hw
  refine W.eq (g2 := F0 m 17 ls []) rfl ?_
  refine lv_aload_n hx hb dX12_judges_17 rfl (lv_at hl 0 rfl) ?_
  refine lv_iload_n hx hb dX12_judges_18 rfl (lv_at hl 1 rfl) ?_
  refine fs_RX12_120 hC hw 3 rfl rfl rfl (Nat.le_of_ble_eq_true rfl) dX12_judges_19 (fun H locs hw => ?_)
  have hw : kW γ A [(z10, .inl (γ.2.1 0, 10, .inl fa)), (z36, .inl (γ.2.1 0, 6, .inl (fun _ => 0))), (z44, .inl (γ.2.1 0, 133, .inl f9_1394)), (z, .inr (11, [.int 0, .int 0, .ref z2, .int 0, .int 0, .int 0, .int 0, .long 0, .int 0, .int 0, .ref z10, .ref z11, .ref z12, .ref z13, .ref z14, .ref z15, .ref z16, .ref z17, .ref z18, .ref z19, .int 0, .int 0, .ref z22, .ref z23, .ref z24, .ref z25, .ref z26, .ref z27, .ref z28, .ref z29, .ref z30, .ref z31, .ref z32, .ref z33, .int 0, .long 0, .ref z36, .ref z37, .ref z38, .ref z39, .ref z40, .ref z41, .ref z42, .ref z43, .ref z44, .ref z45, .ref z46, .ref z47, .ref z48, .int 0, .int ti, .int 0, .int 0, .int 0, .int 0, .ref z55, .ref z56, .int 0, .int 0, .ref z59, .ref z60, .ref z61, .int 0, .long 0])), (z43, .inl (γ.2.1 0, 133, .inl f9_1395))] s H locs := hw
  refine lv_aload_n hx hb dX12_judges_22 rfl (lv_at hl 0 rfl) ?_
  refine lv_iconst (v := (-1)) hx hb dX12_judges_23 (by decide) ?_
  refine fs_RX12_418 hC hw 3 rfl rfl rfl (Nat.le_of_ble_eq_true rfl) dX12_judges_24 (fun H locs hw => ?_)
  have hw : kW γ A [(z10, .inl (γ.2.1 0, 10, .inl fa)), (z36, .inl (γ.2.1 0, 6, .inl (fun _ => 0))), (z44, .inl (γ.2.1 0, 133, .inl f9_1394)), (z, .inr (11, [.int 0, .int 0, .ref z2, .int 0, .int 0, .int 0, .int 0, .long 0, .int 0, .int 0, .ref z10, .ref z11, .ref z12, .ref z13, .ref z14, .ref z15, .ref z16, .ref z17, .ref z18, .ref z19, .int 0, .int 0, .ref z22, .ref z23, .ref z24, .ref z25, .ref z26, .ref z27, .ref z28, .ref z29, .ref z30, .ref z31, .ref z32, .ref z33, .int 0, .long 0, .ref z36, .ref z37, .ref z38, .ref z39, .ref z40, .ref z41, .ref z42, .ref z43, .ref z44, .ref z45, .ref z46, .ref z47, .ref z48, .int 0, .int ti, .int (-1), .int 0, .int 0, .int 0, .ref z55, .ref z56, .int 0, .int 0, .ref z59, .ref z60, .ref z61, .int 0, .long 0])), (z43, .inl (γ.2.1 0, 133, .inl f9_1395))] s H locs := hw
  refine lv_aload_n hx hb dX12_judges_27 rfl (lv_at hl 0 rfl) ?_
  refine lv_iconst (v := (-1)) hx hb dX12_judges_28 (by decide) ?_
  refine fs_RX12_415 hC hw 3 rfl rfl rfl (Nat.le_of_ble_eq_true rfl) dX12_judges_29 (fun H locs hw => ?_)
  have hw : kW γ A [(z10, .inl (γ.2.1 0, 10, .inl fa)), (z36, .inl (γ.2.1 0, 6, .inl (fun _ => 0))), (z44, .inl (γ.2.1 0, 133, .inl f9_1394)), (z, .inr (11, [.int 0, .int 0, .ref z2, .int 0, .int 0, .int 0, .int 0, .long 0, .int 0, .int 0, .ref z10, .ref z11, .ref z12, .ref z13, .ref z14, .ref z15, .ref z16, .ref z17, .ref z18, .ref z19, .int 0, .int 0, .ref z22, .ref z23, .ref z24, .ref z25, .ref z26, .ref z27, .ref z28, .ref z29, .ref z30, .ref z31, .ref z32, .ref z33, .int 0, .long 0, .ref z36, .ref z37, .ref z38, .ref z39, .ref z40, .ref z41, .ref z42, .ref z43, .ref z44, .ref z45, .ref z46, .ref z47, .ref z48, .int 0, .int ti, .int (-1), .int (-1), .int 0, .int 0, .ref z55, .ref z56, .int 0, .int 0, .ref z59, .ref z60, .ref z61, .int 0, .long 0])), (z43, .inl (γ.2.1 0, 133, .inl f9_1395))] s H locs := hw
  refine lv_aload_n hx hb dX12_judges_32 rfl (lv_at hl 0 rfl) ?_
  refine lv_iconst (v := 0) hx hb dX12_judges_33 (by decide) ?_
  refine fs_RX12_412 hC hw 3 rfl rfl rfl (Nat.le_of_ble_eq_true rfl) dX12_judges_34 (fun H locs hw => ?_)
  have hw : kW γ A [(z10, .inl (γ.2.1 0, 10, .inl fa)), (z36, .inl (γ.2.1 0, 6, .inl (fun _ => 0))), (z44, .inl (γ.2.1 0, 133, .inl f9_1394)), (z, .inr (11, [.int 0, .int 0, .ref z2, .int 0, .int 0, .int 0, .int 0, .long 0, .int 0, .int 0, .ref z10, .ref z11, .ref z12, .ref z13, .ref z14, .ref z15, .ref z16, .ref z17, .ref z18, .ref z19, .int 0, .int 0, .ref z22, .ref z23, .ref z24, .ref z25, .ref z26, .ref z27, .ref z28, .ref z29, .ref z30, .ref z31, .ref z32, .ref z33, .int 0, .long 0, .ref z36, .ref z37, .ref z38, .ref z39, .ref z40, .ref z41, .ref z42, .ref z43, .ref z44, .ref z45, .ref z46, .ref z47, .ref z48, .int 0, .int ti, .int (-1), .int (-1), .int 0, .int 0, .ref z55, .ref z56, .int 0, .int 0, .ref z59, .ref z60, .ref z61, .int 0, .long 0])), (z43, .inl (γ.2.1 0, 133, .inl f9_1395))] s H locs := hw
  refine lv_iconst (v := 0) hx hb dX12_judges_37 (by decide) ?_
  refine lv_istore_n (lv' := [(2, .int 0), (0, .ref z), (1, .int ti)]) hx hb dX12_judges_38 rfl hl (by decide) rfl (fun ls hl => ?_)
  refine lv_iload_n hx hb dX12_judges_39 rfl (lv_at hl 0 rfl) ?_
  refine lv_aload_n hx hb dX12_judges_40 rfl (lv_at hl 1 rfl) ?_
  refine fg_RX12_81 hC hw 3 rfl rfl dX12_judges_41 ?_
  refine lv_iconst (v := 0) hx hb dX12_judges_44 (by decide) ?_
  refine k_iald hC hw 1 rfl (k_in0 (by decide)) dX12_judges_45 ?_
  refine lv_topi (fun x_1396 ex_1396 => ?_)
  obtain rfl : x_1396 = 0 := ex_1396
  refine lv_icmp_ge (tgt := 75) hx hb dX12_judges_46 (by decide) (fun _ => ?_) (fun h => absurd (by decide) h)
  refine lv_aload_n hx hb dX12_judges_75 rfl (lv_at hl 1 rfl) ?_
  refine lv_aload_n hx hb dX12_judges_76 rfl (lv_at hl 1 rfl) ?_
  refine k_V (wr := [(z36, .inl (γ.2.1 0, 6, .inl (fun _ => 0))), (z44, .inl (γ.2.1 0, 133, .inl f9_1394)), (z43, .inl (γ.2.1 0, 133, .inl f9_1395))]) 0 gw_1668 gw_1670 gp_100 gw_15 gw_1671 hd_X12_gainedByAll hC hw (c_X12_gainedByAll γ l z z2 z10 z11 z12 z13 z14 z15 z16 z17 z18 z19 z22 z23 z24 z25 z26 z27 z28 z29 z30 z31 z32 z33 z36 z37 z38 z39 z40 z41 z42 z43 z44 z45 z46 z47 z48 z55 z56 z59 z60 z61 0 0 0 0 0 0 0 0 0 0 0 0 0 0 ti (-1) (-1) 0 0 0 0 0 0 fa ha0 ha1 ha2 ha3 ha4) ⟨by decide, by decide⟩ ⟨by decide, by decide⟩ hl.1 rfl 3 rfl rfl rfl (Nat.le_of_ble_eq_true rfl) [3, 0] [1, 2, 4] rfl rfl rfl rfl (by decide) dX12_judges_77 (fun r w1 H locs hq hw => ?_)
  obtain ⟨rfl, rfl⟩ := hq
  have hw : kW γ A [(z36, .inl (γ.2.1 0, 6, .inl (fun _ => 0))), (z44, .inl (γ.2.1 0, 133, .inl f9_1394)), (z43, .inl (γ.2.1 0, 133, .inl f9_1395)), (z, .inr (11, [.int 0, .int 0, .ref z2, .int 0, .int 0, .int 0, .int 0, .long 0, .int 0, .int 0, .ref z10, .ref z11, .ref z12, .ref z13, .ref z14, .ref z15, .ref z16, .ref z17, .ref z18, .ref z19, .int 0, .int 0, .ref z22, .ref z23, .ref z24, .ref z25, .ref z26, .ref z27, .ref z28, .ref z29, .ref z30, .ref z31, .ref z32, .ref z33, .int 0, .long 0, .ref z36, .ref z37, .ref z38, .ref z39, .ref z40, .ref z41, .ref z42, .ref z43, .ref z44, .ref z45, .ref z46, .ref z47, .ref z48, .int 0, .int ti, .int (-1), .int (-1), .int 0, .int 0, .ref z55, .ref z56, .int 0, .int 0, .ref z59, .ref z60, .ref z61, .int 0, .long 0])), (z10, .inl (γ.2.1 0, 10, .inl fa))] s H locs := hw
  refine W.eq (g2 := F0 m 80 ls [.int 0, .ref z]) rfl ?_
  refine fs_RX12_427 hC hw 3 rfl rfl rfl (Nat.le_of_ble_eq_true rfl) dX12_judges_80 (fun H locs hw => ?_)
  have hw : kW γ A [(z36, .inl (γ.2.1 0, 6, .inl (fun _ => 0))), (z44, .inl (γ.2.1 0, 133, .inl f9_1394)), (z43, .inl (γ.2.1 0, 133, .inl f9_1395)), (z, .inr (11, [.int 0, .int 0, .ref z2, .int 0, .int 0, .int 0, .int 0, .long 0, .int 0, .int 0, .ref z10, .ref z11, .ref z12, .ref z13, .ref z14, .ref z15, .ref z16, .ref z17, .ref z18, .ref z19, .int 0, .int 0, .ref z22, .ref z23, .ref z24, .ref z25, .ref z26, .ref z27, .ref z28, .ref z29, .ref z30, .ref z31, .ref z32, .ref z33, .int 0, .long 0, .ref z36, .ref z37, .ref z38, .ref z39, .ref z40, .ref z41, .ref z42, .ref z43, .ref z44, .ref z45, .ref z46, .ref z47, .ref z48, .int 0, .int ti, .int (-1), .int (-1), .int 0, .int 0, .ref z55, .ref z56, .int 0, .int 0, .ref z59, .ref z60, .ref z61, .int 0, .long 0])), (z10, .inl (γ.2.1 0, 10, .inl fa))] s H locs := hw
  refine lv_aload_n hx hb dX12_judges_83 rfl (lv_at hl 1 rfl) ?_
  refine fg_RX12_105 hC hw 3 rfl rfl dX12_judges_84 ?_
  refine lv_iconst (v := 0) hx hb dX12_judges_87 (by decide) ?_
  refine lv_aload_n hx hb dX12_judges_88 rfl (lv_at hl 1 rfl) ?_
  refine fg_RX12_102 hC hw 3 rfl rfl dX12_judges_89 ?_
  refine lv_iconst (v := 0) hx hb dX12_judges_92 (by decide) ?_
  refine k_S (wr := [(z36, .inl (γ.2.1 0, 6, .inl (fun _ => 0))), (z, .inr (11, [.int 0, .int 0, .ref z2, .int 0, .int 0, .int 0, .int 0, .long 0, .int 0, .int 0, .ref z10, .ref z11, .ref z12, .ref z13, .ref z14, .ref z15, .ref z16, .ref z17, .ref z18, .ref z19, .int 0, .int 0, .ref z22, .ref z23, .ref z24, .ref z25, .ref z26, .ref z27, .ref z28, .ref z29, .ref z30, .ref z31, .ref z32, .ref z33, .int 0, .long 0, .ref z36, .ref z37, .ref z38, .ref z39, .ref z40, .ref z41, .ref z42, .ref z43, .ref z44, .ref z45, .ref z46, .ref z47, .ref z48, .int 0, .int ti, .int (-1), .int (-1), .int 0, .int 0, .ref z55, .ref z56, .int 0, .int 0, .ref z59, .ref z60, .ref z61, .int 0, .long 0])), (z10, .inl (γ.2.1 0, 10, .inl fa))]) 4 gw_1593 gw_1594 gw_15 gw_1595 hd_X12_copies hC hw (c_X12_copies γ l z44 133 f9_1394 0 z43 133 f9_1395 0 (by decide) (by decide) (by decide) (by decide)) ⟨by decide, by decide⟩ ⟨by decide, by decide⟩ hl.1 rfl rfl (Nat.le_of_ble_eq_true rfl) [1, 2] [0, 3, 4] rfl rfl rfl rfl (by decide) dX12_judges_93 (fun r w1 H locs hq hw => ?_)
  obtain ⟨f9_1397, rfl, rfl⟩ := hq
  have hw : kW γ A [(z36, .inl (γ.2.1 0, 6, .inl (fun _ => 0))), (z, .inr (11, [.int 0, .int 0, .ref z2, .int 0, .int 0, .int 0, .int 0, .long 0, .int 0, .int 0, .ref z10, .ref z11, .ref z12, .ref z13, .ref z14, .ref z15, .ref z16, .ref z17, .ref z18, .ref z19, .int 0, .int 0, .ref z22, .ref z23, .ref z24, .ref z25, .ref z26, .ref z27, .ref z28, .ref z29, .ref z30, .ref z31, .ref z32, .ref z33, .int 0, .long 0, .ref z36, .ref z37, .ref z38, .ref z39, .ref z40, .ref z41, .ref z42, .ref z43, .ref z44, .ref z45, .ref z46, .ref z47, .ref z48, .int 0, .int ti, .int (-1), .int (-1), .int 0, .int 0, .ref z55, .ref z56, .int 0, .int 0, .ref z59, .ref z60, .ref z61, .int 0, .long 0])), (z10, .inl (γ.2.1 0, 10, .inl fa)), (z44, .inl (γ.2.1 0, 133, .inl f9_1394)), (z43, .inl (γ.2.1 0, 133, .inl f9_1397))] s H locs := hw
  refine W.eq (g2 := F0 m 96 ls []) rfl ?_
  exact k_vret hC hr hlocks hw [1] rfl rfl ⟨rfl, rfl⟩ (by decide) (by decide) dX12_judges_96

set_option maxHeartbeats 4000000 in
set_option maxRecDepth 100000 in
theorem c_X12_judged_0 (γ : kΓ) (l : Launch) (z : Nat) (z2 : Nat) (z10 : Nat) (z11 : Nat) (z12 : Nat) (z13 : Nat) (z14 : Nat) (z15 : Nat) (z16 : Nat) (z17 : Nat) (z18 : Nat) (z19 : Nat) (z22 : Nat) (z23 : Nat) (z24 : Nat) (z25 : Nat) (z26 : Nat) (z27 : Nat) (z28 : Nat) (z29 : Nat) (z30 : Nat) (z31 : Nat) (z32 : Nat) (z33 : Nat) (z36 : Nat) (z37 : Nat) (z38 : Nat) (z39 : Nat) (z40 : Nat) (z41 : Nat) (z42 : Nat) (z43 : Nat) (z44 : Nat) (z45 : Nat) (z46 : Nat) (z47 : Nat) (z48 : Nat) (z55 : Nat) (z56 : Nat) (z59 : Nat) (z60 : Nat) (z61 : Nat) (fa : Nat → Int32) (fs : Nat → Int32) (fd : Nat → Int32) (ha0 : fa 0 = 0) (ha1 : fa 1 = 0) (ha2 : fa 2 = 10) (ha3 : fa 3 = 10) (ha4 : fa 4 = 3) : kM γ l yX12_judged cX12_judged 2 ((some .int)) ({ frames := 2, cells := 0, slots := 0, locals := 46 } : Room) [.ref z, .int 0] [(z, .inr (11, [.int 0, .int 0, .ref z2, .int 0, .int 0, .int 0, .int 0, .long 0, .int 0, .int 0, .ref z10, .ref z11, .ref z12, .ref z13, .ref z14, .ref z15, .ref z16, .ref z17, .ref z18, .ref z19, .int 0, .int 0, .ref z22, .ref z23, .ref z24, .ref z25, .ref z26, .ref z27, .ref z28, .ref z29, .ref z30, .ref z31, .ref z32, .ref z33, .int 0, .long 0, .ref z36, .ref z37, .ref z38, .ref z39, .ref z40, .ref z41, .ref z42, .ref z43, .ref z44, .ref z45, .ref z46, .ref z47, .ref z48, .int 0, .int 10, .int 0, .int 0, .int 0, .int 0, .ref z55, .ref z56, .int 0, .int 0, .ref z59, .ref z60, .ref z61, .int 0, .long 0])), (z10, .inl (γ.2.1 0, 10, .inl fa)), (z43, .inl (γ.2.1 0, 133, .inl fs)), (z44, .inl (γ.2.1 0, 133, .inl fd)), (z36, .inl (γ.2.1 0, 6, .inl (fun _ => 0)))] (fun r w1 => r = some (.int (-1)) ∧ w1 = [(z, .inr (11, [.int 0, .int 0, .ref z2, .int 0, .int 0, .int 0, .int 0, .long 0, .int 0, .int 0, .ref z10, .ref z11, .ref z12, .ref z13, .ref z14, .ref z15, .ref z16, .ref z17, .ref z18, .ref z19, .int 0, .int 0, .ref z22, .ref z23, .ref z24, .ref z25, .ref z26, .ref z27, .ref z28, .ref z29, .ref z30, .ref z31, .ref z32, .ref z33, .int 0, .long 0, .ref z36, .ref z37, .ref z38, .ref z39, .ref z40, .ref z41, .ref z42, .ref z43, .ref z44, .ref z45, .ref z46, .ref z47, .ref z48, .int 0, .int 10, .int (-1), .int (-1), .int 0, .int 0, .ref z55, .ref z56, .int 0, .int 0, .ref z59, .ref z60, .ref z61, .int 0, .long 0]))]) := by
  refine k_ofW (by decide) (Nat.le_of_ble_eq_true rfl) ?_
  intro p e s m below meth c A ls hC hr hlocks hname hw hl
  have hx := hC.1
  have hb := hC.2.1
  have hl : lv_has ls 2 [(0, .ref z), (1, .int 0)] := hl
  refine lv_aload_n hx hb dX12_judged_0 rfl (lv_at hl 0 rfl) ?_
  refine lv_iload_n hx hb dX12_judged_1 rfl (lv_at hl 1 rfl) ?_
  refine lv_iconst (v := 0) hx hb dX12_judged_2 (by decide) ?_
  refine lv_iconst (v := 2) hx hb dX12_judged_3 (by decide) ?_
  refine k_S (wr := [(z, .inr (11, [.int 0, .int 0, .ref z2, .int 0, .int 0, .int 0, .int 0, .long 0, .int 0, .int 0, .ref z10, .ref z11, .ref z12, .ref z13, .ref z14, .ref z15, .ref z16, .ref z17, .ref z18, .ref z19, .int 0, .int 0, .ref z22, .ref z23, .ref z24, .ref z25, .ref z26, .ref z27, .ref z28, .ref z29, .ref z30, .ref z31, .ref z32, .ref z33, .int 0, .long 0, .ref z36, .ref z37, .ref z38, .ref z39, .ref z40, .ref z41, .ref z42, .ref z43, .ref z44, .ref z45, .ref z46, .ref z47, .ref z48, .int 0, .int 10, .int 0, .int 0, .int 0, .int 0, .ref z55, .ref z56, .int 0, .int 0, .ref z59, .ref z60, .ref z61, .int 0, .long 0])), (z10, .inl (γ.2.1 0, 10, .inl fa)), (z43, .inl (γ.2.1 0, 133, .inl fs)), (z44, .inl (γ.2.1 0, 133, .inl fd)), (z36, .inl (γ.2.1 0, 6, .inl (fun _ => 0)))]) 3 gw_1472 gw_1473 gw_15 gw_1474 hd_X12_within hC hw (c_within_t γ l 0 0 2 (by decide) (by decide)) ⟨by decide, by decide⟩ ⟨by decide, by decide⟩ hl.1 rfl rfl (Nat.le_of_ble_eq_true rfl) [] [0, 1, 2, 3, 4] rfl rfl rfl rfl (by decide) dX12_judged_4 (fun r w1 H locs hq hw => ?_)
  obtain ⟨rfl, rfl⟩ := hq
  have hw : kW γ A [(z, .inr (11, [.int 0, .int 0, .ref z2, .int 0, .int 0, .int 0, .int 0, .long 0, .int 0, .int 0, .ref z10, .ref z11, .ref z12, .ref z13, .ref z14, .ref z15, .ref z16, .ref z17, .ref z18, .ref z19, .int 0, .int 0, .ref z22, .ref z23, .ref z24, .ref z25, .ref z26, .ref z27, .ref z28, .ref z29, .ref z30, .ref z31, .ref z32, .ref z33, .int 0, .long 0, .ref z36, .ref z37, .ref z38, .ref z39, .ref z40, .ref z41, .ref z42, .ref z43, .ref z44, .ref z45, .ref z46, .ref z47, .ref z48, .int 0, .int 10, .int 0, .int 0, .int 0, .int 0, .ref z55, .ref z56, .int 0, .int 0, .ref z59, .ref z60, .ref z61, .int 0, .long 0])), (z10, .inl (γ.2.1 0, 10, .inl fa)), (z43, .inl (γ.2.1 0, 133, .inl fs)), (z44, .inl (γ.2.1 0, 133, .inl fd)), (z36, .inl (γ.2.1 0, 6, .inl (fun _ => 0)))] s H locs := hw
  refine W.eq (g2 := F0 m 7 ls [.int 1, .ref z]) rfl ?_
  refine lv_if_eq (tgt := 14) hx hb dX12_judged_7 (by decide) (fun h => absurd h (by decide)) (fun _ => ?_)
  refine lv_iconst (v := 0) hx hb dX12_judged_10 (by decide) ?_
  refine lv_goto (tgt := 15) hx hb dX12_judged_11 (by decide) ?_
  refine fs_RX12_143 hC hw 0 rfl rfl rfl (Nat.le_of_ble_eq_true rfl) dX12_judged_15 (fun H locs hw => ?_)
  have hw : kW γ A [(z, .inr (11, [.int 0, .int 0, .ref z2, .int 0, .int 0, .int 0, .int 0, .long 0, .int 0, .int 0, .ref z10, .ref z11, .ref z12, .ref z13, .ref z14, .ref z15, .ref z16, .ref z17, .ref z18, .ref z19, .int 0, .int 0, .ref z22, .ref z23, .ref z24, .ref z25, .ref z26, .ref z27, .ref z28, .ref z29, .ref z30, .ref z31, .ref z32, .ref z33, .int 0, .long 0, .ref z36, .ref z37, .ref z38, .ref z39, .ref z40, .ref z41, .ref z42, .ref z43, .ref z44, .ref z45, .ref z46, .ref z47, .ref z48, .int 0, .int 10, .int 0, .int 0, .int 0, .int 0, .ref z55, .ref z56, .int 0, .int 0, .ref z59, .ref z60, .ref z61, .int 0, .long 0])), (z10, .inl (γ.2.1 0, 10, .inl fa)), (z43, .inl (γ.2.1 0, 133, .inl fs)), (z44, .inl (γ.2.1 0, 133, .inl fd)), (z36, .inl (γ.2.1 0, 6, .inl (fun _ => 0)))] s H locs := hw
  refine lv_aload_n hx hb dX12_judged_18 rfl (lv_at hl 0 rfl) ?_
  refine fg_RX12_143 hC hw 0 rfl rfl dX12_judged_19 ?_
  refine lv_iconst (v := 1) hx hb dX12_judged_22 (by decide) ?_
  refine lv_icmp_ne (tgt := 28) hx hb dX12_judged_23 (by decide) (fun _ => ?_) (fun h => absurd h (by decide))
  refine lv_aload_n hx hb dX12_judged_28 rfl (lv_at hl 0 rfl) ?_
  refine lv_aload_n hx hb dX12_judged_29 rfl (lv_at hl 0 rfl) ?_
  refine fg_RX12_13 hC hw 0 rfl rfl dX12_judged_30 ?_
  refine lv_iconst (v := 2) hx hb dX12_judged_33 (by decide) ?_
  refine k_iald hC hw 1 rfl (k_in0 (by decide)) dX12_judged_34 ?_
  refine lv_topi (fun x_1398 ex_1398 => ?_)
  obtain rfl : x_1398 = 10 := (show x_1398 = fa 2 from ex_1398).trans ha2
  refine k_V (wr := []) 1 gw_1660 gw_1662 gp_98 gw_15 gw_1663 hd_X12_judges hC hw (c_X12_judges γ l z z2 z10 z11 z12 z13 z14 z15 z16 z17 z18 z19 z22 z23 z24 z25 z26 z27 z28 z29 z30 z31 z32 z33 z36 z37 z38 z39 z40 z41 z42 z43 z44 z45 z46 z47 z48 z55 z56 z59 z60 z61 fa 10 fs fd ha0 ha1 ha2 ha3 ha4) ⟨by decide, by decide⟩ ⟨by decide, by decide⟩ hl.1 rfl 0 rfl rfl rfl (Nat.le_of_ble_eq_true rfl) [0, 1, 2, 3, 4] [] rfl rfl rfl rfl (by decide) dX12_judged_35 (fun r w1 H locs hq hw => ?_)
  obtain ⟨rfl, rfl⟩ := hq
  have hw : kW γ A [(z, .inr (11, [.int 0, .int 0, .ref z2, .int 0, .int 0, .int 0, .int 0, .long 0, .int 0, .int 0, .ref z10, .ref z11, .ref z12, .ref z13, .ref z14, .ref z15, .ref z16, .ref z17, .ref z18, .ref z19, .int 0, .int 0, .ref z22, .ref z23, .ref z24, .ref z25, .ref z26, .ref z27, .ref z28, .ref z29, .ref z30, .ref z31, .ref z32, .ref z33, .int 0, .long 0, .ref z36, .ref z37, .ref z38, .ref z39, .ref z40, .ref z41, .ref z42, .ref z43, .ref z44, .ref z45, .ref z46, .ref z47, .ref z48, .int 0, .int 10, .int (-1), .int (-1), .int 0, .int 0, .ref z55, .ref z56, .int 0, .int 0, .ref z59, .ref z60, .ref z61, .int 0, .long 0]))] s H locs := hw
  refine W.eq (g2 := F0 m 38 ls []) rfl ?_
  refine lv_iload_n hx hb dX12_judged_38 rfl (lv_at hl 1 rfl) ?_
  refine lv_if_ne (tgt := 49) hx hb dX12_judged_39 (by decide) (fun h => absurd rfl h) (fun _ => ?_)
  refine lv_aload_n hx hb dX12_judged_42 rfl (lv_at hl 0 rfl) ?_
  refine fg_RX12_418 hC hw 0 rfl rfl dX12_judged_43 ?_
  refine lv_goto (tgt := 65) hx hb dX12_judged_46 (by decide) ?_
  exact k_iret hC hr hlocks hw [0] rfl rfl ⟨rfl, rfl⟩ (by decide) (by decide) dX12_judged_65

set_option maxHeartbeats 4000000 in
set_option maxRecDepth 100000 in
theorem c_X12_judged_1 (γ : kΓ) (l : Launch) (z : Nat) (z2 : Nat) (z10 : Nat) (z11 : Nat) (z12 : Nat) (z13 : Nat) (z14 : Nat) (z15 : Nat) (z16 : Nat) (z17 : Nat) (z18 : Nat) (z19 : Nat) (z22 : Nat) (z23 : Nat) (z24 : Nat) (z25 : Nat) (z26 : Nat) (z27 : Nat) (z28 : Nat) (z29 : Nat) (z30 : Nat) (z31 : Nat) (z32 : Nat) (z33 : Nat) (z36 : Nat) (z37 : Nat) (z38 : Nat) (z39 : Nat) (z40 : Nat) (z41 : Nat) (z42 : Nat) (z43 : Nat) (z44 : Nat) (z45 : Nat) (z46 : Nat) (z47 : Nat) (z48 : Nat) (z55 : Nat) (z56 : Nat) (z59 : Nat) (z60 : Nat) (z61 : Nat) (fa : Nat → Int32) (fs : Nat → Int32) (fd : Nat → Int32) (ha0 : fa 0 = 0) (ha1 : fa 1 = 0) (ha2 : fa 2 = 10) (ha3 : fa 3 = 10) (ha4 : fa 4 = 3) : kM γ l yX12_judged cX12_judged 2 ((some .int)) ({ frames := 2, cells := 0, slots := 0, locals := 46 } : Room) [.ref z, .int 1] [(z, .inr (11, [.int 0, .int 0, .ref z2, .int 0, .int 0, .int 0, .int 0, .long 0, .int 0, .int 0, .ref z10, .ref z11, .ref z12, .ref z13, .ref z14, .ref z15, .ref z16, .ref z17, .ref z18, .ref z19, .int 0, .int 0, .ref z22, .ref z23, .ref z24, .ref z25, .ref z26, .ref z27, .ref z28, .ref z29, .ref z30, .ref z31, .ref z32, .ref z33, .int 0, .long 0, .ref z36, .ref z37, .ref z38, .ref z39, .ref z40, .ref z41, .ref z42, .ref z43, .ref z44, .ref z45, .ref z46, .ref z47, .ref z48, .int 0, .int 10, .int 0, .int 0, .int 0, .int 0, .ref z55, .ref z56, .int 0, .int 0, .ref z59, .ref z60, .ref z61, .int 0, .long 0])), (z10, .inl (γ.2.1 0, 10, .inl fa)), (z43, .inl (γ.2.1 0, 133, .inl fs)), (z44, .inl (γ.2.1 0, 133, .inl fd)), (z36, .inl (γ.2.1 0, 6, .inl (fun _ => 0)))] (fun r w1 => r = some (.int (-1)) ∧ w1 = [(z, .inr (11, [.int 0, .int 0, .ref z2, .int 0, .int 0, .int 0, .int 0, .long 0, .int 0, .int 0, .ref z10, .ref z11, .ref z12, .ref z13, .ref z14, .ref z15, .ref z16, .ref z17, .ref z18, .ref z19, .int 0, .int 0, .ref z22, .ref z23, .ref z24, .ref z25, .ref z26, .ref z27, .ref z28, .ref z29, .ref z30, .ref z31, .ref z32, .ref z33, .int 0, .long 0, .ref z36, .ref z37, .ref z38, .ref z39, .ref z40, .ref z41, .ref z42, .ref z43, .ref z44, .ref z45, .ref z46, .ref z47, .ref z48, .int 0, .int 10, .int (-1), .int (-1), .int 0, .int 0, .ref z55, .ref z56, .int 0, .int 0, .ref z59, .ref z60, .ref z61, .int 0, .long 0]))]) := by
  refine k_ofW (by decide) (Nat.le_of_ble_eq_true rfl) ?_
  intro p e s m below meth c A ls hC hr hlocks hname hw hl
  have hx := hC.1
  have hb := hC.2.1
  have hl : lv_has ls 2 [(0, .ref z), (1, .int 1)] := hl
  refine lv_aload_n hx hb dX12_judged_0 rfl (lv_at hl 0 rfl) ?_
  refine lv_iload_n hx hb dX12_judged_1 rfl (lv_at hl 1 rfl) ?_
  refine lv_iconst (v := 0) hx hb dX12_judged_2 (by decide) ?_
  refine lv_iconst (v := 2) hx hb dX12_judged_3 (by decide) ?_
  refine k_S (wr := [(z, .inr (11, [.int 0, .int 0, .ref z2, .int 0, .int 0, .int 0, .int 0, .long 0, .int 0, .int 0, .ref z10, .ref z11, .ref z12, .ref z13, .ref z14, .ref z15, .ref z16, .ref z17, .ref z18, .ref z19, .int 0, .int 0, .ref z22, .ref z23, .ref z24, .ref z25, .ref z26, .ref z27, .ref z28, .ref z29, .ref z30, .ref z31, .ref z32, .ref z33, .int 0, .long 0, .ref z36, .ref z37, .ref z38, .ref z39, .ref z40, .ref z41, .ref z42, .ref z43, .ref z44, .ref z45, .ref z46, .ref z47, .ref z48, .int 0, .int 10, .int 0, .int 0, .int 0, .int 0, .ref z55, .ref z56, .int 0, .int 0, .ref z59, .ref z60, .ref z61, .int 0, .long 0])), (z10, .inl (γ.2.1 0, 10, .inl fa)), (z43, .inl (γ.2.1 0, 133, .inl fs)), (z44, .inl (γ.2.1 0, 133, .inl fd)), (z36, .inl (γ.2.1 0, 6, .inl (fun _ => 0)))]) 3 gw_1472 gw_1473 gw_15 gw_1474 hd_X12_within hC hw (c_within_t γ l 1 0 2 (by decide) (by decide)) ⟨by decide, by decide⟩ ⟨by decide, by decide⟩ hl.1 rfl rfl (Nat.le_of_ble_eq_true rfl) [] [0, 1, 2, 3, 4] rfl rfl rfl rfl (by decide) dX12_judged_4 (fun r w1 H locs hq hw => ?_)
  obtain ⟨rfl, rfl⟩ := hq
  have hw : kW γ A [(z, .inr (11, [.int 0, .int 0, .ref z2, .int 0, .int 0, .int 0, .int 0, .long 0, .int 0, .int 0, .ref z10, .ref z11, .ref z12, .ref z13, .ref z14, .ref z15, .ref z16, .ref z17, .ref z18, .ref z19, .int 0, .int 0, .ref z22, .ref z23, .ref z24, .ref z25, .ref z26, .ref z27, .ref z28, .ref z29, .ref z30, .ref z31, .ref z32, .ref z33, .int 0, .long 0, .ref z36, .ref z37, .ref z38, .ref z39, .ref z40, .ref z41, .ref z42, .ref z43, .ref z44, .ref z45, .ref z46, .ref z47, .ref z48, .int 0, .int 10, .int 0, .int 0, .int 0, .int 0, .ref z55, .ref z56, .int 0, .int 0, .ref z59, .ref z60, .ref z61, .int 0, .long 0])), (z10, .inl (γ.2.1 0, 10, .inl fa)), (z43, .inl (γ.2.1 0, 133, .inl fs)), (z44, .inl (γ.2.1 0, 133, .inl fd)), (z36, .inl (γ.2.1 0, 6, .inl (fun _ => 0)))] s H locs := hw
  refine W.eq (g2 := F0 m 7 ls [.int 1, .ref z]) rfl ?_
  refine lv_if_eq (tgt := 14) hx hb dX12_judged_7 (by decide) (fun h => absurd h (by decide)) (fun _ => ?_)
  refine lv_iconst (v := 0) hx hb dX12_judged_10 (by decide) ?_
  refine lv_goto (tgt := 15) hx hb dX12_judged_11 (by decide) ?_
  refine fs_RX12_143 hC hw 0 rfl rfl rfl (Nat.le_of_ble_eq_true rfl) dX12_judged_15 (fun H locs hw => ?_)
  have hw : kW γ A [(z, .inr (11, [.int 0, .int 0, .ref z2, .int 0, .int 0, .int 0, .int 0, .long 0, .int 0, .int 0, .ref z10, .ref z11, .ref z12, .ref z13, .ref z14, .ref z15, .ref z16, .ref z17, .ref z18, .ref z19, .int 0, .int 0, .ref z22, .ref z23, .ref z24, .ref z25, .ref z26, .ref z27, .ref z28, .ref z29, .ref z30, .ref z31, .ref z32, .ref z33, .int 0, .long 0, .ref z36, .ref z37, .ref z38, .ref z39, .ref z40, .ref z41, .ref z42, .ref z43, .ref z44, .ref z45, .ref z46, .ref z47, .ref z48, .int 0, .int 10, .int 0, .int 0, .int 0, .int 0, .ref z55, .ref z56, .int 0, .int 0, .ref z59, .ref z60, .ref z61, .int 0, .long 0])), (z10, .inl (γ.2.1 0, 10, .inl fa)), (z43, .inl (γ.2.1 0, 133, .inl fs)), (z44, .inl (γ.2.1 0, 133, .inl fd)), (z36, .inl (γ.2.1 0, 6, .inl (fun _ => 0)))] s H locs := hw
  refine lv_aload_n hx hb dX12_judged_18 rfl (lv_at hl 0 rfl) ?_
  refine fg_RX12_143 hC hw 0 rfl rfl dX12_judged_19 ?_
  refine lv_iconst (v := 1) hx hb dX12_judged_22 (by decide) ?_
  refine lv_icmp_ne (tgt := 28) hx hb dX12_judged_23 (by decide) (fun _ => ?_) (fun h => absurd h (by decide))
  refine lv_aload_n hx hb dX12_judged_28 rfl (lv_at hl 0 rfl) ?_
  refine lv_aload_n hx hb dX12_judged_29 rfl (lv_at hl 0 rfl) ?_
  refine fg_RX12_13 hC hw 0 rfl rfl dX12_judged_30 ?_
  refine lv_iconst (v := 2) hx hb dX12_judged_33 (by decide) ?_
  refine k_iald hC hw 1 rfl (k_in0 (by decide)) dX12_judged_34 ?_
  refine lv_topi (fun x_1399 ex_1399 => ?_)
  obtain rfl : x_1399 = 10 := (show x_1399 = fa 2 from ex_1399).trans ha2
  refine k_V (wr := []) 1 gw_1660 gw_1662 gp_98 gw_15 gw_1663 hd_X12_judges hC hw (c_X12_judges γ l z z2 z10 z11 z12 z13 z14 z15 z16 z17 z18 z19 z22 z23 z24 z25 z26 z27 z28 z29 z30 z31 z32 z33 z36 z37 z38 z39 z40 z41 z42 z43 z44 z45 z46 z47 z48 z55 z56 z59 z60 z61 fa 10 fs fd ha0 ha1 ha2 ha3 ha4) ⟨by decide, by decide⟩ ⟨by decide, by decide⟩ hl.1 rfl 0 rfl rfl rfl (Nat.le_of_ble_eq_true rfl) [0, 1, 2, 3, 4] [] rfl rfl rfl rfl (by decide) dX12_judged_35 (fun r w1 H locs hq hw => ?_)
  obtain ⟨rfl, rfl⟩ := hq
  have hw : kW γ A [(z, .inr (11, [.int 0, .int 0, .ref z2, .int 0, .int 0, .int 0, .int 0, .long 0, .int 0, .int 0, .ref z10, .ref z11, .ref z12, .ref z13, .ref z14, .ref z15, .ref z16, .ref z17, .ref z18, .ref z19, .int 0, .int 0, .ref z22, .ref z23, .ref z24, .ref z25, .ref z26, .ref z27, .ref z28, .ref z29, .ref z30, .ref z31, .ref z32, .ref z33, .int 0, .long 0, .ref z36, .ref z37, .ref z38, .ref z39, .ref z40, .ref z41, .ref z42, .ref z43, .ref z44, .ref z45, .ref z46, .ref z47, .ref z48, .int 0, .int 10, .int (-1), .int (-1), .int 0, .int 0, .ref z55, .ref z56, .int 0, .int 0, .ref z59, .ref z60, .ref z61, .int 0, .long 0]))] s H locs := hw
  refine W.eq (g2 := F0 m 38 ls []) rfl ?_
  refine lv_iload_n hx hb dX12_judged_38 rfl (lv_at hl 1 rfl) ?_
  refine lv_if_ne (tgt := 49) hx hb dX12_judged_39 (by decide) (fun _ => ?_) (fun h => absurd h (by decide))
  refine lv_iload_n hx hb dX12_judged_49 rfl (lv_at hl 1 rfl) ?_
  refine lv_iconst (v := 1) hx hb dX12_judged_50 (by decide) ?_
  refine lv_icmp_ne (tgt := 61) hx hb dX12_judged_51 (by decide) (fun h => absurd rfl h) (fun _ => ?_)
  refine lv_aload_n hx hb dX12_judged_54 rfl (lv_at hl 0 rfl) ?_
  refine fg_RX12_415 hC hw 0 rfl rfl dX12_judged_55 ?_
  refine lv_goto (tgt := 65) hx hb dX12_judged_58 (by decide) ?_
  exact k_iret hC hr hlocks hw [0] rfl rfl ⟨rfl, rfl⟩ (by decide) (by decide) dX12_judged_65

set_option maxHeartbeats 4000000 in
set_option maxRecDepth 100000 in
theorem c_X12_judged_2 (γ : kΓ) (l : Launch) (z : Nat) (z2 : Nat) (z10 : Nat) (z11 : Nat) (z12 : Nat) (z13 : Nat) (z14 : Nat) (z15 : Nat) (z16 : Nat) (z17 : Nat) (z18 : Nat) (z19 : Nat) (z22 : Nat) (z23 : Nat) (z24 : Nat) (z25 : Nat) (z26 : Nat) (z27 : Nat) (z28 : Nat) (z29 : Nat) (z30 : Nat) (z31 : Nat) (z32 : Nat) (z33 : Nat) (z36 : Nat) (z37 : Nat) (z38 : Nat) (z39 : Nat) (z40 : Nat) (z41 : Nat) (z42 : Nat) (z43 : Nat) (z44 : Nat) (z45 : Nat) (z46 : Nat) (z47 : Nat) (z48 : Nat) (z55 : Nat) (z56 : Nat) (z59 : Nat) (z60 : Nat) (z61 : Nat) (fa : Nat → Int32) (fs : Nat → Int32) (fd : Nat → Int32) (ha0 : fa 0 = 0) (ha1 : fa 1 = 0) (ha2 : fa 2 = 10) (ha3 : fa 3 = 10) (ha4 : fa 4 = 3) : kM γ l yX12_judged cX12_judged 2 ((some .int)) ({ frames := 2, cells := 0, slots := 0, locals := 46 } : Room) [.ref z, .int 2] [(z, .inr (11, [.int 0, .int 0, .ref z2, .int 0, .int 0, .int 0, .int 0, .long 0, .int 0, .int 0, .ref z10, .ref z11, .ref z12, .ref z13, .ref z14, .ref z15, .ref z16, .ref z17, .ref z18, .ref z19, .int 0, .int 0, .ref z22, .ref z23, .ref z24, .ref z25, .ref z26, .ref z27, .ref z28, .ref z29, .ref z30, .ref z31, .ref z32, .ref z33, .int 0, .long 0, .ref z36, .ref z37, .ref z38, .ref z39, .ref z40, .ref z41, .ref z42, .ref z43, .ref z44, .ref z45, .ref z46, .ref z47, .ref z48, .int 0, .int 10, .int 0, .int 0, .int 0, .int 0, .ref z55, .ref z56, .int 0, .int 0, .ref z59, .ref z60, .ref z61, .int 0, .long 0])), (z10, .inl (γ.2.1 0, 10, .inl fa)), (z43, .inl (γ.2.1 0, 133, .inl fs)), (z44, .inl (γ.2.1 0, 133, .inl fd)), (z36, .inl (γ.2.1 0, 6, .inl (fun _ => 0)))] (fun r w1 => r = some (.int 0) ∧ w1 = [(z, .inr (11, [.int 0, .int 0, .ref z2, .int 0, .int 0, .int 0, .int 0, .long 0, .int 0, .int 0, .ref z10, .ref z11, .ref z12, .ref z13, .ref z14, .ref z15, .ref z16, .ref z17, .ref z18, .ref z19, .int 0, .int 0, .ref z22, .ref z23, .ref z24, .ref z25, .ref z26, .ref z27, .ref z28, .ref z29, .ref z30, .ref z31, .ref z32, .ref z33, .int 0, .long 0, .ref z36, .ref z37, .ref z38, .ref z39, .ref z40, .ref z41, .ref z42, .ref z43, .ref z44, .ref z45, .ref z46, .ref z47, .ref z48, .int 0, .int 10, .int (-1), .int (-1), .int 0, .int 0, .ref z55, .ref z56, .int 0, .int 0, .ref z59, .ref z60, .ref z61, .int 0, .long 0]))]) := by
  refine k_ofW (by decide) (Nat.le_of_ble_eq_true rfl) ?_
  intro p e s m below meth c A ls hC hr hlocks hname hw hl
  have hx := hC.1
  have hb := hC.2.1
  have hl : lv_has ls 2 [(0, .ref z), (1, .int 2)] := hl
  refine lv_aload_n hx hb dX12_judged_0 rfl (lv_at hl 0 rfl) ?_
  refine lv_iload_n hx hb dX12_judged_1 rfl (lv_at hl 1 rfl) ?_
  refine lv_iconst (v := 0) hx hb dX12_judged_2 (by decide) ?_
  refine lv_iconst (v := 2) hx hb dX12_judged_3 (by decide) ?_
  refine k_S (wr := [(z, .inr (11, [.int 0, .int 0, .ref z2, .int 0, .int 0, .int 0, .int 0, .long 0, .int 0, .int 0, .ref z10, .ref z11, .ref z12, .ref z13, .ref z14, .ref z15, .ref z16, .ref z17, .ref z18, .ref z19, .int 0, .int 0, .ref z22, .ref z23, .ref z24, .ref z25, .ref z26, .ref z27, .ref z28, .ref z29, .ref z30, .ref z31, .ref z32, .ref z33, .int 0, .long 0, .ref z36, .ref z37, .ref z38, .ref z39, .ref z40, .ref z41, .ref z42, .ref z43, .ref z44, .ref z45, .ref z46, .ref z47, .ref z48, .int 0, .int 10, .int 0, .int 0, .int 0, .int 0, .ref z55, .ref z56, .int 0, .int 0, .ref z59, .ref z60, .ref z61, .int 0, .long 0])), (z10, .inl (γ.2.1 0, 10, .inl fa)), (z43, .inl (γ.2.1 0, 133, .inl fs)), (z44, .inl (γ.2.1 0, 133, .inl fd)), (z36, .inl (γ.2.1 0, 6, .inl (fun _ => 0)))]) 3 gw_1472 gw_1473 gw_15 gw_1474 hd_X12_within hC hw (c_within_t γ l 2 0 2 (by decide) (by decide)) ⟨by decide, by decide⟩ ⟨by decide, by decide⟩ hl.1 rfl rfl (Nat.le_of_ble_eq_true rfl) [] [0, 1, 2, 3, 4] rfl rfl rfl rfl (by decide) dX12_judged_4 (fun r w1 H locs hq hw => ?_)
  obtain ⟨rfl, rfl⟩ := hq
  have hw : kW γ A [(z, .inr (11, [.int 0, .int 0, .ref z2, .int 0, .int 0, .int 0, .int 0, .long 0, .int 0, .int 0, .ref z10, .ref z11, .ref z12, .ref z13, .ref z14, .ref z15, .ref z16, .ref z17, .ref z18, .ref z19, .int 0, .int 0, .ref z22, .ref z23, .ref z24, .ref z25, .ref z26, .ref z27, .ref z28, .ref z29, .ref z30, .ref z31, .ref z32, .ref z33, .int 0, .long 0, .ref z36, .ref z37, .ref z38, .ref z39, .ref z40, .ref z41, .ref z42, .ref z43, .ref z44, .ref z45, .ref z46, .ref z47, .ref z48, .int 0, .int 10, .int 0, .int 0, .int 0, .int 0, .ref z55, .ref z56, .int 0, .int 0, .ref z59, .ref z60, .ref z61, .int 0, .long 0])), (z10, .inl (γ.2.1 0, 10, .inl fa)), (z43, .inl (γ.2.1 0, 133, .inl fs)), (z44, .inl (γ.2.1 0, 133, .inl fd)), (z36, .inl (γ.2.1 0, 6, .inl (fun _ => 0)))] s H locs := hw
  refine W.eq (g2 := F0 m 7 ls [.int 1, .ref z]) rfl ?_
  refine lv_if_eq (tgt := 14) hx hb dX12_judged_7 (by decide) (fun h => absurd h (by decide)) (fun _ => ?_)
  refine lv_iconst (v := 0) hx hb dX12_judged_10 (by decide) ?_
  refine lv_goto (tgt := 15) hx hb dX12_judged_11 (by decide) ?_
  refine fs_RX12_143 hC hw 0 rfl rfl rfl (Nat.le_of_ble_eq_true rfl) dX12_judged_15 (fun H locs hw => ?_)
  have hw : kW γ A [(z, .inr (11, [.int 0, .int 0, .ref z2, .int 0, .int 0, .int 0, .int 0, .long 0, .int 0, .int 0, .ref z10, .ref z11, .ref z12, .ref z13, .ref z14, .ref z15, .ref z16, .ref z17, .ref z18, .ref z19, .int 0, .int 0, .ref z22, .ref z23, .ref z24, .ref z25, .ref z26, .ref z27, .ref z28, .ref z29, .ref z30, .ref z31, .ref z32, .ref z33, .int 0, .long 0, .ref z36, .ref z37, .ref z38, .ref z39, .ref z40, .ref z41, .ref z42, .ref z43, .ref z44, .ref z45, .ref z46, .ref z47, .ref z48, .int 0, .int 10, .int 0, .int 0, .int 0, .int 0, .ref z55, .ref z56, .int 0, .int 0, .ref z59, .ref z60, .ref z61, .int 0, .long 0])), (z10, .inl (γ.2.1 0, 10, .inl fa)), (z43, .inl (γ.2.1 0, 133, .inl fs)), (z44, .inl (γ.2.1 0, 133, .inl fd)), (z36, .inl (γ.2.1 0, 6, .inl (fun _ => 0)))] s H locs := hw
  refine lv_aload_n hx hb dX12_judged_18 rfl (lv_at hl 0 rfl) ?_
  refine fg_RX12_143 hC hw 0 rfl rfl dX12_judged_19 ?_
  refine lv_iconst (v := 1) hx hb dX12_judged_22 (by decide) ?_
  refine lv_icmp_ne (tgt := 28) hx hb dX12_judged_23 (by decide) (fun _ => ?_) (fun h => absurd h (by decide))
  refine lv_aload_n hx hb dX12_judged_28 rfl (lv_at hl 0 rfl) ?_
  refine lv_aload_n hx hb dX12_judged_29 rfl (lv_at hl 0 rfl) ?_
  refine fg_RX12_13 hC hw 0 rfl rfl dX12_judged_30 ?_
  refine lv_iconst (v := 2) hx hb dX12_judged_33 (by decide) ?_
  refine k_iald hC hw 1 rfl (k_in0 (by decide)) dX12_judged_34 ?_
  refine lv_topi (fun x_1400 ex_1400 => ?_)
  obtain rfl : x_1400 = 10 := (show x_1400 = fa 2 from ex_1400).trans ha2
  refine k_V (wr := []) 1 gw_1660 gw_1662 gp_98 gw_15 gw_1663 hd_X12_judges hC hw (c_X12_judges γ l z z2 z10 z11 z12 z13 z14 z15 z16 z17 z18 z19 z22 z23 z24 z25 z26 z27 z28 z29 z30 z31 z32 z33 z36 z37 z38 z39 z40 z41 z42 z43 z44 z45 z46 z47 z48 z55 z56 z59 z60 z61 fa 10 fs fd ha0 ha1 ha2 ha3 ha4) ⟨by decide, by decide⟩ ⟨by decide, by decide⟩ hl.1 rfl 0 rfl rfl rfl (Nat.le_of_ble_eq_true rfl) [0, 1, 2, 3, 4] [] rfl rfl rfl rfl (by decide) dX12_judged_35 (fun r w1 H locs hq hw => ?_)
  obtain ⟨rfl, rfl⟩ := hq
  have hw : kW γ A [(z, .inr (11, [.int 0, .int 0, .ref z2, .int 0, .int 0, .int 0, .int 0, .long 0, .int 0, .int 0, .ref z10, .ref z11, .ref z12, .ref z13, .ref z14, .ref z15, .ref z16, .ref z17, .ref z18, .ref z19, .int 0, .int 0, .ref z22, .ref z23, .ref z24, .ref z25, .ref z26, .ref z27, .ref z28, .ref z29, .ref z30, .ref z31, .ref z32, .ref z33, .int 0, .long 0, .ref z36, .ref z37, .ref z38, .ref z39, .ref z40, .ref z41, .ref z42, .ref z43, .ref z44, .ref z45, .ref z46, .ref z47, .ref z48, .int 0, .int 10, .int (-1), .int (-1), .int 0, .int 0, .ref z55, .ref z56, .int 0, .int 0, .ref z59, .ref z60, .ref z61, .int 0, .long 0]))] s H locs := hw
  refine W.eq (g2 := F0 m 38 ls []) rfl ?_
  refine lv_iload_n hx hb dX12_judged_38 rfl (lv_at hl 1 rfl) ?_
  refine lv_if_ne (tgt := 49) hx hb dX12_judged_39 (by decide) (fun _ => ?_) (fun h => absurd h (by decide))
  refine lv_iload_n hx hb dX12_judged_49 rfl (lv_at hl 1 rfl) ?_
  refine lv_iconst (v := 1) hx hb dX12_judged_50 (by decide) ?_
  refine lv_icmp_ne (tgt := 61) hx hb dX12_judged_51 (by decide) (fun _ => ?_) (fun h => absurd h (by decide))
  refine lv_aload_n hx hb dX12_judged_61 rfl (lv_at hl 0 rfl) ?_
  refine fg_RX12_427 hC hw 0 rfl rfl dX12_judged_62 ?_
  exact k_iret hC hr hlocks hw [0] rfl rfl ⟨rfl, rfl⟩ (by decide) (by decide) dX12_judged_65

set_option maxHeartbeats 4000000 in
set_option maxRecDepth 100000 in
theorem c_X12_judged_l (γ : kΓ) (l : Launch) (z : Nat) (z2 : Nat) (z10 : Nat) (z11 : Nat) (z12 : Nat) (z13 : Nat) (z14 : Nat) (z15 : Nat) (z16 : Nat) (z17 : Nat) (z18 : Nat) (z19 : Nat) (z22 : Nat) (z23 : Nat) (z24 : Nat) (z25 : Nat) (z26 : Nat) (z27 : Nat) (z28 : Nat) (z29 : Nat) (z30 : Nat) (z31 : Nat) (z32 : Nat) (z33 : Nat) (z36 : Nat) (z37 : Nat) (z38 : Nat) (z39 : Nat) (z40 : Nat) (z41 : Nat) (z42 : Nat) (z43 : Nat) (z44 : Nat) (z45 : Nat) (z46 : Nat) (z47 : Nat) (z48 : Nat) (z55 : Nat) (z56 : Nat) (z59 : Nat) (z60 : Nat) (z61 : Nat) (t : Int32) (h1 : t < 0) : kM γ l yX12_judged cX12_judged 2 ((some .int)) ({ frames := 1, cells := 0, slots := 0, locals := 22 } : Room) [.ref z, .int t] [(z, .inr (11, [.int 0, .int 0, .ref z2, .int 0, .int 0, .int 0, .int 0, .long 0, .int 0, .int 0, .ref z10, .ref z11, .ref z12, .ref z13, .ref z14, .ref z15, .ref z16, .ref z17, .ref z18, .ref z19, .int 0, .int 0, .ref z22, .ref z23, .ref z24, .ref z25, .ref z26, .ref z27, .ref z28, .ref z29, .ref z30, .ref z31, .ref z32, .ref z33, .int 0, .long 0, .ref z36, .ref z37, .ref z38, .ref z39, .ref z40, .ref z41, .ref z42, .ref z43, .ref z44, .ref z45, .ref z46, .ref z47, .ref z48, .int 0, .int 10, .int 0, .int 0, .int 0, .int 0, .ref z55, .ref z56, .int 0, .int 0, .ref z59, .ref z60, .ref z61, .int 0, .long 0]))] (fun r w1 => r = some (.int 0) ∧ w1 = [(z, .inr (11, [.int 1, .int 0, .ref z2, .int 0, .int 0, .int 0, .int 0, .long 0, .int 0, .int 0, .ref z10, .ref z11, .ref z12, .ref z13, .ref z14, .ref z15, .ref z16, .ref z17, .ref z18, .ref z19, .int 0, .int 0, .ref z22, .ref z23, .ref z24, .ref z25, .ref z26, .ref z27, .ref z28, .ref z29, .ref z30, .ref z31, .ref z32, .ref z33, .int 0, .long 0, .ref z36, .ref z37, .ref z38, .ref z39, .ref z40, .ref z41, .ref z42, .ref z43, .ref z44, .ref z45, .ref z46, .ref z47, .ref z48, .int 0, .int 10, .int 0, .int 0, .int 0, .int 0, .ref z55, .ref z56, .int 0, .int 0, .ref z59, .ref z60, .ref z61, .int 0, .long 0]))]) := by
  refine k_ofW (by decide) (Nat.le_of_ble_eq_true rfl) ?_
  intro p e s m below meth c A ls hC hr hlocks hname hw hl
  have hx := hC.1
  have hb := hC.2.1
  have hl : lv_has ls 2 [(0, .ref z), (1, .int t)] := hl
  refine lv_aload_n hx hb dX12_judged_0 rfl (lv_at hl 0 rfl) ?_
  refine lv_iload_n hx hb dX12_judged_1 rfl (lv_at hl 1 rfl) ?_
  refine lv_iconst (v := 0) hx hb dX12_judged_2 (by decide) ?_
  refine lv_iconst (v := 2) hx hb dX12_judged_3 (by decide) ?_
  refine k_S (wr := [(z, .inr (11, [.int 0, .int 0, .ref z2, .int 0, .int 0, .int 0, .int 0, .long 0, .int 0, .int 0, .ref z10, .ref z11, .ref z12, .ref z13, .ref z14, .ref z15, .ref z16, .ref z17, .ref z18, .ref z19, .int 0, .int 0, .ref z22, .ref z23, .ref z24, .ref z25, .ref z26, .ref z27, .ref z28, .ref z29, .ref z30, .ref z31, .ref z32, .ref z33, .int 0, .long 0, .ref z36, .ref z37, .ref z38, .ref z39, .ref z40, .ref z41, .ref z42, .ref z43, .ref z44, .ref z45, .ref z46, .ref z47, .ref z48, .int 0, .int 10, .int 0, .int 0, .int 0, .int 0, .ref z55, .ref z56, .int 0, .int 0, .ref z59, .ref z60, .ref z61, .int 0, .long 0]))]) 3 gw_1472 gw_1473 gw_15 gw_1474 hd_X12_within hC hw (c_within_l γ l t 0 2 h1) ⟨by decide, by decide⟩ ⟨by decide, by decide⟩ hl.1 rfl rfl (Nat.le_of_ble_eq_true rfl) [] [0] rfl rfl rfl rfl (by decide) dX12_judged_4 (fun r w1 H locs hq hw => ?_)
  obtain ⟨rfl, rfl⟩ := hq
  have hw : kW γ A [(z, .inr (11, [.int 0, .int 0, .ref z2, .int 0, .int 0, .int 0, .int 0, .long 0, .int 0, .int 0, .ref z10, .ref z11, .ref z12, .ref z13, .ref z14, .ref z15, .ref z16, .ref z17, .ref z18, .ref z19, .int 0, .int 0, .ref z22, .ref z23, .ref z24, .ref z25, .ref z26, .ref z27, .ref z28, .ref z29, .ref z30, .ref z31, .ref z32, .ref z33, .int 0, .long 0, .ref z36, .ref z37, .ref z38, .ref z39, .ref z40, .ref z41, .ref z42, .ref z43, .ref z44, .ref z45, .ref z46, .ref z47, .ref z48, .int 0, .int 10, .int 0, .int 0, .int 0, .int 0, .ref z55, .ref z56, .int 0, .int 0, .ref z59, .ref z60, .ref z61, .int 0, .long 0]))] s H locs := hw
  refine W.eq (g2 := F0 m 7 ls [.int 0, .ref z]) rfl ?_
  refine lv_if_eq (tgt := 14) hx hb dX12_judged_7 (by decide) (fun _ => ?_) (fun h => absurd (by decide) h)
  refine lv_iconst (v := 1) hx hb dX12_judged_14 (by decide) ?_
  refine fs_RX12_143 hC hw 0 rfl rfl rfl (Nat.le_of_ble_eq_true rfl) dX12_judged_15 (fun H locs hw => ?_)
  have hw : kW γ A [(z, .inr (11, [.int 1, .int 0, .ref z2, .int 0, .int 0, .int 0, .int 0, .long 0, .int 0, .int 0, .ref z10, .ref z11, .ref z12, .ref z13, .ref z14, .ref z15, .ref z16, .ref z17, .ref z18, .ref z19, .int 0, .int 0, .ref z22, .ref z23, .ref z24, .ref z25, .ref z26, .ref z27, .ref z28, .ref z29, .ref z30, .ref z31, .ref z32, .ref z33, .int 0, .long 0, .ref z36, .ref z37, .ref z38, .ref z39, .ref z40, .ref z41, .ref z42, .ref z43, .ref z44, .ref z45, .ref z46, .ref z47, .ref z48, .int 0, .int 10, .int 0, .int 0, .int 0, .int 0, .ref z55, .ref z56, .int 0, .int 0, .ref z59, .ref z60, .ref z61, .int 0, .long 0]))] s H locs := hw
  refine lv_aload_n hx hb dX12_judged_18 rfl (lv_at hl 0 rfl) ?_
  refine fg_RX12_143 hC hw 0 rfl rfl dX12_judged_19 ?_
  refine lv_iconst (v := 1) hx hb dX12_judged_22 (by decide) ?_
  refine lv_icmp_ne (tgt := 28) hx hb dX12_judged_23 (by decide) (fun h => absurd rfl h) (fun _ => ?_)
  refine lv_iconst (v := 0) hx hb dX12_judged_26 (by decide) ?_
  exact k_iret hC hr hlocks hw [0] rfl rfl ⟨rfl, rfl⟩ (by decide) (by decide) dX12_judged_27

set_option maxHeartbeats 4000000 in
set_option maxRecDepth 100000 in
theorem c_X12_judged_h (γ : kΓ) (l : Launch) (z : Nat) (z2 : Nat) (z10 : Nat) (z11 : Nat) (z12 : Nat) (z13 : Nat) (z14 : Nat) (z15 : Nat) (z16 : Nat) (z17 : Nat) (z18 : Nat) (z19 : Nat) (z22 : Nat) (z23 : Nat) (z24 : Nat) (z25 : Nat) (z26 : Nat) (z27 : Nat) (z28 : Nat) (z29 : Nat) (z30 : Nat) (z31 : Nat) (z32 : Nat) (z33 : Nat) (z36 : Nat) (z37 : Nat) (z38 : Nat) (z39 : Nat) (z40 : Nat) (z41 : Nat) (z42 : Nat) (z43 : Nat) (z44 : Nat) (z45 : Nat) (z46 : Nat) (z47 : Nat) (z48 : Nat) (z55 : Nat) (z56 : Nat) (z59 : Nat) (z60 : Nat) (z61 : Nat) (t : Int32) (h1 : ¬ t < 0) (h2 : 2 < t) : kM γ l yX12_judged cX12_judged 2 ((some .int)) ({ frames := 1, cells := 0, slots := 0, locals := 22 } : Room) [.ref z, .int t] [(z, .inr (11, [.int 0, .int 0, .ref z2, .int 0, .int 0, .int 0, .int 0, .long 0, .int 0, .int 0, .ref z10, .ref z11, .ref z12, .ref z13, .ref z14, .ref z15, .ref z16, .ref z17, .ref z18, .ref z19, .int 0, .int 0, .ref z22, .ref z23, .ref z24, .ref z25, .ref z26, .ref z27, .ref z28, .ref z29, .ref z30, .ref z31, .ref z32, .ref z33, .int 0, .long 0, .ref z36, .ref z37, .ref z38, .ref z39, .ref z40, .ref z41, .ref z42, .ref z43, .ref z44, .ref z45, .ref z46, .ref z47, .ref z48, .int 0, .int 10, .int 0, .int 0, .int 0, .int 0, .ref z55, .ref z56, .int 0, .int 0, .ref z59, .ref z60, .ref z61, .int 0, .long 0]))] (fun r w1 => r = some (.int 0) ∧ w1 = [(z, .inr (11, [.int 1, .int 0, .ref z2, .int 0, .int 0, .int 0, .int 0, .long 0, .int 0, .int 0, .ref z10, .ref z11, .ref z12, .ref z13, .ref z14, .ref z15, .ref z16, .ref z17, .ref z18, .ref z19, .int 0, .int 0, .ref z22, .ref z23, .ref z24, .ref z25, .ref z26, .ref z27, .ref z28, .ref z29, .ref z30, .ref z31, .ref z32, .ref z33, .int 0, .long 0, .ref z36, .ref z37, .ref z38, .ref z39, .ref z40, .ref z41, .ref z42, .ref z43, .ref z44, .ref z45, .ref z46, .ref z47, .ref z48, .int 0, .int 10, .int 0, .int 0, .int 0, .int 0, .ref z55, .ref z56, .int 0, .int 0, .ref z59, .ref z60, .ref z61, .int 0, .long 0]))]) := by
  refine k_ofW (by decide) (Nat.le_of_ble_eq_true rfl) ?_
  intro p e s m below meth c A ls hC hr hlocks hname hw hl
  have hx := hC.1
  have hb := hC.2.1
  have hl : lv_has ls 2 [(0, .ref z), (1, .int t)] := hl
  refine lv_aload_n hx hb dX12_judged_0 rfl (lv_at hl 0 rfl) ?_
  refine lv_iload_n hx hb dX12_judged_1 rfl (lv_at hl 1 rfl) ?_
  refine lv_iconst (v := 0) hx hb dX12_judged_2 (by decide) ?_
  refine lv_iconst (v := 2) hx hb dX12_judged_3 (by decide) ?_
  refine k_S (wr := [(z, .inr (11, [.int 0, .int 0, .ref z2, .int 0, .int 0, .int 0, .int 0, .long 0, .int 0, .int 0, .ref z10, .ref z11, .ref z12, .ref z13, .ref z14, .ref z15, .ref z16, .ref z17, .ref z18, .ref z19, .int 0, .int 0, .ref z22, .ref z23, .ref z24, .ref z25, .ref z26, .ref z27, .ref z28, .ref z29, .ref z30, .ref z31, .ref z32, .ref z33, .int 0, .long 0, .ref z36, .ref z37, .ref z38, .ref z39, .ref z40, .ref z41, .ref z42, .ref z43, .ref z44, .ref z45, .ref z46, .ref z47, .ref z48, .int 0, .int 10, .int 0, .int 0, .int 0, .int 0, .ref z55, .ref z56, .int 0, .int 0, .ref z59, .ref z60, .ref z61, .int 0, .long 0]))]) 3 gw_1472 gw_1473 gw_15 gw_1474 hd_X12_within hC hw (c_within_h γ l t 0 2 h1 h2) ⟨by decide, by decide⟩ ⟨by decide, by decide⟩ hl.1 rfl rfl (Nat.le_of_ble_eq_true rfl) [] [0] rfl rfl rfl rfl (by decide) dX12_judged_4 (fun r w1 H locs hq hw => ?_)
  obtain ⟨rfl, rfl⟩ := hq
  have hw : kW γ A [(z, .inr (11, [.int 0, .int 0, .ref z2, .int 0, .int 0, .int 0, .int 0, .long 0, .int 0, .int 0, .ref z10, .ref z11, .ref z12, .ref z13, .ref z14, .ref z15, .ref z16, .ref z17, .ref z18, .ref z19, .int 0, .int 0, .ref z22, .ref z23, .ref z24, .ref z25, .ref z26, .ref z27, .ref z28, .ref z29, .ref z30, .ref z31, .ref z32, .ref z33, .int 0, .long 0, .ref z36, .ref z37, .ref z38, .ref z39, .ref z40, .ref z41, .ref z42, .ref z43, .ref z44, .ref z45, .ref z46, .ref z47, .ref z48, .int 0, .int 10, .int 0, .int 0, .int 0, .int 0, .ref z55, .ref z56, .int 0, .int 0, .ref z59, .ref z60, .ref z61, .int 0, .long 0]))] s H locs := hw
  refine W.eq (g2 := F0 m 7 ls [.int 0, .ref z]) rfl ?_
  refine lv_if_eq (tgt := 14) hx hb dX12_judged_7 (by decide) (fun _ => ?_) (fun h => absurd (by decide) h)
  refine lv_iconst (v := 1) hx hb dX12_judged_14 (by decide) ?_
  refine fs_RX12_143 hC hw 0 rfl rfl rfl (Nat.le_of_ble_eq_true rfl) dX12_judged_15 (fun H locs hw => ?_)
  have hw : kW γ A [(z, .inr (11, [.int 1, .int 0, .ref z2, .int 0, .int 0, .int 0, .int 0, .long 0, .int 0, .int 0, .ref z10, .ref z11, .ref z12, .ref z13, .ref z14, .ref z15, .ref z16, .ref z17, .ref z18, .ref z19, .int 0, .int 0, .ref z22, .ref z23, .ref z24, .ref z25, .ref z26, .ref z27, .ref z28, .ref z29, .ref z30, .ref z31, .ref z32, .ref z33, .int 0, .long 0, .ref z36, .ref z37, .ref z38, .ref z39, .ref z40, .ref z41, .ref z42, .ref z43, .ref z44, .ref z45, .ref z46, .ref z47, .ref z48, .int 0, .int 10, .int 0, .int 0, .int 0, .int 0, .ref z55, .ref z56, .int 0, .int 0, .ref z59, .ref z60, .ref z61, .int 0, .long 0]))] s H locs := hw
  refine lv_aload_n hx hb dX12_judged_18 rfl (lv_at hl 0 rfl) ?_
  refine fg_RX12_143 hC hw 0 rfl rfl dX12_judged_19 ?_
  refine lv_iconst (v := 1) hx hb dX12_judged_22 (by decide) ?_
  refine lv_icmp_ne (tgt := 28) hx hb dX12_judged_23 (by decide) (fun h => absurd rfl h) (fun _ => ?_)
  refine lv_iconst (v := 0) hx hb dX12_judged_26 (by decide) ?_
  exact k_iret hC hr hlocks hw [0] rfl rfl ⟨rfl, rfl⟩ (by decide) (by decide) dX12_judged_27

set_option maxHeartbeats 4000000 in
set_option maxRecDepth 100000 in
theorem c_X12_other_l (γ : kΓ) (l : Launch) (z : Nat) (z2 : Nat) (z10 : Nat) (z11 : Nat) (z12 : Nat) (z13 : Nat) (z14 : Nat) (z15 : Nat) (z16 : Nat) (z17 : Nat) (z18 : Nat) (z19 : Nat) (z22 : Nat) (z23 : Nat) (z24 : Nat) (z25 : Nat) (z26 : Nat) (z27 : Nat) (z28 : Nat) (z29 : Nat) (z30 : Nat) (z31 : Nat) (z32 : Nat) (z33 : Nat) (z36 : Nat) (z37 : Nat) (z38 : Nat) (z39 : Nat) (z40 : Nat) (z41 : Nat) (z42 : Nat) (z43 : Nat) (z44 : Nat) (z45 : Nat) (z46 : Nat) (z47 : Nat) (z48 : Nat) (z55 : Nat) (z56 : Nat) (z59 : Nat) (z60 : Nat) (z61 : Nat) (t : Int32) (h1 : t < 2) : kM γ l yX12_other cX12_other 2 ((some .int)) ({ frames := 1, cells := 0, slots := 0, locals := 22 } : Room) [.ref z, .int t] [(z, .inr (11, [.int 0, .int 0, .ref z2, .int 0, .int 0, .int 0, .int 0, .long 0, .int 0, .int 0, .ref z10, .ref z11, .ref z12, .ref z13, .ref z14, .ref z15, .ref z16, .ref z17, .ref z18, .ref z19, .int 0, .int 0, .ref z22, .ref z23, .ref z24, .ref z25, .ref z26, .ref z27, .ref z28, .ref z29, .ref z30, .ref z31, .ref z32, .ref z33, .int 0, .long 0, .ref z36, .ref z37, .ref z38, .ref z39, .ref z40, .ref z41, .ref z42, .ref z43, .ref z44, .ref z45, .ref z46, .ref z47, .ref z48, .int 0, .int 10, .int 0, .int 0, .int 0, .int 0, .ref z55, .ref z56, .int 0, .int 0, .ref z59, .ref z60, .ref z61, .int 0, .long 0]))] (fun r w1 => r = some (.int (-1)) ∧ w1 = []) := by
  refine k_ofW (by decide) (Nat.le_of_ble_eq_true rfl) ?_
  intro p e s m below meth c A ls hC hr hlocks hname hw hl
  have hx := hC.1
  have hb := hC.2.1
  have hl : lv_has ls 2 [(0, .ref z), (1, .int t)] := hl
  refine lv_aload_n hx hb dX12_other_0 rfl (lv_at hl 0 rfl) ?_
  refine lv_iconst (v := 0) hx hb dX12_other_1 (by decide) ?_
  refine fs_RX12_143 hC hw 0 rfl rfl rfl (Nat.le_of_ble_eq_true rfl) dX12_other_2 (fun H locs hw => ?_)
  have hw : kW γ A [(z, .inr (11, [.int 0, .int 0, .ref z2, .int 0, .int 0, .int 0, .int 0, .long 0, .int 0, .int 0, .ref z10, .ref z11, .ref z12, .ref z13, .ref z14, .ref z15, .ref z16, .ref z17, .ref z18, .ref z19, .int 0, .int 0, .ref z22, .ref z23, .ref z24, .ref z25, .ref z26, .ref z27, .ref z28, .ref z29, .ref z30, .ref z31, .ref z32, .ref z33, .int 0, .long 0, .ref z36, .ref z37, .ref z38, .ref z39, .ref z40, .ref z41, .ref z42, .ref z43, .ref z44, .ref z45, .ref z46, .ref z47, .ref z48, .int 0, .int 10, .int 0, .int 0, .int 0, .int 0, .ref z55, .ref z56, .int 0, .int 0, .ref z59, .ref z60, .ref z61, .int 0, .long 0]))] s H locs := hw
  refine lv_iload_n hx hb dX12_other_5 rfl (lv_at hl 1 rfl) ?_
  refine lv_iconst (v := 2) hx hb dX12_other_6 (by decide) ?_
  refine lv_bipush (v := 12) hx hb dX12_other_7 (by decide) ?_
  refine k_S (wr := [(z, .inr (11, [.int 0, .int 0, .ref z2, .int 0, .int 0, .int 0, .int 0, .long 0, .int 0, .int 0, .ref z10, .ref z11, .ref z12, .ref z13, .ref z14, .ref z15, .ref z16, .ref z17, .ref z18, .ref z19, .int 0, .int 0, .ref z22, .ref z23, .ref z24, .ref z25, .ref z26, .ref z27, .ref z28, .ref z29, .ref z30, .ref z31, .ref z32, .ref z33, .int 0, .long 0, .ref z36, .ref z37, .ref z38, .ref z39, .ref z40, .ref z41, .ref z42, .ref z43, .ref z44, .ref z45, .ref z46, .ref z47, .ref z48, .int 0, .int 10, .int 0, .int 0, .int 0, .int 0, .ref z55, .ref z56, .int 0, .int 0, .ref z59, .ref z60, .ref z61, .int 0, .long 0]))]) 3 gw_1472 gw_1473 gw_15 gw_1474 hd_X12_within hC hw (c_within_l γ l t 2 12 h1) ⟨by decide, by decide⟩ ⟨by decide, by decide⟩ hl.1 rfl rfl (Nat.le_of_ble_eq_true rfl) [] [0] rfl rfl rfl rfl (by decide) dX12_other_9 (fun r w1 H locs hq hw => ?_)
  obtain ⟨rfl, rfl⟩ := hq
  have hw : kW γ A [(z, .inr (11, [.int 0, .int 0, .ref z2, .int 0, .int 0, .int 0, .int 0, .long 0, .int 0, .int 0, .ref z10, .ref z11, .ref z12, .ref z13, .ref z14, .ref z15, .ref z16, .ref z17, .ref z18, .ref z19, .int 0, .int 0, .ref z22, .ref z23, .ref z24, .ref z25, .ref z26, .ref z27, .ref z28, .ref z29, .ref z30, .ref z31, .ref z32, .ref z33, .int 0, .long 0, .ref z36, .ref z37, .ref z38, .ref z39, .ref z40, .ref z41, .ref z42, .ref z43, .ref z44, .ref z45, .ref z46, .ref z47, .ref z48, .int 0, .int 10, .int 0, .int 0, .int 0, .int 0, .ref z55, .ref z56, .int 0, .int 0, .ref z59, .ref z60, .ref z61, .int 0, .long 0]))] s H locs := hw
  refine W.eq (g2 := F0 m 12 ls [.int 0]) rfl ?_
  refine lv_if_ne (tgt := 17) hx hb dX12_other_12 (by decide) (fun h => absurd rfl h) (fun _ => ?_)
  refine lv_iconst (v := (-1)) hx hb dX12_other_15 (by decide) ?_
  exact k_iret hC hr hlocks hw [] rfl rfl ⟨rfl, rfl⟩ (by decide) (by decide) dX12_other_16

set_option maxHeartbeats 4000000 in
set_option maxRecDepth 100000 in
theorem c_X12_other_h (γ : kΓ) (l : Launch) (z : Nat) (z2 : Nat) (z10 : Nat) (z11 : Nat) (z12 : Nat) (z13 : Nat) (z14 : Nat) (z15 : Nat) (z16 : Nat) (z17 : Nat) (z18 : Nat) (z19 : Nat) (z22 : Nat) (z23 : Nat) (z24 : Nat) (z25 : Nat) (z26 : Nat) (z27 : Nat) (z28 : Nat) (z29 : Nat) (z30 : Nat) (z31 : Nat) (z32 : Nat) (z33 : Nat) (z36 : Nat) (z37 : Nat) (z38 : Nat) (z39 : Nat) (z40 : Nat) (z41 : Nat) (z42 : Nat) (z43 : Nat) (z44 : Nat) (z45 : Nat) (z46 : Nat) (z47 : Nat) (z48 : Nat) (z55 : Nat) (z56 : Nat) (z59 : Nat) (z60 : Nat) (z61 : Nat) (t : Int32) (h1 : ¬ t < 2) (h2 : 12 < t) : kM γ l yX12_other cX12_other 2 ((some .int)) ({ frames := 1, cells := 0, slots := 0, locals := 22 } : Room) [.ref z, .int t] [(z, .inr (11, [.int 0, .int 0, .ref z2, .int 0, .int 0, .int 0, .int 0, .long 0, .int 0, .int 0, .ref z10, .ref z11, .ref z12, .ref z13, .ref z14, .ref z15, .ref z16, .ref z17, .ref z18, .ref z19, .int 0, .int 0, .ref z22, .ref z23, .ref z24, .ref z25, .ref z26, .ref z27, .ref z28, .ref z29, .ref z30, .ref z31, .ref z32, .ref z33, .int 0, .long 0, .ref z36, .ref z37, .ref z38, .ref z39, .ref z40, .ref z41, .ref z42, .ref z43, .ref z44, .ref z45, .ref z46, .ref z47, .ref z48, .int 0, .int 10, .int 0, .int 0, .int 0, .int 0, .ref z55, .ref z56, .int 0, .int 0, .ref z59, .ref z60, .ref z61, .int 0, .long 0]))] (fun r w1 => r = some (.int (-1)) ∧ w1 = []) := by
  refine k_ofW (by decide) (Nat.le_of_ble_eq_true rfl) ?_
  intro p e s m below meth c A ls hC hr hlocks hname hw hl
  have hx := hC.1
  have hb := hC.2.1
  have hl : lv_has ls 2 [(0, .ref z), (1, .int t)] := hl
  refine lv_aload_n hx hb dX12_other_0 rfl (lv_at hl 0 rfl) ?_
  refine lv_iconst (v := 0) hx hb dX12_other_1 (by decide) ?_
  refine fs_RX12_143 hC hw 0 rfl rfl rfl (Nat.le_of_ble_eq_true rfl) dX12_other_2 (fun H locs hw => ?_)
  have hw : kW γ A [(z, .inr (11, [.int 0, .int 0, .ref z2, .int 0, .int 0, .int 0, .int 0, .long 0, .int 0, .int 0, .ref z10, .ref z11, .ref z12, .ref z13, .ref z14, .ref z15, .ref z16, .ref z17, .ref z18, .ref z19, .int 0, .int 0, .ref z22, .ref z23, .ref z24, .ref z25, .ref z26, .ref z27, .ref z28, .ref z29, .ref z30, .ref z31, .ref z32, .ref z33, .int 0, .long 0, .ref z36, .ref z37, .ref z38, .ref z39, .ref z40, .ref z41, .ref z42, .ref z43, .ref z44, .ref z45, .ref z46, .ref z47, .ref z48, .int 0, .int 10, .int 0, .int 0, .int 0, .int 0, .ref z55, .ref z56, .int 0, .int 0, .ref z59, .ref z60, .ref z61, .int 0, .long 0]))] s H locs := hw
  refine lv_iload_n hx hb dX12_other_5 rfl (lv_at hl 1 rfl) ?_
  refine lv_iconst (v := 2) hx hb dX12_other_6 (by decide) ?_
  refine lv_bipush (v := 12) hx hb dX12_other_7 (by decide) ?_
  refine k_S (wr := [(z, .inr (11, [.int 0, .int 0, .ref z2, .int 0, .int 0, .int 0, .int 0, .long 0, .int 0, .int 0, .ref z10, .ref z11, .ref z12, .ref z13, .ref z14, .ref z15, .ref z16, .ref z17, .ref z18, .ref z19, .int 0, .int 0, .ref z22, .ref z23, .ref z24, .ref z25, .ref z26, .ref z27, .ref z28, .ref z29, .ref z30, .ref z31, .ref z32, .ref z33, .int 0, .long 0, .ref z36, .ref z37, .ref z38, .ref z39, .ref z40, .ref z41, .ref z42, .ref z43, .ref z44, .ref z45, .ref z46, .ref z47, .ref z48, .int 0, .int 10, .int 0, .int 0, .int 0, .int 0, .ref z55, .ref z56, .int 0, .int 0, .ref z59, .ref z60, .ref z61, .int 0, .long 0]))]) 3 gw_1472 gw_1473 gw_15 gw_1474 hd_X12_within hC hw (c_within_h γ l t 2 12 h1 h2) ⟨by decide, by decide⟩ ⟨by decide, by decide⟩ hl.1 rfl rfl (Nat.le_of_ble_eq_true rfl) [] [0] rfl rfl rfl rfl (by decide) dX12_other_9 (fun r w1 H locs hq hw => ?_)
  obtain ⟨rfl, rfl⟩ := hq
  have hw : kW γ A [(z, .inr (11, [.int 0, .int 0, .ref z2, .int 0, .int 0, .int 0, .int 0, .long 0, .int 0, .int 0, .ref z10, .ref z11, .ref z12, .ref z13, .ref z14, .ref z15, .ref z16, .ref z17, .ref z18, .ref z19, .int 0, .int 0, .ref z22, .ref z23, .ref z24, .ref z25, .ref z26, .ref z27, .ref z28, .ref z29, .ref z30, .ref z31, .ref z32, .ref z33, .int 0, .long 0, .ref z36, .ref z37, .ref z38, .ref z39, .ref z40, .ref z41, .ref z42, .ref z43, .ref z44, .ref z45, .ref z46, .ref z47, .ref z48, .int 0, .int 10, .int 0, .int 0, .int 0, .int 0, .ref z55, .ref z56, .int 0, .int 0, .ref z59, .ref z60, .ref z61, .int 0, .long 0]))] s H locs := hw
  refine W.eq (g2 := F0 m 12 ls [.int 0]) rfl ?_
  refine lv_if_ne (tgt := 17) hx hb dX12_other_12 (by decide) (fun h => absurd rfl h) (fun _ => ?_)
  refine lv_iconst (v := (-1)) hx hb dX12_other_15 (by decide) ?_
  exact k_iret hC hr hlocks hw [] rfl rfl ⟨rfl, rfl⟩ (by decide) (by decide) dX12_other_16

set_option maxHeartbeats 4000000 in
set_option maxRecDepth 100000 in
theorem c_X12_other_t (γ : kΓ) (l : Launch) (z : Nat) (z2 : Nat) (z10 : Nat) (z11 : Nat) (z12 : Nat) (z13 : Nat) (z14 : Nat) (z15 : Nat) (z16 : Nat) (z17 : Nat) (z18 : Nat) (z19 : Nat) (z22 : Nat) (z23 : Nat) (z24 : Nat) (z25 : Nat) (z26 : Nat) (z27 : Nat) (z28 : Nat) (z29 : Nat) (z30 : Nat) (z31 : Nat) (z32 : Nat) (z33 : Nat) (z36 : Nat) (z37 : Nat) (z38 : Nat) (z39 : Nat) (z40 : Nat) (z41 : Nat) (z42 : Nat) (z43 : Nat) (z44 : Nat) (z45 : Nat) (z46 : Nat) (z47 : Nat) (z48 : Nat) (z55 : Nat) (z56 : Nat) (z59 : Nat) (z60 : Nat) (z61 : Nat) (fa : Nat → Int32) (t : Int32) (fs : Nat → Int32) (fd : Nat → Int32) (ha0 : fa 0 = 0) (ha1 : fa 1 = 0) (ha2 : fa 2 = 10) (ha3 : fa 3 = 10) (ha4 : fa 4 = 3) (h1 : ¬ t < 2) (h2 : ¬ 12 < t) : kM γ l yX12_other cX12_other 2 ((some .int)) ({ frames := 2, cells := 0, slots := 0, locals := 46 } : Room) [.ref z, .int t] [(z, .inr (11, [.int 0, .int 0, .ref z2, .int 0, .int 0, .int 0, .int 0, .long 0, .int 0, .int 0, .ref z10, .ref z11, .ref z12, .ref z13, .ref z14, .ref z15, .ref z16, .ref z17, .ref z18, .ref z19, .int 0, .int 0, .ref z22, .ref z23, .ref z24, .ref z25, .ref z26, .ref z27, .ref z28, .ref z29, .ref z30, .ref z31, .ref z32, .ref z33, .int 0, .long 0, .ref z36, .ref z37, .ref z38, .ref z39, .ref z40, .ref z41, .ref z42, .ref z43, .ref z44, .ref z45, .ref z46, .ref z47, .ref z48, .int 0, .int 10, .int 0, .int 0, .int 0, .int 0, .ref z55, .ref z56, .int 0, .int 0, .ref z59, .ref z60, .ref z61, .int 0, .long 0])), (z10, .inl (γ.2.1 0, 10, .inl fa)), (z43, .inl (γ.2.1 0, 133, .inl fs)), (z44, .inl (γ.2.1 0, 133, .inl fd)), (z36, .inl (γ.2.1 0, 6, .inl (fun _ => 0)))] (fun r w1 => r = some (.int 0) ∧ w1 = []) := by
  refine k_ofW (by decide) (Nat.le_of_ble_eq_true rfl) ?_
  intro p e s m below meth c A ls hC hr hlocks hname hw hl
  have hx := hC.1
  have hb := hC.2.1
  have hl : lv_has ls 2 [(0, .ref z), (1, .int t)] := hl
  refine lv_aload_n hx hb dX12_other_0 rfl (lv_at hl 0 rfl) ?_
  refine lv_iconst (v := 0) hx hb dX12_other_1 (by decide) ?_
  refine fs_RX12_143 hC hw 0 rfl rfl rfl (Nat.le_of_ble_eq_true rfl) dX12_other_2 (fun H locs hw => ?_)
  have hw : kW γ A [(z, .inr (11, [.int 0, .int 0, .ref z2, .int 0, .int 0, .int 0, .int 0, .long 0, .int 0, .int 0, .ref z10, .ref z11, .ref z12, .ref z13, .ref z14, .ref z15, .ref z16, .ref z17, .ref z18, .ref z19, .int 0, .int 0, .ref z22, .ref z23, .ref z24, .ref z25, .ref z26, .ref z27, .ref z28, .ref z29, .ref z30, .ref z31, .ref z32, .ref z33, .int 0, .long 0, .ref z36, .ref z37, .ref z38, .ref z39, .ref z40, .ref z41, .ref z42, .ref z43, .ref z44, .ref z45, .ref z46, .ref z47, .ref z48, .int 0, .int 10, .int 0, .int 0, .int 0, .int 0, .ref z55, .ref z56, .int 0, .int 0, .ref z59, .ref z60, .ref z61, .int 0, .long 0])), (z10, .inl (γ.2.1 0, 10, .inl fa)), (z43, .inl (γ.2.1 0, 133, .inl fs)), (z44, .inl (γ.2.1 0, 133, .inl fd)), (z36, .inl (γ.2.1 0, 6, .inl (fun _ => 0)))] s H locs := hw
  refine lv_iload_n hx hb dX12_other_5 rfl (lv_at hl 1 rfl) ?_
  refine lv_iconst (v := 2) hx hb dX12_other_6 (by decide) ?_
  refine lv_bipush (v := 12) hx hb dX12_other_7 (by decide) ?_
  refine k_S (wr := [(z, .inr (11, [.int 0, .int 0, .ref z2, .int 0, .int 0, .int 0, .int 0, .long 0, .int 0, .int 0, .ref z10, .ref z11, .ref z12, .ref z13, .ref z14, .ref z15, .ref z16, .ref z17, .ref z18, .ref z19, .int 0, .int 0, .ref z22, .ref z23, .ref z24, .ref z25, .ref z26, .ref z27, .ref z28, .ref z29, .ref z30, .ref z31, .ref z32, .ref z33, .int 0, .long 0, .ref z36, .ref z37, .ref z38, .ref z39, .ref z40, .ref z41, .ref z42, .ref z43, .ref z44, .ref z45, .ref z46, .ref z47, .ref z48, .int 0, .int 10, .int 0, .int 0, .int 0, .int 0, .ref z55, .ref z56, .int 0, .int 0, .ref z59, .ref z60, .ref z61, .int 0, .long 0])), (z10, .inl (γ.2.1 0, 10, .inl fa)), (z43, .inl (γ.2.1 0, 133, .inl fs)), (z44, .inl (γ.2.1 0, 133, .inl fd)), (z36, .inl (γ.2.1 0, 6, .inl (fun _ => 0)))]) 3 gw_1472 gw_1473 gw_15 gw_1474 hd_X12_within hC hw (c_within_t γ l t 2 12 h1 h2) ⟨by decide, by decide⟩ ⟨by decide, by decide⟩ hl.1 rfl rfl (Nat.le_of_ble_eq_true rfl) [] [0, 1, 2, 3, 4] rfl rfl rfl rfl (by decide) dX12_other_9 (fun r w1 H locs hq hw => ?_)
  obtain ⟨rfl, rfl⟩ := hq
  have hw : kW γ A [(z, .inr (11, [.int 0, .int 0, .ref z2, .int 0, .int 0, .int 0, .int 0, .long 0, .int 0, .int 0, .ref z10, .ref z11, .ref z12, .ref z13, .ref z14, .ref z15, .ref z16, .ref z17, .ref z18, .ref z19, .int 0, .int 0, .ref z22, .ref z23, .ref z24, .ref z25, .ref z26, .ref z27, .ref z28, .ref z29, .ref z30, .ref z31, .ref z32, .ref z33, .int 0, .long 0, .ref z36, .ref z37, .ref z38, .ref z39, .ref z40, .ref z41, .ref z42, .ref z43, .ref z44, .ref z45, .ref z46, .ref z47, .ref z48, .int 0, .int 10, .int 0, .int 0, .int 0, .int 0, .ref z55, .ref z56, .int 0, .int 0, .ref z59, .ref z60, .ref z61, .int 0, .long 0])), (z10, .inl (γ.2.1 0, 10, .inl fa)), (z43, .inl (γ.2.1 0, 133, .inl fs)), (z44, .inl (γ.2.1 0, 133, .inl fd)), (z36, .inl (γ.2.1 0, 6, .inl (fun _ => 0)))] s H locs := hw
  refine W.eq (g2 := F0 m 12 ls [.int 1]) rfl ?_
  refine lv_if_ne (tgt := 17) hx hb dX12_other_12 (by decide) (fun _ => ?_) (fun h => absurd h (by decide))
  refine lv_aload_n hx hb dX12_other_17 rfl (lv_at hl 0 rfl) ?_
  refine lv_iload_n hx hb dX12_other_18 rfl (lv_at hl 1 rfl) ?_
  refine k_V (wr := []) 1 gw_1660 gw_1662 gp_98 gw_15 gw_1663 hd_X12_judges hC hw (c_X12_judges γ l z z2 z10 z11 z12 z13 z14 z15 z16 z17 z18 z19 z22 z23 z24 z25 z26 z27 z28 z29 z30 z31 z32 z33 z36 z37 z38 z39 z40 z41 z42 z43 z44 z45 z46 z47 z48 z55 z56 z59 z60 z61 fa t fs fd ha0 ha1 ha2 ha3 ha4) ⟨by decide, by decide⟩ ⟨by decide, by decide⟩ hl.1 rfl 0 rfl rfl rfl (Nat.le_of_ble_eq_true rfl) [0, 1, 2, 3, 4] [] rfl rfl rfl rfl (by decide) dX12_other_19 (fun r w1 H locs hq hw => ?_)
  obtain ⟨rfl, rfl⟩ := hq
  have hw : kW γ A [(z, .inr (11, [.int 0, .int 0, .ref z2, .int 0, .int 0, .int 0, .int 0, .long 0, .int 0, .int 0, .ref z10, .ref z11, .ref z12, .ref z13, .ref z14, .ref z15, .ref z16, .ref z17, .ref z18, .ref z19, .int 0, .int 0, .ref z22, .ref z23, .ref z24, .ref z25, .ref z26, .ref z27, .ref z28, .ref z29, .ref z30, .ref z31, .ref z32, .ref z33, .int 0, .long 0, .ref z36, .ref z37, .ref z38, .ref z39, .ref z40, .ref z41, .ref z42, .ref z43, .ref z44, .ref z45, .ref z46, .ref z47, .ref z48, .int 0, .int t, .int (-1), .int (-1), .int 0, .int 0, .ref z55, .ref z56, .int 0, .int 0, .ref z59, .ref z60, .ref z61, .int 0, .long 0]))] s H locs := hw
  refine W.eq (g2 := F0 m 22 ls []) rfl ?_
  refine lv_aload_n hx hb dX12_other_22 rfl (lv_at hl 0 rfl) ?_
  refine fg_RX12_412 hC hw 0 rfl rfl dX12_other_23 ?_
  exact k_iret hC hr hlocks hw [] rfl rfl ⟨rfl, rfl⟩ (by decide) (by decide) dX12_other_26

set_option maxHeartbeats 4000000 in
set_option maxRecDepth 100000 in
theorem c_X12_lives_0 (γ : kΓ) (l : Launch) (z : Nat) (z2 : Nat) (z10 : Nat) (z11 : Nat) (z12 : Nat) (z13 : Nat) (z14 : Nat) (z15 : Nat) (z16 : Nat) (z17 : Nat) (z18 : Nat) (z19 : Nat) (z22 : Nat) (z23 : Nat) (z24 : Nat) (z25 : Nat) (z26 : Nat) (z27 : Nat) (z28 : Nat) (z29 : Nat) (z30 : Nat) (z31 : Nat) (z32 : Nat) (z33 : Nat) (z36 : Nat) (z37 : Nat) (z38 : Nat) (z39 : Nat) (z40 : Nat) (z41 : Nat) (z42 : Nat) (z43 : Nat) (z44 : Nat) (z45 : Nat) (z46 : Nat) (z47 : Nat) (z48 : Nat) (z55 : Nat) (z56 : Nat) (z59 : Nat) (z60 : Nat) (z61 : Nat) (fa : Nat → Int32) (sd : Int32) (sp : Int32) (fs : Nat → Int32) (fd : Nat → Int32) (ha0 : fa 0 = 0) (ha1 : fa 1 = 0) (ha2 : fa 2 = 10) (ha3 : fa 3 = 10) (ha4 : fa 4 = 3) (hs0 : ¬ sd < 0) (hs1 : ¬ 9999 < sd) (hs2 : ¬ sp < 1) (hs3 : ¬ 99 < sp) : kM γ l yX12_lives cX12_lives 7 ((some .int)) ({ frames := 1, cells := 0, slots := 0, locals := 24 } : Room) [.ref z, .int sd, .int sp, .int 0] [(z, .inr (11, [.int 0, .int 0, .ref z2, .int 0, .int 0, .int 0, .int 0, .long 0, .int 0, .int 0, .ref z10, .ref z11, .ref z12, .ref z13, .ref z14, .ref z15, .ref z16, .ref z17, .ref z18, .ref z19, .int 0, .int 0, .ref z22, .ref z23, .ref z24, .ref z25, .ref z26, .ref z27, .ref z28, .ref z29, .ref z30, .ref z31, .ref z32, .ref z33, .int 0, .long 0, .ref z36, .ref z37, .ref z38, .ref z39, .ref z40, .ref z41, .ref z42, .ref z43, .ref z44, .ref z45, .ref z46, .ref z47, .ref z48, .int 0, .int 10, .int 0, .int 0, .int 0, .int 0, .ref z55, .ref z56, .int 0, .int 0, .ref z59, .ref z60, .ref z61, .int 0, .long 0])), (z10, .inl (γ.2.1 0, 10, .inl fa)), (z43, .inl (γ.2.1 0, 133, .inl fs)), (z44, .inl (γ.2.1 0, 133, .inl fd))] (fun r w1 => ∃ (gx : Int64), r = some (.int 0) ∧ w1 = [(z, .inr (11, [.int 0, .int 0, .ref z2, .int 0, .int 0, .int 0, .int 0, .long 0, .int 0, .int 0, .ref z10, .ref z11, .ref z12, .ref z13, .ref z14, .ref z15, .ref z16, .ref z17, .ref z18, .ref z19, .int 0, .int 0, .ref z22, .ref z23, .ref z24, .ref z25, .ref z26, .ref z27, .ref z28, .ref z29, .ref z30, .ref z31, .ref z32, .ref z33, .int 0, .long 0, .ref z36, .ref z37, .ref z38, .ref z39, .ref z40, .ref z41, .ref z42, .ref z43, .ref z44, .ref z45, .ref z46, .ref z47, .ref z48, .int 0, .int 10, .int 0, .int 0, .int 0, .int 0, .ref z55, .ref z56, .int 0, .int 0, .ref z59, .ref z60, .ref z61, .int 0, .long gx]))]) := by
  refine k_ofW (by decide) (Nat.le_of_ble_eq_true rfl) ?_
  intro p e s m below meth c A ls hC hr hlocks hname hw hl
  have hx := hC.1
  have hb := hC.2.1
  have hl : lv_has ls 7 [(0, .ref z), (1, .int sd), (2, .int sp), (3, .int 0)] := hl
  refine lv_aload_n hx hb dX12_lives_0 rfl (lv_at hl 0 rfl) ?_
  refine lv_iload_n hx hb dX12_lives_1 rfl (lv_at hl 1 rfl) ?_
  refine lv_iconst (v := 0) hx hb dX12_lives_2 (by decide) ?_
  refine lv_sipush (v := 9999) hx hb dX12_lives_3 (by decide) ?_
  refine k_S (wr := [(z, .inr (11, [.int 0, .int 0, .ref z2, .int 0, .int 0, .int 0, .int 0, .long 0, .int 0, .int 0, .ref z10, .ref z11, .ref z12, .ref z13, .ref z14, .ref z15, .ref z16, .ref z17, .ref z18, .ref z19, .int 0, .int 0, .ref z22, .ref z23, .ref z24, .ref z25, .ref z26, .ref z27, .ref z28, .ref z29, .ref z30, .ref z31, .ref z32, .ref z33, .int 0, .long 0, .ref z36, .ref z37, .ref z38, .ref z39, .ref z40, .ref z41, .ref z42, .ref z43, .ref z44, .ref z45, .ref z46, .ref z47, .ref z48, .int 0, .int 10, .int 0, .int 0, .int 0, .int 0, .ref z55, .ref z56, .int 0, .int 0, .ref z59, .ref z60, .ref z61, .int 0, .long 0])), (z10, .inl (γ.2.1 0, 10, .inl fa)), (z43, .inl (γ.2.1 0, 133, .inl fs)), (z44, .inl (γ.2.1 0, 133, .inl fd))]) 3 gw_1472 gw_1473 gw_15 gw_1474 hd_X12_within hC hw (c_within_t γ l sd 0 9999 hs0 hs1) ⟨by decide, by decide⟩ ⟨by decide, by decide⟩ hl.1 rfl rfl (Nat.le_of_ble_eq_true rfl) [] [0, 1, 2, 3] rfl rfl rfl rfl (by decide) dX12_lives_6 (fun r w1 H locs hq hw => ?_)
  obtain ⟨rfl, rfl⟩ := hq
  have hw : kW γ A [(z, .inr (11, [.int 0, .int 0, .ref z2, .int 0, .int 0, .int 0, .int 0, .long 0, .int 0, .int 0, .ref z10, .ref z11, .ref z12, .ref z13, .ref z14, .ref z15, .ref z16, .ref z17, .ref z18, .ref z19, .int 0, .int 0, .ref z22, .ref z23, .ref z24, .ref z25, .ref z26, .ref z27, .ref z28, .ref z29, .ref z30, .ref z31, .ref z32, .ref z33, .int 0, .long 0, .ref z36, .ref z37, .ref z38, .ref z39, .ref z40, .ref z41, .ref z42, .ref z43, .ref z44, .ref z45, .ref z46, .ref z47, .ref z48, .int 0, .int 10, .int 0, .int 0, .int 0, .int 0, .ref z55, .ref z56, .int 0, .int 0, .ref z59, .ref z60, .ref z61, .int 0, .long 0])), (z10, .inl (γ.2.1 0, 10, .inl fa)), (z43, .inl (γ.2.1 0, 133, .inl fs)), (z44, .inl (γ.2.1 0, 133, .inl fd))] s H locs := hw
  refine W.eq (g2 := F0 m 9 ls [.int 1, .ref z]) rfl ?_
  refine lv_if_eq (tgt := 35) hx hb dX12_lives_9 (by decide) (fun h => absurd h (by decide)) (fun _ => ?_)
  refine lv_iload_n hx hb dX12_lives_12 rfl (lv_at hl 2 rfl) ?_
  refine lv_iconst (v := 1) hx hb dX12_lives_13 (by decide) ?_
  refine lv_bipush (v := 99) hx hb dX12_lives_14 (by decide) ?_
  refine k_S (wr := [(z, .inr (11, [.int 0, .int 0, .ref z2, .int 0, .int 0, .int 0, .int 0, .long 0, .int 0, .int 0, .ref z10, .ref z11, .ref z12, .ref z13, .ref z14, .ref z15, .ref z16, .ref z17, .ref z18, .ref z19, .int 0, .int 0, .ref z22, .ref z23, .ref z24, .ref z25, .ref z26, .ref z27, .ref z28, .ref z29, .ref z30, .ref z31, .ref z32, .ref z33, .int 0, .long 0, .ref z36, .ref z37, .ref z38, .ref z39, .ref z40, .ref z41, .ref z42, .ref z43, .ref z44, .ref z45, .ref z46, .ref z47, .ref z48, .int 0, .int 10, .int 0, .int 0, .int 0, .int 0, .ref z55, .ref z56, .int 0, .int 0, .ref z59, .ref z60, .ref z61, .int 0, .long 0])), (z10, .inl (γ.2.1 0, 10, .inl fa)), (z43, .inl (γ.2.1 0, 133, .inl fs)), (z44, .inl (γ.2.1 0, 133, .inl fd))]) 3 gw_1472 gw_1473 gw_15 gw_1474 hd_X12_within hC hw (c_within_t γ l sp 1 99 hs2 hs3) ⟨by decide, by decide⟩ ⟨by decide, by decide⟩ hl.1 rfl rfl (Nat.le_of_ble_eq_true rfl) [] [0, 1, 2, 3] rfl rfl rfl rfl (by decide) dX12_lives_16 (fun r w1 H locs hq hw => ?_)
  obtain ⟨rfl, rfl⟩ := hq
  have hw : kW γ A [(z, .inr (11, [.int 0, .int 0, .ref z2, .int 0, .int 0, .int 0, .int 0, .long 0, .int 0, .int 0, .ref z10, .ref z11, .ref z12, .ref z13, .ref z14, .ref z15, .ref z16, .ref z17, .ref z18, .ref z19, .int 0, .int 0, .ref z22, .ref z23, .ref z24, .ref z25, .ref z26, .ref z27, .ref z28, .ref z29, .ref z30, .ref z31, .ref z32, .ref z33, .int 0, .long 0, .ref z36, .ref z37, .ref z38, .ref z39, .ref z40, .ref z41, .ref z42, .ref z43, .ref z44, .ref z45, .ref z46, .ref z47, .ref z48, .int 0, .int 10, .int 0, .int 0, .int 0, .int 0, .ref z55, .ref z56, .int 0, .int 0, .ref z59, .ref z60, .ref z61, .int 0, .long 0])), (z10, .inl (γ.2.1 0, 10, .inl fa)), (z43, .inl (γ.2.1 0, 133, .inl fs)), (z44, .inl (γ.2.1 0, 133, .inl fd))] s H locs := hw
  refine W.eq (g2 := F0 m 19 ls [.int 1, .ref z]) rfl ?_
  refine lv_if_eq (tgt := 35) hx hb dX12_lives_19 (by decide) (fun h => absurd h (by decide)) (fun _ => ?_)
  refine lv_iload_n hx hb dX12_lives_22 rfl (lv_at hl 3 rfl) ?_
  refine lv_iconst (v := 0) hx hb dX12_lives_23 (by decide) ?_
  refine lv_iconst (v := 2) hx hb dX12_lives_24 (by decide) ?_
  refine k_S (wr := [(z, .inr (11, [.int 0, .int 0, .ref z2, .int 0, .int 0, .int 0, .int 0, .long 0, .int 0, .int 0, .ref z10, .ref z11, .ref z12, .ref z13, .ref z14, .ref z15, .ref z16, .ref z17, .ref z18, .ref z19, .int 0, .int 0, .ref z22, .ref z23, .ref z24, .ref z25, .ref z26, .ref z27, .ref z28, .ref z29, .ref z30, .ref z31, .ref z32, .ref z33, .int 0, .long 0, .ref z36, .ref z37, .ref z38, .ref z39, .ref z40, .ref z41, .ref z42, .ref z43, .ref z44, .ref z45, .ref z46, .ref z47, .ref z48, .int 0, .int 10, .int 0, .int 0, .int 0, .int 0, .ref z55, .ref z56, .int 0, .int 0, .ref z59, .ref z60, .ref z61, .int 0, .long 0])), (z10, .inl (γ.2.1 0, 10, .inl fa)), (z43, .inl (γ.2.1 0, 133, .inl fs)), (z44, .inl (γ.2.1 0, 133, .inl fd))]) 3 gw_1472 gw_1473 gw_15 gw_1474 hd_X12_within hC hw (c_within_t γ l 0 0 2 (by decide) (by decide)) ⟨by decide, by decide⟩ ⟨by decide, by decide⟩ hl.1 rfl rfl (Nat.le_of_ble_eq_true rfl) [] [0, 1, 2, 3] rfl rfl rfl rfl (by decide) dX12_lives_25 (fun r w1 H locs hq hw => ?_)
  obtain ⟨rfl, rfl⟩ := hq
  have hw : kW γ A [(z, .inr (11, [.int 0, .int 0, .ref z2, .int 0, .int 0, .int 0, .int 0, .long 0, .int 0, .int 0, .ref z10, .ref z11, .ref z12, .ref z13, .ref z14, .ref z15, .ref z16, .ref z17, .ref z18, .ref z19, .int 0, .int 0, .ref z22, .ref z23, .ref z24, .ref z25, .ref z26, .ref z27, .ref z28, .ref z29, .ref z30, .ref z31, .ref z32, .ref z33, .int 0, .long 0, .ref z36, .ref z37, .ref z38, .ref z39, .ref z40, .ref z41, .ref z42, .ref z43, .ref z44, .ref z45, .ref z46, .ref z47, .ref z48, .int 0, .int 10, .int 0, .int 0, .int 0, .int 0, .ref z55, .ref z56, .int 0, .int 0, .ref z59, .ref z60, .ref z61, .int 0, .long 0])), (z10, .inl (γ.2.1 0, 10, .inl fa)), (z43, .inl (γ.2.1 0, 133, .inl fs)), (z44, .inl (γ.2.1 0, 133, .inl fd))] s H locs := hw
  refine W.eq (g2 := F0 m 28 ls [.int 1, .ref z]) rfl ?_
  refine lv_if_eq (tgt := 35) hx hb dX12_lives_28 (by decide) (fun h => absurd h (by decide)) (fun _ => ?_)
  refine lv_iconst (v := 0) hx hb dX12_lives_31 (by decide) ?_
  refine lv_goto (tgt := 36) hx hb dX12_lives_32 (by decide) ?_
  refine fs_RX12_143 hC hw 0 rfl rfl rfl (Nat.le_of_ble_eq_true rfl) dX12_lives_36 (fun H locs hw => ?_)
  have hw : kW γ A [(z, .inr (11, [.int 0, .int 0, .ref z2, .int 0, .int 0, .int 0, .int 0, .long 0, .int 0, .int 0, .ref z10, .ref z11, .ref z12, .ref z13, .ref z14, .ref z15, .ref z16, .ref z17, .ref z18, .ref z19, .int 0, .int 0, .ref z22, .ref z23, .ref z24, .ref z25, .ref z26, .ref z27, .ref z28, .ref z29, .ref z30, .ref z31, .ref z32, .ref z33, .int 0, .long 0, .ref z36, .ref z37, .ref z38, .ref z39, .ref z40, .ref z41, .ref z42, .ref z43, .ref z44, .ref z45, .ref z46, .ref z47, .ref z48, .int 0, .int 10, .int 0, .int 0, .int 0, .int 0, .ref z55, .ref z56, .int 0, .int 0, .ref z59, .ref z60, .ref z61, .int 0, .long 0])), (z10, .inl (γ.2.1 0, 10, .inl fa)), (z43, .inl (γ.2.1 0, 133, .inl fs)), (z44, .inl (γ.2.1 0, 133, .inl fd))] s H locs := hw
  refine lv_aload_n hx hb dX12_lives_39 rfl (lv_at hl 0 rfl) ?_
  refine fg_RX12_143 hC hw 0 rfl rfl dX12_lives_40 ?_
  refine lv_iconst (v := 1) hx hb dX12_lives_43 (by decide) ?_
  refine lv_icmp_ne (tgt := 49) hx hb dX12_lives_44 (by decide) (fun _ => ?_) (fun h => absurd h (by decide))
  refine lv_aload_n hx hb dX12_lives_49 rfl (lv_at hl 0 rfl) ?_
  refine lv_iload_n hx hb dX12_lives_50 rfl (lv_at hl 1 rfl) ?_
  refine lv_i2l hx hb dX12_lives_51 rfl ?_
  refine lv_topl (fun x_1401 ex_1401 => ?_)
  refine fs_RX12_478 hC hw 0 rfl rfl rfl (Nat.le_of_ble_eq_true rfl) dX12_lives_52 (fun H locs hw => ?_)
  have hw : kW γ A [(z, .inr (11, [.int 0, .int 0, .ref z2, .int 0, .int 0, .int 0, .int 0, .long 0, .int 0, .int 0, .ref z10, .ref z11, .ref z12, .ref z13, .ref z14, .ref z15, .ref z16, .ref z17, .ref z18, .ref z19, .int 0, .int 0, .ref z22, .ref z23, .ref z24, .ref z25, .ref z26, .ref z27, .ref z28, .ref z29, .ref z30, .ref z31, .ref z32, .ref z33, .int 0, .long 0, .ref z36, .ref z37, .ref z38, .ref z39, .ref z40, .ref z41, .ref z42, .ref z43, .ref z44, .ref z45, .ref z46, .ref z47, .ref z48, .int 0, .int 10, .int 0, .int 0, .int 0, .int 0, .ref z55, .ref z56, .int 0, .int 0, .ref z59, .ref z60, .ref z61, .int 0, .long x_1401])), (z10, .inl (γ.2.1 0, 10, .inl fa)), (z43, .inl (γ.2.1 0, 133, .inl fs)), (z44, .inl (γ.2.1 0, 133, .inl fd))] s H locs := hw
  refine lv_aload_n hx hb dX12_lives_55 rfl (lv_at hl 0 rfl) ?_
  refine lv_aload_n hx hb dX12_lives_56 rfl (lv_at hl 0 rfl) ?_
  refine fg_RX12_13 hC hw 0 rfl rfl dX12_lives_57 ?_
  refine lv_iconst (v := 2) hx hb dX12_lives_60 (by decide) ?_
  refine k_iald hC hw 1 rfl (k_in0 (by decide)) dX12_lives_61 ?_
  refine lv_topi (fun x_1402 ex_1402 => ?_)
  obtain rfl : x_1402 = 10 := (show x_1402 = fa 2 from ex_1402).trans ha2
  refine fs_RX12_120 hC hw 0 rfl rfl rfl (Nat.le_of_ble_eq_true rfl) dX12_lives_62 (fun H locs hw => ?_)
  have hw : kW γ A [(z, .inr (11, [.int 0, .int 0, .ref z2, .int 0, .int 0, .int 0, .int 0, .long 0, .int 0, .int 0, .ref z10, .ref z11, .ref z12, .ref z13, .ref z14, .ref z15, .ref z16, .ref z17, .ref z18, .ref z19, .int 0, .int 0, .ref z22, .ref z23, .ref z24, .ref z25, .ref z26, .ref z27, .ref z28, .ref z29, .ref z30, .ref z31, .ref z32, .ref z33, .int 0, .long 0, .ref z36, .ref z37, .ref z38, .ref z39, .ref z40, .ref z41, .ref z42, .ref z43, .ref z44, .ref z45, .ref z46, .ref z47, .ref z48, .int 0, .int 10, .int 0, .int 0, .int 0, .int 0, .ref z55, .ref z56, .int 0, .int 0, .ref z59, .ref z60, .ref z61, .int 0, .long x_1401])), (z10, .inl (γ.2.1 0, 10, .inl fa)), (z43, .inl (γ.2.1 0, 133, .inl fs)), (z44, .inl (γ.2.1 0, 133, .inl fd))] s H locs := hw
  refine lv_aload_n hx hb dX12_lives_65 rfl (lv_at hl 0 rfl) ?_
  refine fg_RX12_102 hC hw 0 rfl rfl dX12_lives_66 ?_
  refine lv_iconst (v := 0) hx hb dX12_lives_69 (by decide) ?_
  refine lv_aload_n hx hb dX12_lives_70 rfl (lv_at hl 0 rfl) ?_
  refine fg_RX12_105 hC hw 0 rfl rfl dX12_lives_71 ?_
  refine lv_iconst (v := 0) hx hb dX12_lives_74 (by decide) ?_
  refine k_S (wr := [(z, .inr (11, [.int 0, .int 0, .ref z2, .int 0, .int 0, .int 0, .int 0, .long 0, .int 0, .int 0, .ref z10, .ref z11, .ref z12, .ref z13, .ref z14, .ref z15, .ref z16, .ref z17, .ref z18, .ref z19, .int 0, .int 0, .ref z22, .ref z23, .ref z24, .ref z25, .ref z26, .ref z27, .ref z28, .ref z29, .ref z30, .ref z31, .ref z32, .ref z33, .int 0, .long 0, .ref z36, .ref z37, .ref z38, .ref z39, .ref z40, .ref z41, .ref z42, .ref z43, .ref z44, .ref z45, .ref z46, .ref z47, .ref z48, .int 0, .int 10, .int 0, .int 0, .int 0, .int 0, .ref z55, .ref z56, .int 0, .int 0, .ref z59, .ref z60, .ref z61, .int 0, .long x_1401])), (z10, .inl (γ.2.1 0, 10, .inl fa))]) 4 gw_1593 gw_1594 gw_15 gw_1595 hd_X12_copies hC hw (c_X12_copies γ l z43 133 fs 0 z44 133 fd 0 (by decide) (by decide) (by decide) (by decide)) ⟨by decide, by decide⟩ ⟨by decide, by decide⟩ hl.1 rfl rfl (Nat.le_of_ble_eq_true rfl) [2, 3] [0, 1] rfl rfl rfl rfl (by decide) dX12_lives_75 (fun r w1 H locs hq hw => ?_)
  obtain ⟨f9_1403, rfl, rfl⟩ := hq
  have hw : kW γ A [(z, .inr (11, [.int 0, .int 0, .ref z2, .int 0, .int 0, .int 0, .int 0, .long 0, .int 0, .int 0, .ref z10, .ref z11, .ref z12, .ref z13, .ref z14, .ref z15, .ref z16, .ref z17, .ref z18, .ref z19, .int 0, .int 0, .ref z22, .ref z23, .ref z24, .ref z25, .ref z26, .ref z27, .ref z28, .ref z29, .ref z30, .ref z31, .ref z32, .ref z33, .int 0, .long 0, .ref z36, .ref z37, .ref z38, .ref z39, .ref z40, .ref z41, .ref z42, .ref z43, .ref z44, .ref z45, .ref z46, .ref z47, .ref z48, .int 0, .int 10, .int 0, .int 0, .int 0, .int 0, .ref z55, .ref z56, .int 0, .int 0, .ref z59, .ref z60, .ref z61, .int 0, .long x_1401])), (z10, .inl (γ.2.1 0, 10, .inl fa)), (z43, .inl (γ.2.1 0, 133, .inl fs)), (z44, .inl (γ.2.1 0, 133, .inl f9_1403))] s H locs := hw
  refine W.eq (g2 := F0 m 78 ls []) rfl ?_
  refine lv_iconst (v := 0) hx hb dX12_lives_78 (by decide) ?_
  refine lv_istore (lv' := [(4, .int 0), (0, .ref z), (1, .int sd), (2, .int sp), (3, .int 0)]) hx hb dX12_lives_79 hl (by decide) rfl (fun ls hl => ?_)
  refine lv_iconst (v := 0) hx hb dX12_lives_81 (by decide) ?_
  refine lv_istore (lv' := [(5, .int 0), (4, .int 0), (0, .ref z), (1, .int sd), (2, .int sp), (3, .int 0)]) hx hb dX12_lives_82 hl (by decide) rfl (fun ls hl => ?_)
  refine lv_iload hx hb dX12_lives_84 (lv_at hl 0 rfl) ?_
  refine lv_iload_n hx hb dX12_lives_86 rfl (lv_at hl 4 rfl) ?_
  refine lv_icmp_ge (tgt := 123) hx hb dX12_lives_87 (by decide) (fun h => absurd h (fun h9 => hs2 (Int32.lt_of_le_of_lt h9 (by decide)))) (fun _ => ?_)
  refine lv_aload_n hx hb dX12_lives_90 rfl (lv_at hl 2 rfl) ?_
  refine fg_RX12_13 hC hw 0 rfl rfl dX12_lives_91 ?_
  refine lv_iconst (v := 1) hx hb dX12_lives_94 (by decide) ?_
  refine k_iald hC hw 1 rfl (k_in0 (by decide)) dX12_lives_95 ?_
  refine lv_topi (fun x_1404 ex_1404 => ?_)
  obtain rfl : x_1404 = 0 := (show x_1404 = fa 1 from ex_1404).trans ha1
  refine lv_if_le (tgt := 123) hx hb dX12_lives_96 (by decide) (fun _ => ?_) (fun h => absurd (by decide) h)
  refine lv_aload_n hx hb dX12_lives_123 rfl (lv_at hl 2 rfl) ?_
  refine k_V (wr := [(z43, .inl (γ.2.1 0, 133, .inl fs)), (z44, .inl (γ.2.1 0, 133, .inl f9_1403))]) 0 gw_1720 gw_1722 gp_105 gw_15 gw_1723 hd_X12_whoRan hC hw (c_X12_whoRan γ l z z2 z10 z11 z12 z13 z14 z15 z16 z17 z18 z19 z22 z23 z24 z25 z26 z27 z28 z29 z30 z31 z32 z33 z36 z37 z38 z39 z40 z41 z42 z43 z44 z45 z46 z47 z48 z55 z56 z59 z60 z61 0 0 0 0 0 0 0 0 0 0 0 0 0 0 10 0 0 0 0 0 0 0 x_1401 fa ha0 ha1 ha2 ha3 ha4) ⟨by decide, by decide⟩ ⟨by decide, by decide⟩ hl.1 rfl 0 rfl rfl rfl (Nat.le_of_ble_eq_true rfl) [0, 1] [2, 3] rfl rfl rfl rfl (by decide) dX12_lives_124 (fun r w1 H locs hq hw => ?_)
  obtain ⟨rfl, rfl⟩ := hq
  have hw : kW γ A [(z43, .inl (γ.2.1 0, 133, .inl fs)), (z44, .inl (γ.2.1 0, 133, .inl f9_1403)), (z, .inr (11, [.int 0, .int 0, .ref z2, .int 0, .int 0, .int 0, .int 0, .long 0, .int 0, .int 0, .ref z10, .ref z11, .ref z12, .ref z13, .ref z14, .ref z15, .ref z16, .ref z17, .ref z18, .ref z19, .int 0, .int 0, .ref z22, .ref z23, .ref z24, .ref z25, .ref z26, .ref z27, .ref z28, .ref z29, .ref z30, .ref z31, .ref z32, .ref z33, .int 0, .long 0, .ref z36, .ref z37, .ref z38, .ref z39, .ref z40, .ref z41, .ref z42, .ref z43, .ref z44, .ref z45, .ref z46, .ref z47, .ref z48, .int 0, .int 10, .int 0, .int 0, .int 0, .int 0, .ref z55, .ref z56, .int 0, .int 0, .ref z59, .ref z60, .ref z61, .int 0, .long x_1401])), (z10, .inl (γ.2.1 0, 10, .inl fa))] s H locs := hw
  refine W.eq (g2 := F0 m 127 ls [.int 0]) rfl ?_
  refine lv_istore (lv' := [(5, .int 0), (4, .int 0), (0, .ref z), (1, .int sd), (2, .int sp), (3, .int 0)]) hx hb dX12_lives_127 hl (by decide) rfl (fun ls hl => ?_)
  refine lv_aload_n hx hb dX12_lives_129 rfl (lv_at hl 2 rfl) ?_
  refine k_V (wr := [(z43, .inl (γ.2.1 0, 133, .inl fs)), (z44, .inl (γ.2.1 0, 133, .inl f9_1403))]) 0 gw_1668 gw_1670 gp_100 gw_15 gw_1671 hd_X12_gainedByAll hC hw (c_X12_gainedByAll γ l z z2 z10 z11 z12 z13 z14 z15 z16 z17 z18 z19 z22 z23 z24 z25 z26 z27 z28 z29 z30 z31 z32 z33 z36 z37 z38 z39 z40 z41 z42 z43 z44 z45 z46 z47 z48 z55 z56 z59 z60 z61 0 0 0 0 0 0 0 0 0 0 0 0 0 0 10 0 0 0 0 0 0 0 x_1401 fa ha0 ha1 ha2 ha3 ha4) ⟨by decide, by decide⟩ ⟨by decide, by decide⟩ hl.1 rfl 2 rfl rfl rfl (Nat.le_of_ble_eq_true rfl) [2, 3] [0, 1] rfl rfl rfl rfl (by decide) dX12_lives_130 (fun r w1 H locs hq hw => ?_)
  obtain ⟨rfl, rfl⟩ := hq
  have hw : kW γ A [(z43, .inl (γ.2.1 0, 133, .inl fs)), (z44, .inl (γ.2.1 0, 133, .inl f9_1403)), (z, .inr (11, [.int 0, .int 0, .ref z2, .int 0, .int 0, .int 0, .int 0, .long 0, .int 0, .int 0, .ref z10, .ref z11, .ref z12, .ref z13, .ref z14, .ref z15, .ref z16, .ref z17, .ref z18, .ref z19, .int 0, .int 0, .ref z22, .ref z23, .ref z24, .ref z25, .ref z26, .ref z27, .ref z28, .ref z29, .ref z30, .ref z31, .ref z32, .ref z33, .int 0, .long 0, .ref z36, .ref z37, .ref z38, .ref z39, .ref z40, .ref z41, .ref z42, .ref z43, .ref z44, .ref z45, .ref z46, .ref z47, .ref z48, .int 0, .int 10, .int 0, .int 0, .int 0, .int 0, .ref z55, .ref z56, .int 0, .int 0, .ref z59, .ref z60, .ref z61, .int 0, .long x_1401])), (z10, .inl (γ.2.1 0, 10, .inl fa))] s H locs := hw
  refine W.eq (g2 := F0 m 133 ls [.int 0]) rfl ?_
  refine lv_istore (lv' := [(6, .int 0), (5, .int 0), (4, .int 0), (0, .ref z), (1, .int sd), (2, .int sp), (3, .int 0)]) hx hb dX12_lives_133 hl (by decide) rfl (fun ls hl => ?_)
  refine lv_aload_n hx hb dX12_lives_135 rfl (lv_at hl 3 rfl) ?_
  refine fg_RX12_105 hC hw 2 rfl rfl dX12_lives_136 ?_
  refine lv_iconst (v := 0) hx hb dX12_lives_139 (by decide) ?_
  refine lv_aload_n hx hb dX12_lives_140 rfl (lv_at hl 3 rfl) ?_
  refine fg_RX12_102 hC hw 2 rfl rfl dX12_lives_141 ?_
  refine lv_iconst (v := 0) hx hb dX12_lives_144 (by decide) ?_
  refine k_S (wr := [(z, .inr (11, [.int 0, .int 0, .ref z2, .int 0, .int 0, .int 0, .int 0, .long 0, .int 0, .int 0, .ref z10, .ref z11, .ref z12, .ref z13, .ref z14, .ref z15, .ref z16, .ref z17, .ref z18, .ref z19, .int 0, .int 0, .ref z22, .ref z23, .ref z24, .ref z25, .ref z26, .ref z27, .ref z28, .ref z29, .ref z30, .ref z31, .ref z32, .ref z33, .int 0, .long 0, .ref z36, .ref z37, .ref z38, .ref z39, .ref z40, .ref z41, .ref z42, .ref z43, .ref z44, .ref z45, .ref z46, .ref z47, .ref z48, .int 0, .int 10, .int 0, .int 0, .int 0, .int 0, .ref z55, .ref z56, .int 0, .int 0, .ref z59, .ref z60, .ref z61, .int 0, .long x_1401])), (z10, .inl (γ.2.1 0, 10, .inl fa))]) 4 gw_1593 gw_1594 gw_15 gw_1595 hd_X12_copies hC hw (c_X12_copies γ l z44 133 f9_1403 0 z43 133 fs 0 (by decide) (by decide) (by decide) (by decide)) ⟨by decide, by decide⟩ ⟨by decide, by decide⟩ hl.1 rfl rfl (Nat.le_of_ble_eq_true rfl) [1, 0] [2, 3] rfl rfl rfl rfl (by decide) dX12_lives_145 (fun r w1 H locs hq hw => ?_)
  obtain ⟨f9_1405, rfl, rfl⟩ := hq
  have hw : kW γ A [(z, .inr (11, [.int 0, .int 0, .ref z2, .int 0, .int 0, .int 0, .int 0, .long 0, .int 0, .int 0, .ref z10, .ref z11, .ref z12, .ref z13, .ref z14, .ref z15, .ref z16, .ref z17, .ref z18, .ref z19, .int 0, .int 0, .ref z22, .ref z23, .ref z24, .ref z25, .ref z26, .ref z27, .ref z28, .ref z29, .ref z30, .ref z31, .ref z32, .ref z33, .int 0, .long 0, .ref z36, .ref z37, .ref z38, .ref z39, .ref z40, .ref z41, .ref z42, .ref z43, .ref z44, .ref z45, .ref z46, .ref z47, .ref z48, .int 0, .int 10, .int 0, .int 0, .int 0, .int 0, .ref z55, .ref z56, .int 0, .int 0, .ref z59, .ref z60, .ref z61, .int 0, .long x_1401])), (z10, .inl (γ.2.1 0, 10, .inl fa)), (z44, .inl (γ.2.1 0, 133, .inl f9_1403)), (z43, .inl (γ.2.1 0, 133, .inl f9_1405))] s H locs := hw
  refine W.eq (g2 := F0 m 148 ls []) rfl ?_
  refine lv_iload_n hx hb dX12_lives_148 rfl (lv_at hl 6 rfl) ?_
  refine lv_if_ne (tgt := 157) hx hb dX12_lives_149 (by decide) (fun h => absurd rfl h) (fun _ => ?_)
  refine lv_iload hx hb dX12_lives_152 (lv_at hl 2 rfl) ?_
  refine lv_goto (tgt := 174) hx hb dX12_lives_154 (by decide) ?_
  exact k_iret hC hr hlocks hw [0] rfl rfl ⟨x_1401, rfl, rfl⟩ (by decide) (by decide) dX12_lives_174

set_option maxHeartbeats 4000000 in
set_option maxRecDepth 100000 in
theorem c_X12_lives_1 (γ : kΓ) (l : Launch) (z : Nat) (z2 : Nat) (z10 : Nat) (z11 : Nat) (z12 : Nat) (z13 : Nat) (z14 : Nat) (z15 : Nat) (z16 : Nat) (z17 : Nat) (z18 : Nat) (z19 : Nat) (z22 : Nat) (z23 : Nat) (z24 : Nat) (z25 : Nat) (z26 : Nat) (z27 : Nat) (z28 : Nat) (z29 : Nat) (z30 : Nat) (z31 : Nat) (z32 : Nat) (z33 : Nat) (z36 : Nat) (z37 : Nat) (z38 : Nat) (z39 : Nat) (z40 : Nat) (z41 : Nat) (z42 : Nat) (z43 : Nat) (z44 : Nat) (z45 : Nat) (z46 : Nat) (z47 : Nat) (z48 : Nat) (z55 : Nat) (z56 : Nat) (z59 : Nat) (z60 : Nat) (z61 : Nat) (fa : Nat → Int32) (sd : Int32) (sp : Int32) (fs : Nat → Int32) (fd : Nat → Int32) (ha0 : fa 0 = 0) (ha1 : fa 1 = 0) (ha2 : fa 2 = 10) (ha3 : fa 3 = 10) (ha4 : fa 4 = 3) (hs0 : ¬ sd < 0) (hs1 : ¬ 9999 < sd) (hs2 : ¬ sp < 1) (hs3 : ¬ 99 < sp) : kM γ l yX12_lives cX12_lives 7 ((some .int)) ({ frames := 1, cells := 0, slots := 0, locals := 24 } : Room) [.ref z, .int sd, .int sp, .int 1] [(z, .inr (11, [.int 0, .int 0, .ref z2, .int 0, .int 0, .int 0, .int 0, .long 0, .int 0, .int 0, .ref z10, .ref z11, .ref z12, .ref z13, .ref z14, .ref z15, .ref z16, .ref z17, .ref z18, .ref z19, .int 0, .int 0, .ref z22, .ref z23, .ref z24, .ref z25, .ref z26, .ref z27, .ref z28, .ref z29, .ref z30, .ref z31, .ref z32, .ref z33, .int 0, .long 0, .ref z36, .ref z37, .ref z38, .ref z39, .ref z40, .ref z41, .ref z42, .ref z43, .ref z44, .ref z45, .ref z46, .ref z47, .ref z48, .int 0, .int 10, .int 0, .int 0, .int 0, .int 0, .ref z55, .ref z56, .int 0, .int 0, .ref z59, .ref z60, .ref z61, .int 0, .long 0])), (z10, .inl (γ.2.1 0, 10, .inl fa)), (z43, .inl (γ.2.1 0, 133, .inl fs)), (z44, .inl (γ.2.1 0, 133, .inl fd))] (fun r w1 => ∃ (gx : Int64), r = some (.int 0) ∧ w1 = [(z, .inr (11, [.int 0, .int 0, .ref z2, .int 0, .int 0, .int 0, .int 0, .long 0, .int 0, .int 0, .ref z10, .ref z11, .ref z12, .ref z13, .ref z14, .ref z15, .ref z16, .ref z17, .ref z18, .ref z19, .int 0, .int 0, .ref z22, .ref z23, .ref z24, .ref z25, .ref z26, .ref z27, .ref z28, .ref z29, .ref z30, .ref z31, .ref z32, .ref z33, .int 0, .long 0, .ref z36, .ref z37, .ref z38, .ref z39, .ref z40, .ref z41, .ref z42, .ref z43, .ref z44, .ref z45, .ref z46, .ref z47, .ref z48, .int 0, .int 10, .int 0, .int 0, .int 0, .int 0, .ref z55, .ref z56, .int 0, .int 0, .ref z59, .ref z60, .ref z61, .int 0, .long gx]))]) := by
  refine k_ofW (by decide) (Nat.le_of_ble_eq_true rfl) ?_
  intro p e s m below meth c A ls hC hr hlocks hname hw hl
  have hx := hC.1
  have hb := hC.2.1
  have hl : lv_has ls 7 [(0, .ref z), (1, .int sd), (2, .int sp), (3, .int 1)] := hl
  refine lv_aload_n hx hb dX12_lives_0 rfl (lv_at hl 0 rfl) ?_
  refine lv_iload_n hx hb dX12_lives_1 rfl (lv_at hl 1 rfl) ?_
  refine lv_iconst (v := 0) hx hb dX12_lives_2 (by decide) ?_
  refine lv_sipush (v := 9999) hx hb dX12_lives_3 (by decide) ?_
  refine k_S (wr := [(z, .inr (11, [.int 0, .int 0, .ref z2, .int 0, .int 0, .int 0, .int 0, .long 0, .int 0, .int 0, .ref z10, .ref z11, .ref z12, .ref z13, .ref z14, .ref z15, .ref z16, .ref z17, .ref z18, .ref z19, .int 0, .int 0, .ref z22, .ref z23, .ref z24, .ref z25, .ref z26, .ref z27, .ref z28, .ref z29, .ref z30, .ref z31, .ref z32, .ref z33, .int 0, .long 0, .ref z36, .ref z37, .ref z38, .ref z39, .ref z40, .ref z41, .ref z42, .ref z43, .ref z44, .ref z45, .ref z46, .ref z47, .ref z48, .int 0, .int 10, .int 0, .int 0, .int 0, .int 0, .ref z55, .ref z56, .int 0, .int 0, .ref z59, .ref z60, .ref z61, .int 0, .long 0])), (z10, .inl (γ.2.1 0, 10, .inl fa)), (z43, .inl (γ.2.1 0, 133, .inl fs)), (z44, .inl (γ.2.1 0, 133, .inl fd))]) 3 gw_1472 gw_1473 gw_15 gw_1474 hd_X12_within hC hw (c_within_t γ l sd 0 9999 hs0 hs1) ⟨by decide, by decide⟩ ⟨by decide, by decide⟩ hl.1 rfl rfl (Nat.le_of_ble_eq_true rfl) [] [0, 1, 2, 3] rfl rfl rfl rfl (by decide) dX12_lives_6 (fun r w1 H locs hq hw => ?_)
  obtain ⟨rfl, rfl⟩ := hq
  have hw : kW γ A [(z, .inr (11, [.int 0, .int 0, .ref z2, .int 0, .int 0, .int 0, .int 0, .long 0, .int 0, .int 0, .ref z10, .ref z11, .ref z12, .ref z13, .ref z14, .ref z15, .ref z16, .ref z17, .ref z18, .ref z19, .int 0, .int 0, .ref z22, .ref z23, .ref z24, .ref z25, .ref z26, .ref z27, .ref z28, .ref z29, .ref z30, .ref z31, .ref z32, .ref z33, .int 0, .long 0, .ref z36, .ref z37, .ref z38, .ref z39, .ref z40, .ref z41, .ref z42, .ref z43, .ref z44, .ref z45, .ref z46, .ref z47, .ref z48, .int 0, .int 10, .int 0, .int 0, .int 0, .int 0, .ref z55, .ref z56, .int 0, .int 0, .ref z59, .ref z60, .ref z61, .int 0, .long 0])), (z10, .inl (γ.2.1 0, 10, .inl fa)), (z43, .inl (γ.2.1 0, 133, .inl fs)), (z44, .inl (γ.2.1 0, 133, .inl fd))] s H locs := hw
  refine W.eq (g2 := F0 m 9 ls [.int 1, .ref z]) rfl ?_
  refine lv_if_eq (tgt := 35) hx hb dX12_lives_9 (by decide) (fun h => absurd h (by decide)) (fun _ => ?_)
  refine lv_iload_n hx hb dX12_lives_12 rfl (lv_at hl 2 rfl) ?_
  refine lv_iconst (v := 1) hx hb dX12_lives_13 (by decide) ?_
  refine lv_bipush (v := 99) hx hb dX12_lives_14 (by decide) ?_
  refine k_S (wr := [(z, .inr (11, [.int 0, .int 0, .ref z2, .int 0, .int 0, .int 0, .int 0, .long 0, .int 0, .int 0, .ref z10, .ref z11, .ref z12, .ref z13, .ref z14, .ref z15, .ref z16, .ref z17, .ref z18, .ref z19, .int 0, .int 0, .ref z22, .ref z23, .ref z24, .ref z25, .ref z26, .ref z27, .ref z28, .ref z29, .ref z30, .ref z31, .ref z32, .ref z33, .int 0, .long 0, .ref z36, .ref z37, .ref z38, .ref z39, .ref z40, .ref z41, .ref z42, .ref z43, .ref z44, .ref z45, .ref z46, .ref z47, .ref z48, .int 0, .int 10, .int 0, .int 0, .int 0, .int 0, .ref z55, .ref z56, .int 0, .int 0, .ref z59, .ref z60, .ref z61, .int 0, .long 0])), (z10, .inl (γ.2.1 0, 10, .inl fa)), (z43, .inl (γ.2.1 0, 133, .inl fs)), (z44, .inl (γ.2.1 0, 133, .inl fd))]) 3 gw_1472 gw_1473 gw_15 gw_1474 hd_X12_within hC hw (c_within_t γ l sp 1 99 hs2 hs3) ⟨by decide, by decide⟩ ⟨by decide, by decide⟩ hl.1 rfl rfl (Nat.le_of_ble_eq_true rfl) [] [0, 1, 2, 3] rfl rfl rfl rfl (by decide) dX12_lives_16 (fun r w1 H locs hq hw => ?_)
  obtain ⟨rfl, rfl⟩ := hq
  have hw : kW γ A [(z, .inr (11, [.int 0, .int 0, .ref z2, .int 0, .int 0, .int 0, .int 0, .long 0, .int 0, .int 0, .ref z10, .ref z11, .ref z12, .ref z13, .ref z14, .ref z15, .ref z16, .ref z17, .ref z18, .ref z19, .int 0, .int 0, .ref z22, .ref z23, .ref z24, .ref z25, .ref z26, .ref z27, .ref z28, .ref z29, .ref z30, .ref z31, .ref z32, .ref z33, .int 0, .long 0, .ref z36, .ref z37, .ref z38, .ref z39, .ref z40, .ref z41, .ref z42, .ref z43, .ref z44, .ref z45, .ref z46, .ref z47, .ref z48, .int 0, .int 10, .int 0, .int 0, .int 0, .int 0, .ref z55, .ref z56, .int 0, .int 0, .ref z59, .ref z60, .ref z61, .int 0, .long 0])), (z10, .inl (γ.2.1 0, 10, .inl fa)), (z43, .inl (γ.2.1 0, 133, .inl fs)), (z44, .inl (γ.2.1 0, 133, .inl fd))] s H locs := hw
  refine W.eq (g2 := F0 m 19 ls [.int 1, .ref z]) rfl ?_
  refine lv_if_eq (tgt := 35) hx hb dX12_lives_19 (by decide) (fun h => absurd h (by decide)) (fun _ => ?_)
  refine lv_iload_n hx hb dX12_lives_22 rfl (lv_at hl 3 rfl) ?_
  refine lv_iconst (v := 0) hx hb dX12_lives_23 (by decide) ?_
  refine lv_iconst (v := 2) hx hb dX12_lives_24 (by decide) ?_
  refine k_S (wr := [(z, .inr (11, [.int 0, .int 0, .ref z2, .int 0, .int 0, .int 0, .int 0, .long 0, .int 0, .int 0, .ref z10, .ref z11, .ref z12, .ref z13, .ref z14, .ref z15, .ref z16, .ref z17, .ref z18, .ref z19, .int 0, .int 0, .ref z22, .ref z23, .ref z24, .ref z25, .ref z26, .ref z27, .ref z28, .ref z29, .ref z30, .ref z31, .ref z32, .ref z33, .int 0, .long 0, .ref z36, .ref z37, .ref z38, .ref z39, .ref z40, .ref z41, .ref z42, .ref z43, .ref z44, .ref z45, .ref z46, .ref z47, .ref z48, .int 0, .int 10, .int 0, .int 0, .int 0, .int 0, .ref z55, .ref z56, .int 0, .int 0, .ref z59, .ref z60, .ref z61, .int 0, .long 0])), (z10, .inl (γ.2.1 0, 10, .inl fa)), (z43, .inl (γ.2.1 0, 133, .inl fs)), (z44, .inl (γ.2.1 0, 133, .inl fd))]) 3 gw_1472 gw_1473 gw_15 gw_1474 hd_X12_within hC hw (c_within_t γ l 1 0 2 (by decide) (by decide)) ⟨by decide, by decide⟩ ⟨by decide, by decide⟩ hl.1 rfl rfl (Nat.le_of_ble_eq_true rfl) [] [0, 1, 2, 3] rfl rfl rfl rfl (by decide) dX12_lives_25 (fun r w1 H locs hq hw => ?_)
  obtain ⟨rfl, rfl⟩ := hq
  have hw : kW γ A [(z, .inr (11, [.int 0, .int 0, .ref z2, .int 0, .int 0, .int 0, .int 0, .long 0, .int 0, .int 0, .ref z10, .ref z11, .ref z12, .ref z13, .ref z14, .ref z15, .ref z16, .ref z17, .ref z18, .ref z19, .int 0, .int 0, .ref z22, .ref z23, .ref z24, .ref z25, .ref z26, .ref z27, .ref z28, .ref z29, .ref z30, .ref z31, .ref z32, .ref z33, .int 0, .long 0, .ref z36, .ref z37, .ref z38, .ref z39, .ref z40, .ref z41, .ref z42, .ref z43, .ref z44, .ref z45, .ref z46, .ref z47, .ref z48, .int 0, .int 10, .int 0, .int 0, .int 0, .int 0, .ref z55, .ref z56, .int 0, .int 0, .ref z59, .ref z60, .ref z61, .int 0, .long 0])), (z10, .inl (γ.2.1 0, 10, .inl fa)), (z43, .inl (γ.2.1 0, 133, .inl fs)), (z44, .inl (γ.2.1 0, 133, .inl fd))] s H locs := hw
  refine W.eq (g2 := F0 m 28 ls [.int 1, .ref z]) rfl ?_
  refine lv_if_eq (tgt := 35) hx hb dX12_lives_28 (by decide) (fun h => absurd h (by decide)) (fun _ => ?_)
  refine lv_iconst (v := 0) hx hb dX12_lives_31 (by decide) ?_
  refine lv_goto (tgt := 36) hx hb dX12_lives_32 (by decide) ?_
  refine fs_RX12_143 hC hw 0 rfl rfl rfl (Nat.le_of_ble_eq_true rfl) dX12_lives_36 (fun H locs hw => ?_)
  have hw : kW γ A [(z, .inr (11, [.int 0, .int 0, .ref z2, .int 0, .int 0, .int 0, .int 0, .long 0, .int 0, .int 0, .ref z10, .ref z11, .ref z12, .ref z13, .ref z14, .ref z15, .ref z16, .ref z17, .ref z18, .ref z19, .int 0, .int 0, .ref z22, .ref z23, .ref z24, .ref z25, .ref z26, .ref z27, .ref z28, .ref z29, .ref z30, .ref z31, .ref z32, .ref z33, .int 0, .long 0, .ref z36, .ref z37, .ref z38, .ref z39, .ref z40, .ref z41, .ref z42, .ref z43, .ref z44, .ref z45, .ref z46, .ref z47, .ref z48, .int 0, .int 10, .int 0, .int 0, .int 0, .int 0, .ref z55, .ref z56, .int 0, .int 0, .ref z59, .ref z60, .ref z61, .int 0, .long 0])), (z10, .inl (γ.2.1 0, 10, .inl fa)), (z43, .inl (γ.2.1 0, 133, .inl fs)), (z44, .inl (γ.2.1 0, 133, .inl fd))] s H locs := hw
  refine lv_aload_n hx hb dX12_lives_39 rfl (lv_at hl 0 rfl) ?_
  refine fg_RX12_143 hC hw 0 rfl rfl dX12_lives_40 ?_
  refine lv_iconst (v := 1) hx hb dX12_lives_43 (by decide) ?_
  refine lv_icmp_ne (tgt := 49) hx hb dX12_lives_44 (by decide) (fun _ => ?_) (fun h => absurd h (by decide))
  refine lv_aload_n hx hb dX12_lives_49 rfl (lv_at hl 0 rfl) ?_
  refine lv_iload_n hx hb dX12_lives_50 rfl (lv_at hl 1 rfl) ?_
  refine lv_i2l hx hb dX12_lives_51 rfl ?_
  refine lv_topl (fun x_1406 ex_1406 => ?_)
  refine fs_RX12_478 hC hw 0 rfl rfl rfl (Nat.le_of_ble_eq_true rfl) dX12_lives_52 (fun H locs hw => ?_)
  have hw : kW γ A [(z, .inr (11, [.int 0, .int 0, .ref z2, .int 0, .int 0, .int 0, .int 0, .long 0, .int 0, .int 0, .ref z10, .ref z11, .ref z12, .ref z13, .ref z14, .ref z15, .ref z16, .ref z17, .ref z18, .ref z19, .int 0, .int 0, .ref z22, .ref z23, .ref z24, .ref z25, .ref z26, .ref z27, .ref z28, .ref z29, .ref z30, .ref z31, .ref z32, .ref z33, .int 0, .long 0, .ref z36, .ref z37, .ref z38, .ref z39, .ref z40, .ref z41, .ref z42, .ref z43, .ref z44, .ref z45, .ref z46, .ref z47, .ref z48, .int 0, .int 10, .int 0, .int 0, .int 0, .int 0, .ref z55, .ref z56, .int 0, .int 0, .ref z59, .ref z60, .ref z61, .int 0, .long x_1406])), (z10, .inl (γ.2.1 0, 10, .inl fa)), (z43, .inl (γ.2.1 0, 133, .inl fs)), (z44, .inl (γ.2.1 0, 133, .inl fd))] s H locs := hw
  refine lv_aload_n hx hb dX12_lives_55 rfl (lv_at hl 0 rfl) ?_
  refine lv_aload_n hx hb dX12_lives_56 rfl (lv_at hl 0 rfl) ?_
  refine fg_RX12_13 hC hw 0 rfl rfl dX12_lives_57 ?_
  refine lv_iconst (v := 2) hx hb dX12_lives_60 (by decide) ?_
  refine k_iald hC hw 1 rfl (k_in0 (by decide)) dX12_lives_61 ?_
  refine lv_topi (fun x_1407 ex_1407 => ?_)
  obtain rfl : x_1407 = 10 := (show x_1407 = fa 2 from ex_1407).trans ha2
  refine fs_RX12_120 hC hw 0 rfl rfl rfl (Nat.le_of_ble_eq_true rfl) dX12_lives_62 (fun H locs hw => ?_)
  have hw : kW γ A [(z, .inr (11, [.int 0, .int 0, .ref z2, .int 0, .int 0, .int 0, .int 0, .long 0, .int 0, .int 0, .ref z10, .ref z11, .ref z12, .ref z13, .ref z14, .ref z15, .ref z16, .ref z17, .ref z18, .ref z19, .int 0, .int 0, .ref z22, .ref z23, .ref z24, .ref z25, .ref z26, .ref z27, .ref z28, .ref z29, .ref z30, .ref z31, .ref z32, .ref z33, .int 0, .long 0, .ref z36, .ref z37, .ref z38, .ref z39, .ref z40, .ref z41, .ref z42, .ref z43, .ref z44, .ref z45, .ref z46, .ref z47, .ref z48, .int 0, .int 10, .int 0, .int 0, .int 0, .int 0, .ref z55, .ref z56, .int 0, .int 0, .ref z59, .ref z60, .ref z61, .int 0, .long x_1406])), (z10, .inl (γ.2.1 0, 10, .inl fa)), (z43, .inl (γ.2.1 0, 133, .inl fs)), (z44, .inl (γ.2.1 0, 133, .inl fd))] s H locs := hw
  refine lv_aload_n hx hb dX12_lives_65 rfl (lv_at hl 0 rfl) ?_
  refine fg_RX12_102 hC hw 0 rfl rfl dX12_lives_66 ?_
  refine lv_iconst (v := 0) hx hb dX12_lives_69 (by decide) ?_
  refine lv_aload_n hx hb dX12_lives_70 rfl (lv_at hl 0 rfl) ?_
  refine fg_RX12_105 hC hw 0 rfl rfl dX12_lives_71 ?_
  refine lv_iconst (v := 0) hx hb dX12_lives_74 (by decide) ?_
  refine k_S (wr := [(z, .inr (11, [.int 0, .int 0, .ref z2, .int 0, .int 0, .int 0, .int 0, .long 0, .int 0, .int 0, .ref z10, .ref z11, .ref z12, .ref z13, .ref z14, .ref z15, .ref z16, .ref z17, .ref z18, .ref z19, .int 0, .int 0, .ref z22, .ref z23, .ref z24, .ref z25, .ref z26, .ref z27, .ref z28, .ref z29, .ref z30, .ref z31, .ref z32, .ref z33, .int 0, .long 0, .ref z36, .ref z37, .ref z38, .ref z39, .ref z40, .ref z41, .ref z42, .ref z43, .ref z44, .ref z45, .ref z46, .ref z47, .ref z48, .int 0, .int 10, .int 0, .int 0, .int 0, .int 0, .ref z55, .ref z56, .int 0, .int 0, .ref z59, .ref z60, .ref z61, .int 0, .long x_1406])), (z10, .inl (γ.2.1 0, 10, .inl fa))]) 4 gw_1593 gw_1594 gw_15 gw_1595 hd_X12_copies hC hw (c_X12_copies γ l z43 133 fs 0 z44 133 fd 0 (by decide) (by decide) (by decide) (by decide)) ⟨by decide, by decide⟩ ⟨by decide, by decide⟩ hl.1 rfl rfl (Nat.le_of_ble_eq_true rfl) [2, 3] [0, 1] rfl rfl rfl rfl (by decide) dX12_lives_75 (fun r w1 H locs hq hw => ?_)
  obtain ⟨f9_1408, rfl, rfl⟩ := hq
  have hw : kW γ A [(z, .inr (11, [.int 0, .int 0, .ref z2, .int 0, .int 0, .int 0, .int 0, .long 0, .int 0, .int 0, .ref z10, .ref z11, .ref z12, .ref z13, .ref z14, .ref z15, .ref z16, .ref z17, .ref z18, .ref z19, .int 0, .int 0, .ref z22, .ref z23, .ref z24, .ref z25, .ref z26, .ref z27, .ref z28, .ref z29, .ref z30, .ref z31, .ref z32, .ref z33, .int 0, .long 0, .ref z36, .ref z37, .ref z38, .ref z39, .ref z40, .ref z41, .ref z42, .ref z43, .ref z44, .ref z45, .ref z46, .ref z47, .ref z48, .int 0, .int 10, .int 0, .int 0, .int 0, .int 0, .ref z55, .ref z56, .int 0, .int 0, .ref z59, .ref z60, .ref z61, .int 0, .long x_1406])), (z10, .inl (γ.2.1 0, 10, .inl fa)), (z43, .inl (γ.2.1 0, 133, .inl fs)), (z44, .inl (γ.2.1 0, 133, .inl f9_1408))] s H locs := hw
  refine W.eq (g2 := F0 m 78 ls []) rfl ?_
  refine lv_iconst (v := 0) hx hb dX12_lives_78 (by decide) ?_
  refine lv_istore (lv' := [(4, .int 0), (0, .ref z), (1, .int sd), (2, .int sp), (3, .int 1)]) hx hb dX12_lives_79 hl (by decide) rfl (fun ls hl => ?_)
  refine lv_iconst (v := 0) hx hb dX12_lives_81 (by decide) ?_
  refine lv_istore (lv' := [(5, .int 0), (4, .int 0), (0, .ref z), (1, .int sd), (2, .int sp), (3, .int 1)]) hx hb dX12_lives_82 hl (by decide) rfl (fun ls hl => ?_)
  refine lv_iload hx hb dX12_lives_84 (lv_at hl 0 rfl) ?_
  refine lv_iload_n hx hb dX12_lives_86 rfl (lv_at hl 4 rfl) ?_
  refine lv_icmp_ge (tgt := 123) hx hb dX12_lives_87 (by decide) (fun h => absurd h (fun h9 => hs2 (Int32.lt_of_le_of_lt h9 (by decide)))) (fun _ => ?_)
  refine lv_aload_n hx hb dX12_lives_90 rfl (lv_at hl 2 rfl) ?_
  refine fg_RX12_13 hC hw 0 rfl rfl dX12_lives_91 ?_
  refine lv_iconst (v := 1) hx hb dX12_lives_94 (by decide) ?_
  refine k_iald hC hw 1 rfl (k_in0 (by decide)) dX12_lives_95 ?_
  refine lv_topi (fun x_1409 ex_1409 => ?_)
  obtain rfl : x_1409 = 0 := (show x_1409 = fa 1 from ex_1409).trans ha1
  refine lv_if_le (tgt := 123) hx hb dX12_lives_96 (by decide) (fun _ => ?_) (fun h => absurd (by decide) h)
  refine lv_aload_n hx hb dX12_lives_123 rfl (lv_at hl 2 rfl) ?_
  refine k_V (wr := [(z43, .inl (γ.2.1 0, 133, .inl fs)), (z44, .inl (γ.2.1 0, 133, .inl f9_1408))]) 0 gw_1720 gw_1722 gp_105 gw_15 gw_1723 hd_X12_whoRan hC hw (c_X12_whoRan γ l z z2 z10 z11 z12 z13 z14 z15 z16 z17 z18 z19 z22 z23 z24 z25 z26 z27 z28 z29 z30 z31 z32 z33 z36 z37 z38 z39 z40 z41 z42 z43 z44 z45 z46 z47 z48 z55 z56 z59 z60 z61 0 0 0 0 0 0 0 0 0 0 0 0 0 0 10 0 0 0 0 0 0 0 x_1406 fa ha0 ha1 ha2 ha3 ha4) ⟨by decide, by decide⟩ ⟨by decide, by decide⟩ hl.1 rfl 0 rfl rfl rfl (Nat.le_of_ble_eq_true rfl) [0, 1] [2, 3] rfl rfl rfl rfl (by decide) dX12_lives_124 (fun r w1 H locs hq hw => ?_)
  obtain ⟨rfl, rfl⟩ := hq
  have hw : kW γ A [(z43, .inl (γ.2.1 0, 133, .inl fs)), (z44, .inl (γ.2.1 0, 133, .inl f9_1408)), (z, .inr (11, [.int 0, .int 0, .ref z2, .int 0, .int 0, .int 0, .int 0, .long 0, .int 0, .int 0, .ref z10, .ref z11, .ref z12, .ref z13, .ref z14, .ref z15, .ref z16, .ref z17, .ref z18, .ref z19, .int 0, .int 0, .ref z22, .ref z23, .ref z24, .ref z25, .ref z26, .ref z27, .ref z28, .ref z29, .ref z30, .ref z31, .ref z32, .ref z33, .int 0, .long 0, .ref z36, .ref z37, .ref z38, .ref z39, .ref z40, .ref z41, .ref z42, .ref z43, .ref z44, .ref z45, .ref z46, .ref z47, .ref z48, .int 0, .int 10, .int 0, .int 0, .int 0, .int 0, .ref z55, .ref z56, .int 0, .int 0, .ref z59, .ref z60, .ref z61, .int 0, .long x_1406])), (z10, .inl (γ.2.1 0, 10, .inl fa))] s H locs := hw
  refine W.eq (g2 := F0 m 127 ls [.int 0]) rfl ?_
  refine lv_istore (lv' := [(5, .int 0), (4, .int 0), (0, .ref z), (1, .int sd), (2, .int sp), (3, .int 1)]) hx hb dX12_lives_127 hl (by decide) rfl (fun ls hl => ?_)
  refine lv_aload_n hx hb dX12_lives_129 rfl (lv_at hl 2 rfl) ?_
  refine k_V (wr := [(z43, .inl (γ.2.1 0, 133, .inl fs)), (z44, .inl (γ.2.1 0, 133, .inl f9_1408))]) 0 gw_1668 gw_1670 gp_100 gw_15 gw_1671 hd_X12_gainedByAll hC hw (c_X12_gainedByAll γ l z z2 z10 z11 z12 z13 z14 z15 z16 z17 z18 z19 z22 z23 z24 z25 z26 z27 z28 z29 z30 z31 z32 z33 z36 z37 z38 z39 z40 z41 z42 z43 z44 z45 z46 z47 z48 z55 z56 z59 z60 z61 0 0 0 0 0 0 0 0 0 0 0 0 0 0 10 0 0 0 0 0 0 0 x_1406 fa ha0 ha1 ha2 ha3 ha4) ⟨by decide, by decide⟩ ⟨by decide, by decide⟩ hl.1 rfl 2 rfl rfl rfl (Nat.le_of_ble_eq_true rfl) [2, 3] [0, 1] rfl rfl rfl rfl (by decide) dX12_lives_130 (fun r w1 H locs hq hw => ?_)
  obtain ⟨rfl, rfl⟩ := hq
  have hw : kW γ A [(z43, .inl (γ.2.1 0, 133, .inl fs)), (z44, .inl (γ.2.1 0, 133, .inl f9_1408)), (z, .inr (11, [.int 0, .int 0, .ref z2, .int 0, .int 0, .int 0, .int 0, .long 0, .int 0, .int 0, .ref z10, .ref z11, .ref z12, .ref z13, .ref z14, .ref z15, .ref z16, .ref z17, .ref z18, .ref z19, .int 0, .int 0, .ref z22, .ref z23, .ref z24, .ref z25, .ref z26, .ref z27, .ref z28, .ref z29, .ref z30, .ref z31, .ref z32, .ref z33, .int 0, .long 0, .ref z36, .ref z37, .ref z38, .ref z39, .ref z40, .ref z41, .ref z42, .ref z43, .ref z44, .ref z45, .ref z46, .ref z47, .ref z48, .int 0, .int 10, .int 0, .int 0, .int 0, .int 0, .ref z55, .ref z56, .int 0, .int 0, .ref z59, .ref z60, .ref z61, .int 0, .long x_1406])), (z10, .inl (γ.2.1 0, 10, .inl fa))] s H locs := hw
  refine W.eq (g2 := F0 m 133 ls [.int 0]) rfl ?_
  refine lv_istore (lv' := [(6, .int 0), (5, .int 0), (4, .int 0), (0, .ref z), (1, .int sd), (2, .int sp), (3, .int 1)]) hx hb dX12_lives_133 hl (by decide) rfl (fun ls hl => ?_)
  refine lv_aload_n hx hb dX12_lives_135 rfl (lv_at hl 3 rfl) ?_
  refine fg_RX12_105 hC hw 2 rfl rfl dX12_lives_136 ?_
  refine lv_iconst (v := 0) hx hb dX12_lives_139 (by decide) ?_
  refine lv_aload_n hx hb dX12_lives_140 rfl (lv_at hl 3 rfl) ?_
  refine fg_RX12_102 hC hw 2 rfl rfl dX12_lives_141 ?_
  refine lv_iconst (v := 0) hx hb dX12_lives_144 (by decide) ?_
  refine k_S (wr := [(z, .inr (11, [.int 0, .int 0, .ref z2, .int 0, .int 0, .int 0, .int 0, .long 0, .int 0, .int 0, .ref z10, .ref z11, .ref z12, .ref z13, .ref z14, .ref z15, .ref z16, .ref z17, .ref z18, .ref z19, .int 0, .int 0, .ref z22, .ref z23, .ref z24, .ref z25, .ref z26, .ref z27, .ref z28, .ref z29, .ref z30, .ref z31, .ref z32, .ref z33, .int 0, .long 0, .ref z36, .ref z37, .ref z38, .ref z39, .ref z40, .ref z41, .ref z42, .ref z43, .ref z44, .ref z45, .ref z46, .ref z47, .ref z48, .int 0, .int 10, .int 0, .int 0, .int 0, .int 0, .ref z55, .ref z56, .int 0, .int 0, .ref z59, .ref z60, .ref z61, .int 0, .long x_1406])), (z10, .inl (γ.2.1 0, 10, .inl fa))]) 4 gw_1593 gw_1594 gw_15 gw_1595 hd_X12_copies hC hw (c_X12_copies γ l z44 133 f9_1408 0 z43 133 fs 0 (by decide) (by decide) (by decide) (by decide)) ⟨by decide, by decide⟩ ⟨by decide, by decide⟩ hl.1 rfl rfl (Nat.le_of_ble_eq_true rfl) [1, 0] [2, 3] rfl rfl rfl rfl (by decide) dX12_lives_145 (fun r w1 H locs hq hw => ?_)
  obtain ⟨f9_1410, rfl, rfl⟩ := hq
  have hw : kW γ A [(z, .inr (11, [.int 0, .int 0, .ref z2, .int 0, .int 0, .int 0, .int 0, .long 0, .int 0, .int 0, .ref z10, .ref z11, .ref z12, .ref z13, .ref z14, .ref z15, .ref z16, .ref z17, .ref z18, .ref z19, .int 0, .int 0, .ref z22, .ref z23, .ref z24, .ref z25, .ref z26, .ref z27, .ref z28, .ref z29, .ref z30, .ref z31, .ref z32, .ref z33, .int 0, .long 0, .ref z36, .ref z37, .ref z38, .ref z39, .ref z40, .ref z41, .ref z42, .ref z43, .ref z44, .ref z45, .ref z46, .ref z47, .ref z48, .int 0, .int 10, .int 0, .int 0, .int 0, .int 0, .ref z55, .ref z56, .int 0, .int 0, .ref z59, .ref z60, .ref z61, .int 0, .long x_1406])), (z10, .inl (γ.2.1 0, 10, .inl fa)), (z44, .inl (γ.2.1 0, 133, .inl f9_1408)), (z43, .inl (γ.2.1 0, 133, .inl f9_1410))] s H locs := hw
  refine W.eq (g2 := F0 m 148 ls []) rfl ?_
  refine lv_iload_n hx hb dX12_lives_148 rfl (lv_at hl 6 rfl) ?_
  refine lv_if_ne (tgt := 157) hx hb dX12_lives_149 (by decide) (fun _ => ?_) (fun h => absurd h (by decide))
  refine lv_iload_n hx hb dX12_lives_157 rfl (lv_at hl 6 rfl) ?_
  refine lv_iconst (v := 1) hx hb dX12_lives_158 (by decide) ?_
  refine lv_icmp_ne (tgt := 167) hx hb dX12_lives_159 (by decide) (fun h => absurd rfl h) (fun _ => ?_)
  refine lv_iload hx hb dX12_lives_162 (lv_at hl 1 rfl) ?_
  refine lv_goto (tgt := 174) hx hb dX12_lives_164 (by decide) ?_
  exact k_iret hC hr hlocks hw [0] rfl rfl ⟨x_1406, rfl, rfl⟩ (by decide) (by decide) dX12_lives_174

set_option maxHeartbeats 4000000 in
set_option maxRecDepth 100000 in
theorem c_X12_lives_2 (γ : kΓ) (l : Launch) (z : Nat) (z2 : Nat) (z10 : Nat) (z11 : Nat) (z12 : Nat) (z13 : Nat) (z14 : Nat) (z15 : Nat) (z16 : Nat) (z17 : Nat) (z18 : Nat) (z19 : Nat) (z22 : Nat) (z23 : Nat) (z24 : Nat) (z25 : Nat) (z26 : Nat) (z27 : Nat) (z28 : Nat) (z29 : Nat) (z30 : Nat) (z31 : Nat) (z32 : Nat) (z33 : Nat) (z36 : Nat) (z37 : Nat) (z38 : Nat) (z39 : Nat) (z40 : Nat) (z41 : Nat) (z42 : Nat) (z43 : Nat) (z44 : Nat) (z45 : Nat) (z46 : Nat) (z47 : Nat) (z48 : Nat) (z55 : Nat) (z56 : Nat) (z59 : Nat) (z60 : Nat) (z61 : Nat) (fa : Nat → Int32) (sd : Int32) (sp : Int32) (fs : Nat → Int32) (fd : Nat → Int32) (ha0 : fa 0 = 0) (ha1 : fa 1 = 0) (ha2 : fa 2 = 10) (ha3 : fa 3 = 10) (ha4 : fa 4 = 3) (hs0 : ¬ sd < 0) (hs1 : ¬ 9999 < sd) (hs2 : ¬ sp < 1) (hs3 : ¬ 99 < sp) : kM γ l yX12_lives cX12_lives 7 ((some .int)) ({ frames := 1, cells := 0, slots := 0, locals := 24 } : Room) [.ref z, .int sd, .int sp, .int 2] [(z, .inr (11, [.int 0, .int 0, .ref z2, .int 0, .int 0, .int 0, .int 0, .long 0, .int 0, .int 0, .ref z10, .ref z11, .ref z12, .ref z13, .ref z14, .ref z15, .ref z16, .ref z17, .ref z18, .ref z19, .int 0, .int 0, .ref z22, .ref z23, .ref z24, .ref z25, .ref z26, .ref z27, .ref z28, .ref z29, .ref z30, .ref z31, .ref z32, .ref z33, .int 0, .long 0, .ref z36, .ref z37, .ref z38, .ref z39, .ref z40, .ref z41, .ref z42, .ref z43, .ref z44, .ref z45, .ref z46, .ref z47, .ref z48, .int 0, .int 10, .int 0, .int 0, .int 0, .int 0, .ref z55, .ref z56, .int 0, .int 0, .ref z59, .ref z60, .ref z61, .int 0, .long 0])), (z10, .inl (γ.2.1 0, 10, .inl fa)), (z43, .inl (γ.2.1 0, 133, .inl fs)), (z44, .inl (γ.2.1 0, 133, .inl fd))] (fun r w1 => ∃ (gx : Int64), r = some (.int 0) ∧ w1 = [(z, .inr (11, [.int 0, .int 0, .ref z2, .int 0, .int 0, .int 0, .int 0, .long 0, .int 0, .int 0, .ref z10, .ref z11, .ref z12, .ref z13, .ref z14, .ref z15, .ref z16, .ref z17, .ref z18, .ref z19, .int 0, .int 0, .ref z22, .ref z23, .ref z24, .ref z25, .ref z26, .ref z27, .ref z28, .ref z29, .ref z30, .ref z31, .ref z32, .ref z33, .int 0, .long 0, .ref z36, .ref z37, .ref z38, .ref z39, .ref z40, .ref z41, .ref z42, .ref z43, .ref z44, .ref z45, .ref z46, .ref z47, .ref z48, .int 0, .int 10, .int 0, .int 0, .int 0, .int 0, .ref z55, .ref z56, .int 0, .int 0, .ref z59, .ref z60, .ref z61, .int 0, .long gx]))]) := by
  refine k_ofW (by decide) (Nat.le_of_ble_eq_true rfl) ?_
  intro p e s m below meth c A ls hC hr hlocks hname hw hl
  have hx := hC.1
  have hb := hC.2.1
  have hl : lv_has ls 7 [(0, .ref z), (1, .int sd), (2, .int sp), (3, .int 2)] := hl
  refine lv_aload_n hx hb dX12_lives_0 rfl (lv_at hl 0 rfl) ?_
  refine lv_iload_n hx hb dX12_lives_1 rfl (lv_at hl 1 rfl) ?_
  refine lv_iconst (v := 0) hx hb dX12_lives_2 (by decide) ?_
  refine lv_sipush (v := 9999) hx hb dX12_lives_3 (by decide) ?_
  refine k_S (wr := [(z, .inr (11, [.int 0, .int 0, .ref z2, .int 0, .int 0, .int 0, .int 0, .long 0, .int 0, .int 0, .ref z10, .ref z11, .ref z12, .ref z13, .ref z14, .ref z15, .ref z16, .ref z17, .ref z18, .ref z19, .int 0, .int 0, .ref z22, .ref z23, .ref z24, .ref z25, .ref z26, .ref z27, .ref z28, .ref z29, .ref z30, .ref z31, .ref z32, .ref z33, .int 0, .long 0, .ref z36, .ref z37, .ref z38, .ref z39, .ref z40, .ref z41, .ref z42, .ref z43, .ref z44, .ref z45, .ref z46, .ref z47, .ref z48, .int 0, .int 10, .int 0, .int 0, .int 0, .int 0, .ref z55, .ref z56, .int 0, .int 0, .ref z59, .ref z60, .ref z61, .int 0, .long 0])), (z10, .inl (γ.2.1 0, 10, .inl fa)), (z43, .inl (γ.2.1 0, 133, .inl fs)), (z44, .inl (γ.2.1 0, 133, .inl fd))]) 3 gw_1472 gw_1473 gw_15 gw_1474 hd_X12_within hC hw (c_within_t γ l sd 0 9999 hs0 hs1) ⟨by decide, by decide⟩ ⟨by decide, by decide⟩ hl.1 rfl rfl (Nat.le_of_ble_eq_true rfl) [] [0, 1, 2, 3] rfl rfl rfl rfl (by decide) dX12_lives_6 (fun r w1 H locs hq hw => ?_)
  obtain ⟨rfl, rfl⟩ := hq
  have hw : kW γ A [(z, .inr (11, [.int 0, .int 0, .ref z2, .int 0, .int 0, .int 0, .int 0, .long 0, .int 0, .int 0, .ref z10, .ref z11, .ref z12, .ref z13, .ref z14, .ref z15, .ref z16, .ref z17, .ref z18, .ref z19, .int 0, .int 0, .ref z22, .ref z23, .ref z24, .ref z25, .ref z26, .ref z27, .ref z28, .ref z29, .ref z30, .ref z31, .ref z32, .ref z33, .int 0, .long 0, .ref z36, .ref z37, .ref z38, .ref z39, .ref z40, .ref z41, .ref z42, .ref z43, .ref z44, .ref z45, .ref z46, .ref z47, .ref z48, .int 0, .int 10, .int 0, .int 0, .int 0, .int 0, .ref z55, .ref z56, .int 0, .int 0, .ref z59, .ref z60, .ref z61, .int 0, .long 0])), (z10, .inl (γ.2.1 0, 10, .inl fa)), (z43, .inl (γ.2.1 0, 133, .inl fs)), (z44, .inl (γ.2.1 0, 133, .inl fd))] s H locs := hw
  refine W.eq (g2 := F0 m 9 ls [.int 1, .ref z]) rfl ?_
  refine lv_if_eq (tgt := 35) hx hb dX12_lives_9 (by decide) (fun h => absurd h (by decide)) (fun _ => ?_)
  refine lv_iload_n hx hb dX12_lives_12 rfl (lv_at hl 2 rfl) ?_
  refine lv_iconst (v := 1) hx hb dX12_lives_13 (by decide) ?_
  refine lv_bipush (v := 99) hx hb dX12_lives_14 (by decide) ?_
  refine k_S (wr := [(z, .inr (11, [.int 0, .int 0, .ref z2, .int 0, .int 0, .int 0, .int 0, .long 0, .int 0, .int 0, .ref z10, .ref z11, .ref z12, .ref z13, .ref z14, .ref z15, .ref z16, .ref z17, .ref z18, .ref z19, .int 0, .int 0, .ref z22, .ref z23, .ref z24, .ref z25, .ref z26, .ref z27, .ref z28, .ref z29, .ref z30, .ref z31, .ref z32, .ref z33, .int 0, .long 0, .ref z36, .ref z37, .ref z38, .ref z39, .ref z40, .ref z41, .ref z42, .ref z43, .ref z44, .ref z45, .ref z46, .ref z47, .ref z48, .int 0, .int 10, .int 0, .int 0, .int 0, .int 0, .ref z55, .ref z56, .int 0, .int 0, .ref z59, .ref z60, .ref z61, .int 0, .long 0])), (z10, .inl (γ.2.1 0, 10, .inl fa)), (z43, .inl (γ.2.1 0, 133, .inl fs)), (z44, .inl (γ.2.1 0, 133, .inl fd))]) 3 gw_1472 gw_1473 gw_15 gw_1474 hd_X12_within hC hw (c_within_t γ l sp 1 99 hs2 hs3) ⟨by decide, by decide⟩ ⟨by decide, by decide⟩ hl.1 rfl rfl (Nat.le_of_ble_eq_true rfl) [] [0, 1, 2, 3] rfl rfl rfl rfl (by decide) dX12_lives_16 (fun r w1 H locs hq hw => ?_)
  obtain ⟨rfl, rfl⟩ := hq
  have hw : kW γ A [(z, .inr (11, [.int 0, .int 0, .ref z2, .int 0, .int 0, .int 0, .int 0, .long 0, .int 0, .int 0, .ref z10, .ref z11, .ref z12, .ref z13, .ref z14, .ref z15, .ref z16, .ref z17, .ref z18, .ref z19, .int 0, .int 0, .ref z22, .ref z23, .ref z24, .ref z25, .ref z26, .ref z27, .ref z28, .ref z29, .ref z30, .ref z31, .ref z32, .ref z33, .int 0, .long 0, .ref z36, .ref z37, .ref z38, .ref z39, .ref z40, .ref z41, .ref z42, .ref z43, .ref z44, .ref z45, .ref z46, .ref z47, .ref z48, .int 0, .int 10, .int 0, .int 0, .int 0, .int 0, .ref z55, .ref z56, .int 0, .int 0, .ref z59, .ref z60, .ref z61, .int 0, .long 0])), (z10, .inl (γ.2.1 0, 10, .inl fa)), (z43, .inl (γ.2.1 0, 133, .inl fs)), (z44, .inl (γ.2.1 0, 133, .inl fd))] s H locs := hw
  refine W.eq (g2 := F0 m 19 ls [.int 1, .ref z]) rfl ?_
  refine lv_if_eq (tgt := 35) hx hb dX12_lives_19 (by decide) (fun h => absurd h (by decide)) (fun _ => ?_)
  refine lv_iload_n hx hb dX12_lives_22 rfl (lv_at hl 3 rfl) ?_
  refine lv_iconst (v := 0) hx hb dX12_lives_23 (by decide) ?_
  refine lv_iconst (v := 2) hx hb dX12_lives_24 (by decide) ?_
  refine k_S (wr := [(z, .inr (11, [.int 0, .int 0, .ref z2, .int 0, .int 0, .int 0, .int 0, .long 0, .int 0, .int 0, .ref z10, .ref z11, .ref z12, .ref z13, .ref z14, .ref z15, .ref z16, .ref z17, .ref z18, .ref z19, .int 0, .int 0, .ref z22, .ref z23, .ref z24, .ref z25, .ref z26, .ref z27, .ref z28, .ref z29, .ref z30, .ref z31, .ref z32, .ref z33, .int 0, .long 0, .ref z36, .ref z37, .ref z38, .ref z39, .ref z40, .ref z41, .ref z42, .ref z43, .ref z44, .ref z45, .ref z46, .ref z47, .ref z48, .int 0, .int 10, .int 0, .int 0, .int 0, .int 0, .ref z55, .ref z56, .int 0, .int 0, .ref z59, .ref z60, .ref z61, .int 0, .long 0])), (z10, .inl (γ.2.1 0, 10, .inl fa)), (z43, .inl (γ.2.1 0, 133, .inl fs)), (z44, .inl (γ.2.1 0, 133, .inl fd))]) 3 gw_1472 gw_1473 gw_15 gw_1474 hd_X12_within hC hw (c_within_t γ l 2 0 2 (by decide) (by decide)) ⟨by decide, by decide⟩ ⟨by decide, by decide⟩ hl.1 rfl rfl (Nat.le_of_ble_eq_true rfl) [] [0, 1, 2, 3] rfl rfl rfl rfl (by decide) dX12_lives_25 (fun r w1 H locs hq hw => ?_)
  obtain ⟨rfl, rfl⟩ := hq
  have hw : kW γ A [(z, .inr (11, [.int 0, .int 0, .ref z2, .int 0, .int 0, .int 0, .int 0, .long 0, .int 0, .int 0, .ref z10, .ref z11, .ref z12, .ref z13, .ref z14, .ref z15, .ref z16, .ref z17, .ref z18, .ref z19, .int 0, .int 0, .ref z22, .ref z23, .ref z24, .ref z25, .ref z26, .ref z27, .ref z28, .ref z29, .ref z30, .ref z31, .ref z32, .ref z33, .int 0, .long 0, .ref z36, .ref z37, .ref z38, .ref z39, .ref z40, .ref z41, .ref z42, .ref z43, .ref z44, .ref z45, .ref z46, .ref z47, .ref z48, .int 0, .int 10, .int 0, .int 0, .int 0, .int 0, .ref z55, .ref z56, .int 0, .int 0, .ref z59, .ref z60, .ref z61, .int 0, .long 0])), (z10, .inl (γ.2.1 0, 10, .inl fa)), (z43, .inl (γ.2.1 0, 133, .inl fs)), (z44, .inl (γ.2.1 0, 133, .inl fd))] s H locs := hw
  refine W.eq (g2 := F0 m 28 ls [.int 1, .ref z]) rfl ?_
  refine lv_if_eq (tgt := 35) hx hb dX12_lives_28 (by decide) (fun h => absurd h (by decide)) (fun _ => ?_)
  refine lv_iconst (v := 0) hx hb dX12_lives_31 (by decide) ?_
  refine lv_goto (tgt := 36) hx hb dX12_lives_32 (by decide) ?_
  refine fs_RX12_143 hC hw 0 rfl rfl rfl (Nat.le_of_ble_eq_true rfl) dX12_lives_36 (fun H locs hw => ?_)
  have hw : kW γ A [(z, .inr (11, [.int 0, .int 0, .ref z2, .int 0, .int 0, .int 0, .int 0, .long 0, .int 0, .int 0, .ref z10, .ref z11, .ref z12, .ref z13, .ref z14, .ref z15, .ref z16, .ref z17, .ref z18, .ref z19, .int 0, .int 0, .ref z22, .ref z23, .ref z24, .ref z25, .ref z26, .ref z27, .ref z28, .ref z29, .ref z30, .ref z31, .ref z32, .ref z33, .int 0, .long 0, .ref z36, .ref z37, .ref z38, .ref z39, .ref z40, .ref z41, .ref z42, .ref z43, .ref z44, .ref z45, .ref z46, .ref z47, .ref z48, .int 0, .int 10, .int 0, .int 0, .int 0, .int 0, .ref z55, .ref z56, .int 0, .int 0, .ref z59, .ref z60, .ref z61, .int 0, .long 0])), (z10, .inl (γ.2.1 0, 10, .inl fa)), (z43, .inl (γ.2.1 0, 133, .inl fs)), (z44, .inl (γ.2.1 0, 133, .inl fd))] s H locs := hw
  refine lv_aload_n hx hb dX12_lives_39 rfl (lv_at hl 0 rfl) ?_
  refine fg_RX12_143 hC hw 0 rfl rfl dX12_lives_40 ?_
  refine lv_iconst (v := 1) hx hb dX12_lives_43 (by decide) ?_
  refine lv_icmp_ne (tgt := 49) hx hb dX12_lives_44 (by decide) (fun _ => ?_) (fun h => absurd h (by decide))
  refine lv_aload_n hx hb dX12_lives_49 rfl (lv_at hl 0 rfl) ?_
  refine lv_iload_n hx hb dX12_lives_50 rfl (lv_at hl 1 rfl) ?_
  refine lv_i2l hx hb dX12_lives_51 rfl ?_
  refine lv_topl (fun x_1411 ex_1411 => ?_)
  refine fs_RX12_478 hC hw 0 rfl rfl rfl (Nat.le_of_ble_eq_true rfl) dX12_lives_52 (fun H locs hw => ?_)
  have hw : kW γ A [(z, .inr (11, [.int 0, .int 0, .ref z2, .int 0, .int 0, .int 0, .int 0, .long 0, .int 0, .int 0, .ref z10, .ref z11, .ref z12, .ref z13, .ref z14, .ref z15, .ref z16, .ref z17, .ref z18, .ref z19, .int 0, .int 0, .ref z22, .ref z23, .ref z24, .ref z25, .ref z26, .ref z27, .ref z28, .ref z29, .ref z30, .ref z31, .ref z32, .ref z33, .int 0, .long 0, .ref z36, .ref z37, .ref z38, .ref z39, .ref z40, .ref z41, .ref z42, .ref z43, .ref z44, .ref z45, .ref z46, .ref z47, .ref z48, .int 0, .int 10, .int 0, .int 0, .int 0, .int 0, .ref z55, .ref z56, .int 0, .int 0, .ref z59, .ref z60, .ref z61, .int 0, .long x_1411])), (z10, .inl (γ.2.1 0, 10, .inl fa)), (z43, .inl (γ.2.1 0, 133, .inl fs)), (z44, .inl (γ.2.1 0, 133, .inl fd))] s H locs := hw
  refine lv_aload_n hx hb dX12_lives_55 rfl (lv_at hl 0 rfl) ?_
  refine lv_aload_n hx hb dX12_lives_56 rfl (lv_at hl 0 rfl) ?_
  refine fg_RX12_13 hC hw 0 rfl rfl dX12_lives_57 ?_
  refine lv_iconst (v := 2) hx hb dX12_lives_60 (by decide) ?_
  refine k_iald hC hw 1 rfl (k_in0 (by decide)) dX12_lives_61 ?_
  refine lv_topi (fun x_1412 ex_1412 => ?_)
  obtain rfl : x_1412 = 10 := (show x_1412 = fa 2 from ex_1412).trans ha2
  refine fs_RX12_120 hC hw 0 rfl rfl rfl (Nat.le_of_ble_eq_true rfl) dX12_lives_62 (fun H locs hw => ?_)
  have hw : kW γ A [(z, .inr (11, [.int 0, .int 0, .ref z2, .int 0, .int 0, .int 0, .int 0, .long 0, .int 0, .int 0, .ref z10, .ref z11, .ref z12, .ref z13, .ref z14, .ref z15, .ref z16, .ref z17, .ref z18, .ref z19, .int 0, .int 0, .ref z22, .ref z23, .ref z24, .ref z25, .ref z26, .ref z27, .ref z28, .ref z29, .ref z30, .ref z31, .ref z32, .ref z33, .int 0, .long 0, .ref z36, .ref z37, .ref z38, .ref z39, .ref z40, .ref z41, .ref z42, .ref z43, .ref z44, .ref z45, .ref z46, .ref z47, .ref z48, .int 0, .int 10, .int 0, .int 0, .int 0, .int 0, .ref z55, .ref z56, .int 0, .int 0, .ref z59, .ref z60, .ref z61, .int 0, .long x_1411])), (z10, .inl (γ.2.1 0, 10, .inl fa)), (z43, .inl (γ.2.1 0, 133, .inl fs)), (z44, .inl (γ.2.1 0, 133, .inl fd))] s H locs := hw
  refine lv_aload_n hx hb dX12_lives_65 rfl (lv_at hl 0 rfl) ?_
  refine fg_RX12_102 hC hw 0 rfl rfl dX12_lives_66 ?_
  refine lv_iconst (v := 0) hx hb dX12_lives_69 (by decide) ?_
  refine lv_aload_n hx hb dX12_lives_70 rfl (lv_at hl 0 rfl) ?_
  refine fg_RX12_105 hC hw 0 rfl rfl dX12_lives_71 ?_
  refine lv_iconst (v := 0) hx hb dX12_lives_74 (by decide) ?_
  refine k_S (wr := [(z, .inr (11, [.int 0, .int 0, .ref z2, .int 0, .int 0, .int 0, .int 0, .long 0, .int 0, .int 0, .ref z10, .ref z11, .ref z12, .ref z13, .ref z14, .ref z15, .ref z16, .ref z17, .ref z18, .ref z19, .int 0, .int 0, .ref z22, .ref z23, .ref z24, .ref z25, .ref z26, .ref z27, .ref z28, .ref z29, .ref z30, .ref z31, .ref z32, .ref z33, .int 0, .long 0, .ref z36, .ref z37, .ref z38, .ref z39, .ref z40, .ref z41, .ref z42, .ref z43, .ref z44, .ref z45, .ref z46, .ref z47, .ref z48, .int 0, .int 10, .int 0, .int 0, .int 0, .int 0, .ref z55, .ref z56, .int 0, .int 0, .ref z59, .ref z60, .ref z61, .int 0, .long x_1411])), (z10, .inl (γ.2.1 0, 10, .inl fa))]) 4 gw_1593 gw_1594 gw_15 gw_1595 hd_X12_copies hC hw (c_X12_copies γ l z43 133 fs 0 z44 133 fd 0 (by decide) (by decide) (by decide) (by decide)) ⟨by decide, by decide⟩ ⟨by decide, by decide⟩ hl.1 rfl rfl (Nat.le_of_ble_eq_true rfl) [2, 3] [0, 1] rfl rfl rfl rfl (by decide) dX12_lives_75 (fun r w1 H locs hq hw => ?_)
  obtain ⟨f9_1413, rfl, rfl⟩ := hq
  have hw : kW γ A [(z, .inr (11, [.int 0, .int 0, .ref z2, .int 0, .int 0, .int 0, .int 0, .long 0, .int 0, .int 0, .ref z10, .ref z11, .ref z12, .ref z13, .ref z14, .ref z15, .ref z16, .ref z17, .ref z18, .ref z19, .int 0, .int 0, .ref z22, .ref z23, .ref z24, .ref z25, .ref z26, .ref z27, .ref z28, .ref z29, .ref z30, .ref z31, .ref z32, .ref z33, .int 0, .long 0, .ref z36, .ref z37, .ref z38, .ref z39, .ref z40, .ref z41, .ref z42, .ref z43, .ref z44, .ref z45, .ref z46, .ref z47, .ref z48, .int 0, .int 10, .int 0, .int 0, .int 0, .int 0, .ref z55, .ref z56, .int 0, .int 0, .ref z59, .ref z60, .ref z61, .int 0, .long x_1411])), (z10, .inl (γ.2.1 0, 10, .inl fa)), (z43, .inl (γ.2.1 0, 133, .inl fs)), (z44, .inl (γ.2.1 0, 133, .inl f9_1413))] s H locs := hw
  refine W.eq (g2 := F0 m 78 ls []) rfl ?_
  refine lv_iconst (v := 0) hx hb dX12_lives_78 (by decide) ?_
  refine lv_istore (lv' := [(4, .int 0), (0, .ref z), (1, .int sd), (2, .int sp), (3, .int 2)]) hx hb dX12_lives_79 hl (by decide) rfl (fun ls hl => ?_)
  refine lv_iconst (v := 0) hx hb dX12_lives_81 (by decide) ?_
  refine lv_istore (lv' := [(5, .int 0), (4, .int 0), (0, .ref z), (1, .int sd), (2, .int sp), (3, .int 2)]) hx hb dX12_lives_82 hl (by decide) rfl (fun ls hl => ?_)
  refine lv_iload hx hb dX12_lives_84 (lv_at hl 0 rfl) ?_
  refine lv_iload_n hx hb dX12_lives_86 rfl (lv_at hl 4 rfl) ?_
  refine lv_icmp_ge (tgt := 123) hx hb dX12_lives_87 (by decide) (fun h => absurd h (fun h9 => hs2 (Int32.lt_of_le_of_lt h9 (by decide)))) (fun _ => ?_)
  refine lv_aload_n hx hb dX12_lives_90 rfl (lv_at hl 2 rfl) ?_
  refine fg_RX12_13 hC hw 0 rfl rfl dX12_lives_91 ?_
  refine lv_iconst (v := 1) hx hb dX12_lives_94 (by decide) ?_
  refine k_iald hC hw 1 rfl (k_in0 (by decide)) dX12_lives_95 ?_
  refine lv_topi (fun x_1414 ex_1414 => ?_)
  obtain rfl : x_1414 = 0 := (show x_1414 = fa 1 from ex_1414).trans ha1
  refine lv_if_le (tgt := 123) hx hb dX12_lives_96 (by decide) (fun _ => ?_) (fun h => absurd (by decide) h)
  refine lv_aload_n hx hb dX12_lives_123 rfl (lv_at hl 2 rfl) ?_
  refine k_V (wr := [(z43, .inl (γ.2.1 0, 133, .inl fs)), (z44, .inl (γ.2.1 0, 133, .inl f9_1413))]) 0 gw_1720 gw_1722 gp_105 gw_15 gw_1723 hd_X12_whoRan hC hw (c_X12_whoRan γ l z z2 z10 z11 z12 z13 z14 z15 z16 z17 z18 z19 z22 z23 z24 z25 z26 z27 z28 z29 z30 z31 z32 z33 z36 z37 z38 z39 z40 z41 z42 z43 z44 z45 z46 z47 z48 z55 z56 z59 z60 z61 0 0 0 0 0 0 0 0 0 0 0 0 0 0 10 0 0 0 0 0 0 0 x_1411 fa ha0 ha1 ha2 ha3 ha4) ⟨by decide, by decide⟩ ⟨by decide, by decide⟩ hl.1 rfl 0 rfl rfl rfl (Nat.le_of_ble_eq_true rfl) [0, 1] [2, 3] rfl rfl rfl rfl (by decide) dX12_lives_124 (fun r w1 H locs hq hw => ?_)
  obtain ⟨rfl, rfl⟩ := hq
  have hw : kW γ A [(z43, .inl (γ.2.1 0, 133, .inl fs)), (z44, .inl (γ.2.1 0, 133, .inl f9_1413)), (z, .inr (11, [.int 0, .int 0, .ref z2, .int 0, .int 0, .int 0, .int 0, .long 0, .int 0, .int 0, .ref z10, .ref z11, .ref z12, .ref z13, .ref z14, .ref z15, .ref z16, .ref z17, .ref z18, .ref z19, .int 0, .int 0, .ref z22, .ref z23, .ref z24, .ref z25, .ref z26, .ref z27, .ref z28, .ref z29, .ref z30, .ref z31, .ref z32, .ref z33, .int 0, .long 0, .ref z36, .ref z37, .ref z38, .ref z39, .ref z40, .ref z41, .ref z42, .ref z43, .ref z44, .ref z45, .ref z46, .ref z47, .ref z48, .int 0, .int 10, .int 0, .int 0, .int 0, .int 0, .ref z55, .ref z56, .int 0, .int 0, .ref z59, .ref z60, .ref z61, .int 0, .long x_1411])), (z10, .inl (γ.2.1 0, 10, .inl fa))] s H locs := hw
  refine W.eq (g2 := F0 m 127 ls [.int 0]) rfl ?_
  refine lv_istore (lv' := [(5, .int 0), (4, .int 0), (0, .ref z), (1, .int sd), (2, .int sp), (3, .int 2)]) hx hb dX12_lives_127 hl (by decide) rfl (fun ls hl => ?_)
  refine lv_aload_n hx hb dX12_lives_129 rfl (lv_at hl 2 rfl) ?_
  refine k_V (wr := [(z43, .inl (γ.2.1 0, 133, .inl fs)), (z44, .inl (γ.2.1 0, 133, .inl f9_1413))]) 0 gw_1668 gw_1670 gp_100 gw_15 gw_1671 hd_X12_gainedByAll hC hw (c_X12_gainedByAll γ l z z2 z10 z11 z12 z13 z14 z15 z16 z17 z18 z19 z22 z23 z24 z25 z26 z27 z28 z29 z30 z31 z32 z33 z36 z37 z38 z39 z40 z41 z42 z43 z44 z45 z46 z47 z48 z55 z56 z59 z60 z61 0 0 0 0 0 0 0 0 0 0 0 0 0 0 10 0 0 0 0 0 0 0 x_1411 fa ha0 ha1 ha2 ha3 ha4) ⟨by decide, by decide⟩ ⟨by decide, by decide⟩ hl.1 rfl 2 rfl rfl rfl (Nat.le_of_ble_eq_true rfl) [2, 3] [0, 1] rfl rfl rfl rfl (by decide) dX12_lives_130 (fun r w1 H locs hq hw => ?_)
  obtain ⟨rfl, rfl⟩ := hq
  have hw : kW γ A [(z43, .inl (γ.2.1 0, 133, .inl fs)), (z44, .inl (γ.2.1 0, 133, .inl f9_1413)), (z, .inr (11, [.int 0, .int 0, .ref z2, .int 0, .int 0, .int 0, .int 0, .long 0, .int 0, .int 0, .ref z10, .ref z11, .ref z12, .ref z13, .ref z14, .ref z15, .ref z16, .ref z17, .ref z18, .ref z19, .int 0, .int 0, .ref z22, .ref z23, .ref z24, .ref z25, .ref z26, .ref z27, .ref z28, .ref z29, .ref z30, .ref z31, .ref z32, .ref z33, .int 0, .long 0, .ref z36, .ref z37, .ref z38, .ref z39, .ref z40, .ref z41, .ref z42, .ref z43, .ref z44, .ref z45, .ref z46, .ref z47, .ref z48, .int 0, .int 10, .int 0, .int 0, .int 0, .int 0, .ref z55, .ref z56, .int 0, .int 0, .ref z59, .ref z60, .ref z61, .int 0, .long x_1411])), (z10, .inl (γ.2.1 0, 10, .inl fa))] s H locs := hw
  refine W.eq (g2 := F0 m 133 ls [.int 0]) rfl ?_
  refine lv_istore (lv' := [(6, .int 0), (5, .int 0), (4, .int 0), (0, .ref z), (1, .int sd), (2, .int sp), (3, .int 2)]) hx hb dX12_lives_133 hl (by decide) rfl (fun ls hl => ?_)
  refine lv_aload_n hx hb dX12_lives_135 rfl (lv_at hl 3 rfl) ?_
  refine fg_RX12_105 hC hw 2 rfl rfl dX12_lives_136 ?_
  refine lv_iconst (v := 0) hx hb dX12_lives_139 (by decide) ?_
  refine lv_aload_n hx hb dX12_lives_140 rfl (lv_at hl 3 rfl) ?_
  refine fg_RX12_102 hC hw 2 rfl rfl dX12_lives_141 ?_
  refine lv_iconst (v := 0) hx hb dX12_lives_144 (by decide) ?_
  refine k_S (wr := [(z, .inr (11, [.int 0, .int 0, .ref z2, .int 0, .int 0, .int 0, .int 0, .long 0, .int 0, .int 0, .ref z10, .ref z11, .ref z12, .ref z13, .ref z14, .ref z15, .ref z16, .ref z17, .ref z18, .ref z19, .int 0, .int 0, .ref z22, .ref z23, .ref z24, .ref z25, .ref z26, .ref z27, .ref z28, .ref z29, .ref z30, .ref z31, .ref z32, .ref z33, .int 0, .long 0, .ref z36, .ref z37, .ref z38, .ref z39, .ref z40, .ref z41, .ref z42, .ref z43, .ref z44, .ref z45, .ref z46, .ref z47, .ref z48, .int 0, .int 10, .int 0, .int 0, .int 0, .int 0, .ref z55, .ref z56, .int 0, .int 0, .ref z59, .ref z60, .ref z61, .int 0, .long x_1411])), (z10, .inl (γ.2.1 0, 10, .inl fa))]) 4 gw_1593 gw_1594 gw_15 gw_1595 hd_X12_copies hC hw (c_X12_copies γ l z44 133 f9_1413 0 z43 133 fs 0 (by decide) (by decide) (by decide) (by decide)) ⟨by decide, by decide⟩ ⟨by decide, by decide⟩ hl.1 rfl rfl (Nat.le_of_ble_eq_true rfl) [1, 0] [2, 3] rfl rfl rfl rfl (by decide) dX12_lives_145 (fun r w1 H locs hq hw => ?_)
  obtain ⟨f9_1415, rfl, rfl⟩ := hq
  have hw : kW γ A [(z, .inr (11, [.int 0, .int 0, .ref z2, .int 0, .int 0, .int 0, .int 0, .long 0, .int 0, .int 0, .ref z10, .ref z11, .ref z12, .ref z13, .ref z14, .ref z15, .ref z16, .ref z17, .ref z18, .ref z19, .int 0, .int 0, .ref z22, .ref z23, .ref z24, .ref z25, .ref z26, .ref z27, .ref z28, .ref z29, .ref z30, .ref z31, .ref z32, .ref z33, .int 0, .long 0, .ref z36, .ref z37, .ref z38, .ref z39, .ref z40, .ref z41, .ref z42, .ref z43, .ref z44, .ref z45, .ref z46, .ref z47, .ref z48, .int 0, .int 10, .int 0, .int 0, .int 0, .int 0, .ref z55, .ref z56, .int 0, .int 0, .ref z59, .ref z60, .ref z61, .int 0, .long x_1411])), (z10, .inl (γ.2.1 0, 10, .inl fa)), (z44, .inl (γ.2.1 0, 133, .inl f9_1413)), (z43, .inl (γ.2.1 0, 133, .inl f9_1415))] s H locs := hw
  refine W.eq (g2 := F0 m 148 ls []) rfl ?_
  refine lv_iload_n hx hb dX12_lives_148 rfl (lv_at hl 6 rfl) ?_
  refine lv_if_ne (tgt := 157) hx hb dX12_lives_149 (by decide) (fun _ => ?_) (fun h => absurd h (by decide))
  refine lv_iload_n hx hb dX12_lives_157 rfl (lv_at hl 6 rfl) ?_
  refine lv_iconst (v := 1) hx hb dX12_lives_158 (by decide) ?_
  refine lv_icmp_ne (tgt := 167) hx hb dX12_lives_159 (by decide) (fun _ => ?_) (fun h => absurd h (by decide))
  refine lv_iload hx hb dX12_lives_167 (lv_at hl 0 rfl) ?_
  refine lv_aload_n hx hb dX12_lives_169 rfl (lv_at hl 3 rfl) ?_
  refine k_V (wr := [(z44, .inl (γ.2.1 0, 133, .inl f9_1413)), (z43, .inl (γ.2.1 0, 133, .inl f9_1415))]) 0 gw_1668 gw_1670 gp_100 gw_15 gw_1671 hd_X12_gainedByAll hC hw (c_X12_gainedByAll γ l z z2 z10 z11 z12 z13 z14 z15 z16 z17 z18 z19 z22 z23 z24 z25 z26 z27 z28 z29 z30 z31 z32 z33 z36 z37 z38 z39 z40 z41 z42 z43 z44 z45 z46 z47 z48 z55 z56 z59 z60 z61 0 0 0 0 0 0 0 0 0 0 0 0 0 0 10 0 0 0 0 0 0 0 x_1411 fa ha0 ha1 ha2 ha3 ha4) ⟨by decide, by decide⟩ ⟨by decide, by decide⟩ hl.1 rfl 0 rfl rfl rfl (Nat.le_of_ble_eq_true rfl) [0, 1] [2, 3] rfl rfl rfl rfl (by decide) dX12_lives_170 (fun r w1 H locs hq hw => ?_)
  obtain ⟨rfl, rfl⟩ := hq
  have hw : kW γ A [(z44, .inl (γ.2.1 0, 133, .inl f9_1413)), (z43, .inl (γ.2.1 0, 133, .inl f9_1415)), (z, .inr (11, [.int 0, .int 0, .ref z2, .int 0, .int 0, .int 0, .int 0, .long 0, .int 0, .int 0, .ref z10, .ref z11, .ref z12, .ref z13, .ref z14, .ref z15, .ref z16, .ref z17, .ref z18, .ref z19, .int 0, .int 0, .ref z22, .ref z23, .ref z24, .ref z25, .ref z26, .ref z27, .ref z28, .ref z29, .ref z30, .ref z31, .ref z32, .ref z33, .int 0, .long 0, .ref z36, .ref z37, .ref z38, .ref z39, .ref z40, .ref z41, .ref z42, .ref z43, .ref z44, .ref z45, .ref z46, .ref z47, .ref z48, .int 0, .int 10, .int 0, .int 0, .int 0, .int 0, .ref z55, .ref z56, .int 0, .int 0, .ref z59, .ref z60, .ref z61, .int 0, .long x_1411])), (z10, .inl (γ.2.1 0, 10, .inl fa))] s H locs := hw
  refine W.eq (g2 := F0 m 173 ls [.int 0, .int 0]) rfl ?_
  refine lv_isub hx hb dX12_lives_173 ?_
  refine lv_topi (fun x_1416 ex_1416 => ?_)
  obtain rfl : x_1416 = 0 := ex_1416.trans (by decide)
  exact k_iret hC hr hlocks hw [2] rfl rfl ⟨x_1411, rfl, rfl⟩ (by decide) (by decide) dX12_lives_174

set_option maxHeartbeats 4000000 in
set_option maxRecDepth 100000 in
theorem c_X12_lives_a (γ : kΓ) (l : Launch) (z : Nat) (z2 : Nat) (z10 : Nat) (z11 : Nat) (z12 : Nat) (z13 : Nat) (z14 : Nat) (z15 : Nat) (z16 : Nat) (z17 : Nat) (z18 : Nat) (z19 : Nat) (z22 : Nat) (z23 : Nat) (z24 : Nat) (z25 : Nat) (z26 : Nat) (z27 : Nat) (z28 : Nat) (z29 : Nat) (z30 : Nat) (z31 : Nat) (z32 : Nat) (z33 : Nat) (z36 : Nat) (z37 : Nat) (z38 : Nat) (z39 : Nat) (z40 : Nat) (z41 : Nat) (z42 : Nat) (z43 : Nat) (z44 : Nat) (z45 : Nat) (z46 : Nat) (z47 : Nat) (z48 : Nat) (z55 : Nat) (z56 : Nat) (z59 : Nat) (z60 : Nat) (z61 : Nat) (sd : Int32) (sp : Int32) (wt : Int32) (h1 : sd < 0) : kM γ l yX12_lives cX12_lives 7 ((some .int)) ({ frames := 1, cells := 0, slots := 0, locals := 22 } : Room) [.ref z, .int sd, .int sp, .int wt] [(z, .inr (11, [.int 0, .int 0, .ref z2, .int 0, .int 0, .int 0, .int 0, .long 0, .int 0, .int 0, .ref z10, .ref z11, .ref z12, .ref z13, .ref z14, .ref z15, .ref z16, .ref z17, .ref z18, .ref z19, .int 0, .int 0, .ref z22, .ref z23, .ref z24, .ref z25, .ref z26, .ref z27, .ref z28, .ref z29, .ref z30, .ref z31, .ref z32, .ref z33, .int 0, .long 0, .ref z36, .ref z37, .ref z38, .ref z39, .ref z40, .ref z41, .ref z42, .ref z43, .ref z44, .ref z45, .ref z46, .ref z47, .ref z48, .int 0, .int 10, .int 0, .int 0, .int 0, .int 0, .ref z55, .ref z56, .int 0, .int 0, .ref z59, .ref z60, .ref z61, .int 0, .long 0]))] (fun r w1 => r = some (.int 0) ∧ w1 = [(z, .inr (11, [.int 1, .int 0, .ref z2, .int 0, .int 0, .int 0, .int 0, .long 0, .int 0, .int 0, .ref z10, .ref z11, .ref z12, .ref z13, .ref z14, .ref z15, .ref z16, .ref z17, .ref z18, .ref z19, .int 0, .int 0, .ref z22, .ref z23, .ref z24, .ref z25, .ref z26, .ref z27, .ref z28, .ref z29, .ref z30, .ref z31, .ref z32, .ref z33, .int 0, .long 0, .ref z36, .ref z37, .ref z38, .ref z39, .ref z40, .ref z41, .ref z42, .ref z43, .ref z44, .ref z45, .ref z46, .ref z47, .ref z48, .int 0, .int 10, .int 0, .int 0, .int 0, .int 0, .ref z55, .ref z56, .int 0, .int 0, .ref z59, .ref z60, .ref z61, .int 0, .long 0]))]) := by
  refine k_ofW (by decide) (Nat.le_of_ble_eq_true rfl) ?_
  intro p e s m below meth c A ls hC hr hlocks hname hw hl
  have hx := hC.1
  have hb := hC.2.1
  have hl : lv_has ls 7 [(0, .ref z), (1, .int sd), (2, .int sp), (3, .int wt)] := hl
  refine lv_aload_n hx hb dX12_lives_0 rfl (lv_at hl 0 rfl) ?_
  refine lv_iload_n hx hb dX12_lives_1 rfl (lv_at hl 1 rfl) ?_
  refine lv_iconst (v := 0) hx hb dX12_lives_2 (by decide) ?_
  refine lv_sipush (v := 9999) hx hb dX12_lives_3 (by decide) ?_
  refine k_S (wr := [(z, .inr (11, [.int 0, .int 0, .ref z2, .int 0, .int 0, .int 0, .int 0, .long 0, .int 0, .int 0, .ref z10, .ref z11, .ref z12, .ref z13, .ref z14, .ref z15, .ref z16, .ref z17, .ref z18, .ref z19, .int 0, .int 0, .ref z22, .ref z23, .ref z24, .ref z25, .ref z26, .ref z27, .ref z28, .ref z29, .ref z30, .ref z31, .ref z32, .ref z33, .int 0, .long 0, .ref z36, .ref z37, .ref z38, .ref z39, .ref z40, .ref z41, .ref z42, .ref z43, .ref z44, .ref z45, .ref z46, .ref z47, .ref z48, .int 0, .int 10, .int 0, .int 0, .int 0, .int 0, .ref z55, .ref z56, .int 0, .int 0, .ref z59, .ref z60, .ref z61, .int 0, .long 0]))]) 3 gw_1472 gw_1473 gw_15 gw_1474 hd_X12_within hC hw (c_within_l γ l sd 0 9999 h1) ⟨by decide, by decide⟩ ⟨by decide, by decide⟩ hl.1 rfl rfl (Nat.le_of_ble_eq_true rfl) [] [0] rfl rfl rfl rfl (by decide) dX12_lives_6 (fun r w1 H locs hq hw => ?_)
  obtain ⟨rfl, rfl⟩ := hq
  have hw : kW γ A [(z, .inr (11, [.int 0, .int 0, .ref z2, .int 0, .int 0, .int 0, .int 0, .long 0, .int 0, .int 0, .ref z10, .ref z11, .ref z12, .ref z13, .ref z14, .ref z15, .ref z16, .ref z17, .ref z18, .ref z19, .int 0, .int 0, .ref z22, .ref z23, .ref z24, .ref z25, .ref z26, .ref z27, .ref z28, .ref z29, .ref z30, .ref z31, .ref z32, .ref z33, .int 0, .long 0, .ref z36, .ref z37, .ref z38, .ref z39, .ref z40, .ref z41, .ref z42, .ref z43, .ref z44, .ref z45, .ref z46, .ref z47, .ref z48, .int 0, .int 10, .int 0, .int 0, .int 0, .int 0, .ref z55, .ref z56, .int 0, .int 0, .ref z59, .ref z60, .ref z61, .int 0, .long 0]))] s H locs := hw
  refine W.eq (g2 := F0 m 9 ls [.int 0, .ref z]) rfl ?_
  refine lv_if_eq (tgt := 35) hx hb dX12_lives_9 (by decide) (fun _ => ?_) (fun h => absurd (by decide) h)
  refine lv_iconst (v := 1) hx hb dX12_lives_35 (by decide) ?_
  refine fs_RX12_143 hC hw 0 rfl rfl rfl (Nat.le_of_ble_eq_true rfl) dX12_lives_36 (fun H locs hw => ?_)
  have hw : kW γ A [(z, .inr (11, [.int 1, .int 0, .ref z2, .int 0, .int 0, .int 0, .int 0, .long 0, .int 0, .int 0, .ref z10, .ref z11, .ref z12, .ref z13, .ref z14, .ref z15, .ref z16, .ref z17, .ref z18, .ref z19, .int 0, .int 0, .ref z22, .ref z23, .ref z24, .ref z25, .ref z26, .ref z27, .ref z28, .ref z29, .ref z30, .ref z31, .ref z32, .ref z33, .int 0, .long 0, .ref z36, .ref z37, .ref z38, .ref z39, .ref z40, .ref z41, .ref z42, .ref z43, .ref z44, .ref z45, .ref z46, .ref z47, .ref z48, .int 0, .int 10, .int 0, .int 0, .int 0, .int 0, .ref z55, .ref z56, .int 0, .int 0, .ref z59, .ref z60, .ref z61, .int 0, .long 0]))] s H locs := hw
  refine lv_aload_n hx hb dX12_lives_39 rfl (lv_at hl 0 rfl) ?_
  refine fg_RX12_143 hC hw 0 rfl rfl dX12_lives_40 ?_
  refine lv_iconst (v := 1) hx hb dX12_lives_43 (by decide) ?_
  refine lv_icmp_ne (tgt := 49) hx hb dX12_lives_44 (by decide) (fun h => absurd rfl h) (fun _ => ?_)
  refine lv_iconst (v := 0) hx hb dX12_lives_47 (by decide) ?_
  exact k_iret hC hr hlocks hw [0] rfl rfl ⟨rfl, rfl⟩ (by decide) (by decide) dX12_lives_48

set_option maxHeartbeats 4000000 in
set_option maxRecDepth 100000 in
theorem c_X12_lives_b (γ : kΓ) (l : Launch) (z : Nat) (z2 : Nat) (z10 : Nat) (z11 : Nat) (z12 : Nat) (z13 : Nat) (z14 : Nat) (z15 : Nat) (z16 : Nat) (z17 : Nat) (z18 : Nat) (z19 : Nat) (z22 : Nat) (z23 : Nat) (z24 : Nat) (z25 : Nat) (z26 : Nat) (z27 : Nat) (z28 : Nat) (z29 : Nat) (z30 : Nat) (z31 : Nat) (z32 : Nat) (z33 : Nat) (z36 : Nat) (z37 : Nat) (z38 : Nat) (z39 : Nat) (z40 : Nat) (z41 : Nat) (z42 : Nat) (z43 : Nat) (z44 : Nat) (z45 : Nat) (z46 : Nat) (z47 : Nat) (z48 : Nat) (z55 : Nat) (z56 : Nat) (z59 : Nat) (z60 : Nat) (z61 : Nat) (sd : Int32) (sp : Int32) (wt : Int32) (h1 : ¬ sd < 0) (h2 : 9999 < sd) : kM γ l yX12_lives cX12_lives 7 ((some .int)) ({ frames := 1, cells := 0, slots := 0, locals := 22 } : Room) [.ref z, .int sd, .int sp, .int wt] [(z, .inr (11, [.int 0, .int 0, .ref z2, .int 0, .int 0, .int 0, .int 0, .long 0, .int 0, .int 0, .ref z10, .ref z11, .ref z12, .ref z13, .ref z14, .ref z15, .ref z16, .ref z17, .ref z18, .ref z19, .int 0, .int 0, .ref z22, .ref z23, .ref z24, .ref z25, .ref z26, .ref z27, .ref z28, .ref z29, .ref z30, .ref z31, .ref z32, .ref z33, .int 0, .long 0, .ref z36, .ref z37, .ref z38, .ref z39, .ref z40, .ref z41, .ref z42, .ref z43, .ref z44, .ref z45, .ref z46, .ref z47, .ref z48, .int 0, .int 10, .int 0, .int 0, .int 0, .int 0, .ref z55, .ref z56, .int 0, .int 0, .ref z59, .ref z60, .ref z61, .int 0, .long 0]))] (fun r w1 => r = some (.int 0) ∧ w1 = [(z, .inr (11, [.int 1, .int 0, .ref z2, .int 0, .int 0, .int 0, .int 0, .long 0, .int 0, .int 0, .ref z10, .ref z11, .ref z12, .ref z13, .ref z14, .ref z15, .ref z16, .ref z17, .ref z18, .ref z19, .int 0, .int 0, .ref z22, .ref z23, .ref z24, .ref z25, .ref z26, .ref z27, .ref z28, .ref z29, .ref z30, .ref z31, .ref z32, .ref z33, .int 0, .long 0, .ref z36, .ref z37, .ref z38, .ref z39, .ref z40, .ref z41, .ref z42, .ref z43, .ref z44, .ref z45, .ref z46, .ref z47, .ref z48, .int 0, .int 10, .int 0, .int 0, .int 0, .int 0, .ref z55, .ref z56, .int 0, .int 0, .ref z59, .ref z60, .ref z61, .int 0, .long 0]))]) := by
  refine k_ofW (by decide) (Nat.le_of_ble_eq_true rfl) ?_
  intro p e s m below meth c A ls hC hr hlocks hname hw hl
  have hx := hC.1
  have hb := hC.2.1
  have hl : lv_has ls 7 [(0, .ref z), (1, .int sd), (2, .int sp), (3, .int wt)] := hl
  refine lv_aload_n hx hb dX12_lives_0 rfl (lv_at hl 0 rfl) ?_
  refine lv_iload_n hx hb dX12_lives_1 rfl (lv_at hl 1 rfl) ?_
  refine lv_iconst (v := 0) hx hb dX12_lives_2 (by decide) ?_
  refine lv_sipush (v := 9999) hx hb dX12_lives_3 (by decide) ?_
  refine k_S (wr := [(z, .inr (11, [.int 0, .int 0, .ref z2, .int 0, .int 0, .int 0, .int 0, .long 0, .int 0, .int 0, .ref z10, .ref z11, .ref z12, .ref z13, .ref z14, .ref z15, .ref z16, .ref z17, .ref z18, .ref z19, .int 0, .int 0, .ref z22, .ref z23, .ref z24, .ref z25, .ref z26, .ref z27, .ref z28, .ref z29, .ref z30, .ref z31, .ref z32, .ref z33, .int 0, .long 0, .ref z36, .ref z37, .ref z38, .ref z39, .ref z40, .ref z41, .ref z42, .ref z43, .ref z44, .ref z45, .ref z46, .ref z47, .ref z48, .int 0, .int 10, .int 0, .int 0, .int 0, .int 0, .ref z55, .ref z56, .int 0, .int 0, .ref z59, .ref z60, .ref z61, .int 0, .long 0]))]) 3 gw_1472 gw_1473 gw_15 gw_1474 hd_X12_within hC hw (c_within_h γ l sd 0 9999 h1 h2) ⟨by decide, by decide⟩ ⟨by decide, by decide⟩ hl.1 rfl rfl (Nat.le_of_ble_eq_true rfl) [] [0] rfl rfl rfl rfl (by decide) dX12_lives_6 (fun r w1 H locs hq hw => ?_)
  obtain ⟨rfl, rfl⟩ := hq
  have hw : kW γ A [(z, .inr (11, [.int 0, .int 0, .ref z2, .int 0, .int 0, .int 0, .int 0, .long 0, .int 0, .int 0, .ref z10, .ref z11, .ref z12, .ref z13, .ref z14, .ref z15, .ref z16, .ref z17, .ref z18, .ref z19, .int 0, .int 0, .ref z22, .ref z23, .ref z24, .ref z25, .ref z26, .ref z27, .ref z28, .ref z29, .ref z30, .ref z31, .ref z32, .ref z33, .int 0, .long 0, .ref z36, .ref z37, .ref z38, .ref z39, .ref z40, .ref z41, .ref z42, .ref z43, .ref z44, .ref z45, .ref z46, .ref z47, .ref z48, .int 0, .int 10, .int 0, .int 0, .int 0, .int 0, .ref z55, .ref z56, .int 0, .int 0, .ref z59, .ref z60, .ref z61, .int 0, .long 0]))] s H locs := hw
  refine W.eq (g2 := F0 m 9 ls [.int 0, .ref z]) rfl ?_
  refine lv_if_eq (tgt := 35) hx hb dX12_lives_9 (by decide) (fun _ => ?_) (fun h => absurd (by decide) h)
  refine lv_iconst (v := 1) hx hb dX12_lives_35 (by decide) ?_
  refine fs_RX12_143 hC hw 0 rfl rfl rfl (Nat.le_of_ble_eq_true rfl) dX12_lives_36 (fun H locs hw => ?_)
  have hw : kW γ A [(z, .inr (11, [.int 1, .int 0, .ref z2, .int 0, .int 0, .int 0, .int 0, .long 0, .int 0, .int 0, .ref z10, .ref z11, .ref z12, .ref z13, .ref z14, .ref z15, .ref z16, .ref z17, .ref z18, .ref z19, .int 0, .int 0, .ref z22, .ref z23, .ref z24, .ref z25, .ref z26, .ref z27, .ref z28, .ref z29, .ref z30, .ref z31, .ref z32, .ref z33, .int 0, .long 0, .ref z36, .ref z37, .ref z38, .ref z39, .ref z40, .ref z41, .ref z42, .ref z43, .ref z44, .ref z45, .ref z46, .ref z47, .ref z48, .int 0, .int 10, .int 0, .int 0, .int 0, .int 0, .ref z55, .ref z56, .int 0, .int 0, .ref z59, .ref z60, .ref z61, .int 0, .long 0]))] s H locs := hw
  refine lv_aload_n hx hb dX12_lives_39 rfl (lv_at hl 0 rfl) ?_
  refine fg_RX12_143 hC hw 0 rfl rfl dX12_lives_40 ?_
  refine lv_iconst (v := 1) hx hb dX12_lives_43 (by decide) ?_
  refine lv_icmp_ne (tgt := 49) hx hb dX12_lives_44 (by decide) (fun h => absurd rfl h) (fun _ => ?_)
  refine lv_iconst (v := 0) hx hb dX12_lives_47 (by decide) ?_
  exact k_iret hC hr hlocks hw [0] rfl rfl ⟨rfl, rfl⟩ (by decide) (by decide) dX12_lives_48

set_option maxHeartbeats 4000000 in
set_option maxRecDepth 100000 in
theorem c_X12_lives_c (γ : kΓ) (l : Launch) (z : Nat) (z2 : Nat) (z10 : Nat) (z11 : Nat) (z12 : Nat) (z13 : Nat) (z14 : Nat) (z15 : Nat) (z16 : Nat) (z17 : Nat) (z18 : Nat) (z19 : Nat) (z22 : Nat) (z23 : Nat) (z24 : Nat) (z25 : Nat) (z26 : Nat) (z27 : Nat) (z28 : Nat) (z29 : Nat) (z30 : Nat) (z31 : Nat) (z32 : Nat) (z33 : Nat) (z36 : Nat) (z37 : Nat) (z38 : Nat) (z39 : Nat) (z40 : Nat) (z41 : Nat) (z42 : Nat) (z43 : Nat) (z44 : Nat) (z45 : Nat) (z46 : Nat) (z47 : Nat) (z48 : Nat) (z55 : Nat) (z56 : Nat) (z59 : Nat) (z60 : Nat) (z61 : Nat) (sd : Int32) (sp : Int32) (wt : Int32) (hs0 : ¬ sd < 0) (hs1 : ¬ 9999 < sd) (h1 : sp < 1) : kM γ l yX12_lives cX12_lives 7 ((some .int)) ({ frames := 1, cells := 0, slots := 0, locals := 22 } : Room) [.ref z, .int sd, .int sp, .int wt] [(z, .inr (11, [.int 0, .int 0, .ref z2, .int 0, .int 0, .int 0, .int 0, .long 0, .int 0, .int 0, .ref z10, .ref z11, .ref z12, .ref z13, .ref z14, .ref z15, .ref z16, .ref z17, .ref z18, .ref z19, .int 0, .int 0, .ref z22, .ref z23, .ref z24, .ref z25, .ref z26, .ref z27, .ref z28, .ref z29, .ref z30, .ref z31, .ref z32, .ref z33, .int 0, .long 0, .ref z36, .ref z37, .ref z38, .ref z39, .ref z40, .ref z41, .ref z42, .ref z43, .ref z44, .ref z45, .ref z46, .ref z47, .ref z48, .int 0, .int 10, .int 0, .int 0, .int 0, .int 0, .ref z55, .ref z56, .int 0, .int 0, .ref z59, .ref z60, .ref z61, .int 0, .long 0]))] (fun r w1 => r = some (.int 0) ∧ w1 = [(z, .inr (11, [.int 1, .int 0, .ref z2, .int 0, .int 0, .int 0, .int 0, .long 0, .int 0, .int 0, .ref z10, .ref z11, .ref z12, .ref z13, .ref z14, .ref z15, .ref z16, .ref z17, .ref z18, .ref z19, .int 0, .int 0, .ref z22, .ref z23, .ref z24, .ref z25, .ref z26, .ref z27, .ref z28, .ref z29, .ref z30, .ref z31, .ref z32, .ref z33, .int 0, .long 0, .ref z36, .ref z37, .ref z38, .ref z39, .ref z40, .ref z41, .ref z42, .ref z43, .ref z44, .ref z45, .ref z46, .ref z47, .ref z48, .int 0, .int 10, .int 0, .int 0, .int 0, .int 0, .ref z55, .ref z56, .int 0, .int 0, .ref z59, .ref z60, .ref z61, .int 0, .long 0]))]) := by
  refine k_ofW (by decide) (Nat.le_of_ble_eq_true rfl) ?_
  intro p e s m below meth c A ls hC hr hlocks hname hw hl
  have hx := hC.1
  have hb := hC.2.1
  have hl : lv_has ls 7 [(0, .ref z), (1, .int sd), (2, .int sp), (3, .int wt)] := hl
  refine lv_aload_n hx hb dX12_lives_0 rfl (lv_at hl 0 rfl) ?_
  refine lv_iload_n hx hb dX12_lives_1 rfl (lv_at hl 1 rfl) ?_
  refine lv_iconst (v := 0) hx hb dX12_lives_2 (by decide) ?_
  refine lv_sipush (v := 9999) hx hb dX12_lives_3 (by decide) ?_
  refine k_S (wr := [(z, .inr (11, [.int 0, .int 0, .ref z2, .int 0, .int 0, .int 0, .int 0, .long 0, .int 0, .int 0, .ref z10, .ref z11, .ref z12, .ref z13, .ref z14, .ref z15, .ref z16, .ref z17, .ref z18, .ref z19, .int 0, .int 0, .ref z22, .ref z23, .ref z24, .ref z25, .ref z26, .ref z27, .ref z28, .ref z29, .ref z30, .ref z31, .ref z32, .ref z33, .int 0, .long 0, .ref z36, .ref z37, .ref z38, .ref z39, .ref z40, .ref z41, .ref z42, .ref z43, .ref z44, .ref z45, .ref z46, .ref z47, .ref z48, .int 0, .int 10, .int 0, .int 0, .int 0, .int 0, .ref z55, .ref z56, .int 0, .int 0, .ref z59, .ref z60, .ref z61, .int 0, .long 0]))]) 3 gw_1472 gw_1473 gw_15 gw_1474 hd_X12_within hC hw (c_within_t γ l sd 0 9999 hs0 hs1) ⟨by decide, by decide⟩ ⟨by decide, by decide⟩ hl.1 rfl rfl (Nat.le_of_ble_eq_true rfl) [] [0] rfl rfl rfl rfl (by decide) dX12_lives_6 (fun r w1 H locs hq hw => ?_)
  obtain ⟨rfl, rfl⟩ := hq
  have hw : kW γ A [(z, .inr (11, [.int 0, .int 0, .ref z2, .int 0, .int 0, .int 0, .int 0, .long 0, .int 0, .int 0, .ref z10, .ref z11, .ref z12, .ref z13, .ref z14, .ref z15, .ref z16, .ref z17, .ref z18, .ref z19, .int 0, .int 0, .ref z22, .ref z23, .ref z24, .ref z25, .ref z26, .ref z27, .ref z28, .ref z29, .ref z30, .ref z31, .ref z32, .ref z33, .int 0, .long 0, .ref z36, .ref z37, .ref z38, .ref z39, .ref z40, .ref z41, .ref z42, .ref z43, .ref z44, .ref z45, .ref z46, .ref z47, .ref z48, .int 0, .int 10, .int 0, .int 0, .int 0, .int 0, .ref z55, .ref z56, .int 0, .int 0, .ref z59, .ref z60, .ref z61, .int 0, .long 0]))] s H locs := hw
  refine W.eq (g2 := F0 m 9 ls [.int 1, .ref z]) rfl ?_
  refine lv_if_eq (tgt := 35) hx hb dX12_lives_9 (by decide) (fun h => absurd h (by decide)) (fun _ => ?_)
  refine lv_iload_n hx hb dX12_lives_12 rfl (lv_at hl 2 rfl) ?_
  refine lv_iconst (v := 1) hx hb dX12_lives_13 (by decide) ?_
  refine lv_bipush (v := 99) hx hb dX12_lives_14 (by decide) ?_
  refine k_S (wr := [(z, .inr (11, [.int 0, .int 0, .ref z2, .int 0, .int 0, .int 0, .int 0, .long 0, .int 0, .int 0, .ref z10, .ref z11, .ref z12, .ref z13, .ref z14, .ref z15, .ref z16, .ref z17, .ref z18, .ref z19, .int 0, .int 0, .ref z22, .ref z23, .ref z24, .ref z25, .ref z26, .ref z27, .ref z28, .ref z29, .ref z30, .ref z31, .ref z32, .ref z33, .int 0, .long 0, .ref z36, .ref z37, .ref z38, .ref z39, .ref z40, .ref z41, .ref z42, .ref z43, .ref z44, .ref z45, .ref z46, .ref z47, .ref z48, .int 0, .int 10, .int 0, .int 0, .int 0, .int 0, .ref z55, .ref z56, .int 0, .int 0, .ref z59, .ref z60, .ref z61, .int 0, .long 0]))]) 3 gw_1472 gw_1473 gw_15 gw_1474 hd_X12_within hC hw (c_within_l γ l sp 1 99 h1) ⟨by decide, by decide⟩ ⟨by decide, by decide⟩ hl.1 rfl rfl (Nat.le_of_ble_eq_true rfl) [] [0] rfl rfl rfl rfl (by decide) dX12_lives_16 (fun r w1 H locs hq hw => ?_)
  obtain ⟨rfl, rfl⟩ := hq
  have hw : kW γ A [(z, .inr (11, [.int 0, .int 0, .ref z2, .int 0, .int 0, .int 0, .int 0, .long 0, .int 0, .int 0, .ref z10, .ref z11, .ref z12, .ref z13, .ref z14, .ref z15, .ref z16, .ref z17, .ref z18, .ref z19, .int 0, .int 0, .ref z22, .ref z23, .ref z24, .ref z25, .ref z26, .ref z27, .ref z28, .ref z29, .ref z30, .ref z31, .ref z32, .ref z33, .int 0, .long 0, .ref z36, .ref z37, .ref z38, .ref z39, .ref z40, .ref z41, .ref z42, .ref z43, .ref z44, .ref z45, .ref z46, .ref z47, .ref z48, .int 0, .int 10, .int 0, .int 0, .int 0, .int 0, .ref z55, .ref z56, .int 0, .int 0, .ref z59, .ref z60, .ref z61, .int 0, .long 0]))] s H locs := hw
  refine W.eq (g2 := F0 m 19 ls [.int 0, .ref z]) rfl ?_
  refine lv_if_eq (tgt := 35) hx hb dX12_lives_19 (by decide) (fun _ => ?_) (fun h => absurd (by decide) h)
  refine lv_iconst (v := 1) hx hb dX12_lives_35 (by decide) ?_
  refine fs_RX12_143 hC hw 0 rfl rfl rfl (Nat.le_of_ble_eq_true rfl) dX12_lives_36 (fun H locs hw => ?_)
  have hw : kW γ A [(z, .inr (11, [.int 1, .int 0, .ref z2, .int 0, .int 0, .int 0, .int 0, .long 0, .int 0, .int 0, .ref z10, .ref z11, .ref z12, .ref z13, .ref z14, .ref z15, .ref z16, .ref z17, .ref z18, .ref z19, .int 0, .int 0, .ref z22, .ref z23, .ref z24, .ref z25, .ref z26, .ref z27, .ref z28, .ref z29, .ref z30, .ref z31, .ref z32, .ref z33, .int 0, .long 0, .ref z36, .ref z37, .ref z38, .ref z39, .ref z40, .ref z41, .ref z42, .ref z43, .ref z44, .ref z45, .ref z46, .ref z47, .ref z48, .int 0, .int 10, .int 0, .int 0, .int 0, .int 0, .ref z55, .ref z56, .int 0, .int 0, .ref z59, .ref z60, .ref z61, .int 0, .long 0]))] s H locs := hw
  refine lv_aload_n hx hb dX12_lives_39 rfl (lv_at hl 0 rfl) ?_
  refine fg_RX12_143 hC hw 0 rfl rfl dX12_lives_40 ?_
  refine lv_iconst (v := 1) hx hb dX12_lives_43 (by decide) ?_
  refine lv_icmp_ne (tgt := 49) hx hb dX12_lives_44 (by decide) (fun h => absurd rfl h) (fun _ => ?_)
  refine lv_iconst (v := 0) hx hb dX12_lives_47 (by decide) ?_
  exact k_iret hC hr hlocks hw [0] rfl rfl ⟨rfl, rfl⟩ (by decide) (by decide) dX12_lives_48

set_option maxHeartbeats 4000000 in
set_option maxRecDepth 100000 in
theorem c_X12_lives_d (γ : kΓ) (l : Launch) (z : Nat) (z2 : Nat) (z10 : Nat) (z11 : Nat) (z12 : Nat) (z13 : Nat) (z14 : Nat) (z15 : Nat) (z16 : Nat) (z17 : Nat) (z18 : Nat) (z19 : Nat) (z22 : Nat) (z23 : Nat) (z24 : Nat) (z25 : Nat) (z26 : Nat) (z27 : Nat) (z28 : Nat) (z29 : Nat) (z30 : Nat) (z31 : Nat) (z32 : Nat) (z33 : Nat) (z36 : Nat) (z37 : Nat) (z38 : Nat) (z39 : Nat) (z40 : Nat) (z41 : Nat) (z42 : Nat) (z43 : Nat) (z44 : Nat) (z45 : Nat) (z46 : Nat) (z47 : Nat) (z48 : Nat) (z55 : Nat) (z56 : Nat) (z59 : Nat) (z60 : Nat) (z61 : Nat) (sd : Int32) (sp : Int32) (wt : Int32) (hs0 : ¬ sd < 0) (hs1 : ¬ 9999 < sd) (h1 : ¬ sp < 1) (h2 : 99 < sp) : kM γ l yX12_lives cX12_lives 7 ((some .int)) ({ frames := 1, cells := 0, slots := 0, locals := 22 } : Room) [.ref z, .int sd, .int sp, .int wt] [(z, .inr (11, [.int 0, .int 0, .ref z2, .int 0, .int 0, .int 0, .int 0, .long 0, .int 0, .int 0, .ref z10, .ref z11, .ref z12, .ref z13, .ref z14, .ref z15, .ref z16, .ref z17, .ref z18, .ref z19, .int 0, .int 0, .ref z22, .ref z23, .ref z24, .ref z25, .ref z26, .ref z27, .ref z28, .ref z29, .ref z30, .ref z31, .ref z32, .ref z33, .int 0, .long 0, .ref z36, .ref z37, .ref z38, .ref z39, .ref z40, .ref z41, .ref z42, .ref z43, .ref z44, .ref z45, .ref z46, .ref z47, .ref z48, .int 0, .int 10, .int 0, .int 0, .int 0, .int 0, .ref z55, .ref z56, .int 0, .int 0, .ref z59, .ref z60, .ref z61, .int 0, .long 0]))] (fun r w1 => r = some (.int 0) ∧ w1 = [(z, .inr (11, [.int 1, .int 0, .ref z2, .int 0, .int 0, .int 0, .int 0, .long 0, .int 0, .int 0, .ref z10, .ref z11, .ref z12, .ref z13, .ref z14, .ref z15, .ref z16, .ref z17, .ref z18, .ref z19, .int 0, .int 0, .ref z22, .ref z23, .ref z24, .ref z25, .ref z26, .ref z27, .ref z28, .ref z29, .ref z30, .ref z31, .ref z32, .ref z33, .int 0, .long 0, .ref z36, .ref z37, .ref z38, .ref z39, .ref z40, .ref z41, .ref z42, .ref z43, .ref z44, .ref z45, .ref z46, .ref z47, .ref z48, .int 0, .int 10, .int 0, .int 0, .int 0, .int 0, .ref z55, .ref z56, .int 0, .int 0, .ref z59, .ref z60, .ref z61, .int 0, .long 0]))]) := by
  refine k_ofW (by decide) (Nat.le_of_ble_eq_true rfl) ?_
  intro p e s m below meth c A ls hC hr hlocks hname hw hl
  have hx := hC.1
  have hb := hC.2.1
  have hl : lv_has ls 7 [(0, .ref z), (1, .int sd), (2, .int sp), (3, .int wt)] := hl
  refine lv_aload_n hx hb dX12_lives_0 rfl (lv_at hl 0 rfl) ?_
  refine lv_iload_n hx hb dX12_lives_1 rfl (lv_at hl 1 rfl) ?_
  refine lv_iconst (v := 0) hx hb dX12_lives_2 (by decide) ?_
  refine lv_sipush (v := 9999) hx hb dX12_lives_3 (by decide) ?_
  refine k_S (wr := [(z, .inr (11, [.int 0, .int 0, .ref z2, .int 0, .int 0, .int 0, .int 0, .long 0, .int 0, .int 0, .ref z10, .ref z11, .ref z12, .ref z13, .ref z14, .ref z15, .ref z16, .ref z17, .ref z18, .ref z19, .int 0, .int 0, .ref z22, .ref z23, .ref z24, .ref z25, .ref z26, .ref z27, .ref z28, .ref z29, .ref z30, .ref z31, .ref z32, .ref z33, .int 0, .long 0, .ref z36, .ref z37, .ref z38, .ref z39, .ref z40, .ref z41, .ref z42, .ref z43, .ref z44, .ref z45, .ref z46, .ref z47, .ref z48, .int 0, .int 10, .int 0, .int 0, .int 0, .int 0, .ref z55, .ref z56, .int 0, .int 0, .ref z59, .ref z60, .ref z61, .int 0, .long 0]))]) 3 gw_1472 gw_1473 gw_15 gw_1474 hd_X12_within hC hw (c_within_t γ l sd 0 9999 hs0 hs1) ⟨by decide, by decide⟩ ⟨by decide, by decide⟩ hl.1 rfl rfl (Nat.le_of_ble_eq_true rfl) [] [0] rfl rfl rfl rfl (by decide) dX12_lives_6 (fun r w1 H locs hq hw => ?_)
  obtain ⟨rfl, rfl⟩ := hq
  have hw : kW γ A [(z, .inr (11, [.int 0, .int 0, .ref z2, .int 0, .int 0, .int 0, .int 0, .long 0, .int 0, .int 0, .ref z10, .ref z11, .ref z12, .ref z13, .ref z14, .ref z15, .ref z16, .ref z17, .ref z18, .ref z19, .int 0, .int 0, .ref z22, .ref z23, .ref z24, .ref z25, .ref z26, .ref z27, .ref z28, .ref z29, .ref z30, .ref z31, .ref z32, .ref z33, .int 0, .long 0, .ref z36, .ref z37, .ref z38, .ref z39, .ref z40, .ref z41, .ref z42, .ref z43, .ref z44, .ref z45, .ref z46, .ref z47, .ref z48, .int 0, .int 10, .int 0, .int 0, .int 0, .int 0, .ref z55, .ref z56, .int 0, .int 0, .ref z59, .ref z60, .ref z61, .int 0, .long 0]))] s H locs := hw
  refine W.eq (g2 := F0 m 9 ls [.int 1, .ref z]) rfl ?_
  refine lv_if_eq (tgt := 35) hx hb dX12_lives_9 (by decide) (fun h => absurd h (by decide)) (fun _ => ?_)
  refine lv_iload_n hx hb dX12_lives_12 rfl (lv_at hl 2 rfl) ?_
  refine lv_iconst (v := 1) hx hb dX12_lives_13 (by decide) ?_
  refine lv_bipush (v := 99) hx hb dX12_lives_14 (by decide) ?_
  refine k_S (wr := [(z, .inr (11, [.int 0, .int 0, .ref z2, .int 0, .int 0, .int 0, .int 0, .long 0, .int 0, .int 0, .ref z10, .ref z11, .ref z12, .ref z13, .ref z14, .ref z15, .ref z16, .ref z17, .ref z18, .ref z19, .int 0, .int 0, .ref z22, .ref z23, .ref z24, .ref z25, .ref z26, .ref z27, .ref z28, .ref z29, .ref z30, .ref z31, .ref z32, .ref z33, .int 0, .long 0, .ref z36, .ref z37, .ref z38, .ref z39, .ref z40, .ref z41, .ref z42, .ref z43, .ref z44, .ref z45, .ref z46, .ref z47, .ref z48, .int 0, .int 10, .int 0, .int 0, .int 0, .int 0, .ref z55, .ref z56, .int 0, .int 0, .ref z59, .ref z60, .ref z61, .int 0, .long 0]))]) 3 gw_1472 gw_1473 gw_15 gw_1474 hd_X12_within hC hw (c_within_h γ l sp 1 99 h1 h2) ⟨by decide, by decide⟩ ⟨by decide, by decide⟩ hl.1 rfl rfl (Nat.le_of_ble_eq_true rfl) [] [0] rfl rfl rfl rfl (by decide) dX12_lives_16 (fun r w1 H locs hq hw => ?_)
  obtain ⟨rfl, rfl⟩ := hq
  have hw : kW γ A [(z, .inr (11, [.int 0, .int 0, .ref z2, .int 0, .int 0, .int 0, .int 0, .long 0, .int 0, .int 0, .ref z10, .ref z11, .ref z12, .ref z13, .ref z14, .ref z15, .ref z16, .ref z17, .ref z18, .ref z19, .int 0, .int 0, .ref z22, .ref z23, .ref z24, .ref z25, .ref z26, .ref z27, .ref z28, .ref z29, .ref z30, .ref z31, .ref z32, .ref z33, .int 0, .long 0, .ref z36, .ref z37, .ref z38, .ref z39, .ref z40, .ref z41, .ref z42, .ref z43, .ref z44, .ref z45, .ref z46, .ref z47, .ref z48, .int 0, .int 10, .int 0, .int 0, .int 0, .int 0, .ref z55, .ref z56, .int 0, .int 0, .ref z59, .ref z60, .ref z61, .int 0, .long 0]))] s H locs := hw
  refine W.eq (g2 := F0 m 19 ls [.int 0, .ref z]) rfl ?_
  refine lv_if_eq (tgt := 35) hx hb dX12_lives_19 (by decide) (fun _ => ?_) (fun h => absurd (by decide) h)
  refine lv_iconst (v := 1) hx hb dX12_lives_35 (by decide) ?_
  refine fs_RX12_143 hC hw 0 rfl rfl rfl (Nat.le_of_ble_eq_true rfl) dX12_lives_36 (fun H locs hw => ?_)
  have hw : kW γ A [(z, .inr (11, [.int 1, .int 0, .ref z2, .int 0, .int 0, .int 0, .int 0, .long 0, .int 0, .int 0, .ref z10, .ref z11, .ref z12, .ref z13, .ref z14, .ref z15, .ref z16, .ref z17, .ref z18, .ref z19, .int 0, .int 0, .ref z22, .ref z23, .ref z24, .ref z25, .ref z26, .ref z27, .ref z28, .ref z29, .ref z30, .ref z31, .ref z32, .ref z33, .int 0, .long 0, .ref z36, .ref z37, .ref z38, .ref z39, .ref z40, .ref z41, .ref z42, .ref z43, .ref z44, .ref z45, .ref z46, .ref z47, .ref z48, .int 0, .int 10, .int 0, .int 0, .int 0, .int 0, .ref z55, .ref z56, .int 0, .int 0, .ref z59, .ref z60, .ref z61, .int 0, .long 0]))] s H locs := hw
  refine lv_aload_n hx hb dX12_lives_39 rfl (lv_at hl 0 rfl) ?_
  refine fg_RX12_143 hC hw 0 rfl rfl dX12_lives_40 ?_
  refine lv_iconst (v := 1) hx hb dX12_lives_43 (by decide) ?_
  refine lv_icmp_ne (tgt := 49) hx hb dX12_lives_44 (by decide) (fun h => absurd rfl h) (fun _ => ?_)
  refine lv_iconst (v := 0) hx hb dX12_lives_47 (by decide) ?_
  exact k_iret hC hr hlocks hw [0] rfl rfl ⟨rfl, rfl⟩ (by decide) (by decide) dX12_lives_48

set_option maxHeartbeats 4000000 in
set_option maxRecDepth 100000 in
theorem c_X12_lives_e (γ : kΓ) (l : Launch) (z : Nat) (z2 : Nat) (z10 : Nat) (z11 : Nat) (z12 : Nat) (z13 : Nat) (z14 : Nat) (z15 : Nat) (z16 : Nat) (z17 : Nat) (z18 : Nat) (z19 : Nat) (z22 : Nat) (z23 : Nat) (z24 : Nat) (z25 : Nat) (z26 : Nat) (z27 : Nat) (z28 : Nat) (z29 : Nat) (z30 : Nat) (z31 : Nat) (z32 : Nat) (z33 : Nat) (z36 : Nat) (z37 : Nat) (z38 : Nat) (z39 : Nat) (z40 : Nat) (z41 : Nat) (z42 : Nat) (z43 : Nat) (z44 : Nat) (z45 : Nat) (z46 : Nat) (z47 : Nat) (z48 : Nat) (z55 : Nat) (z56 : Nat) (z59 : Nat) (z60 : Nat) (z61 : Nat) (sd : Int32) (sp : Int32) (wt : Int32) (hs0 : ¬ sd < 0) (hs1 : ¬ 9999 < sd) (hs2 : ¬ sp < 1) (hs3 : ¬ 99 < sp) (h1 : wt < 0) : kM γ l yX12_lives cX12_lives 7 ((some .int)) ({ frames := 1, cells := 0, slots := 0, locals := 22 } : Room) [.ref z, .int sd, .int sp, .int wt] [(z, .inr (11, [.int 0, .int 0, .ref z2, .int 0, .int 0, .int 0, .int 0, .long 0, .int 0, .int 0, .ref z10, .ref z11, .ref z12, .ref z13, .ref z14, .ref z15, .ref z16, .ref z17, .ref z18, .ref z19, .int 0, .int 0, .ref z22, .ref z23, .ref z24, .ref z25, .ref z26, .ref z27, .ref z28, .ref z29, .ref z30, .ref z31, .ref z32, .ref z33, .int 0, .long 0, .ref z36, .ref z37, .ref z38, .ref z39, .ref z40, .ref z41, .ref z42, .ref z43, .ref z44, .ref z45, .ref z46, .ref z47, .ref z48, .int 0, .int 10, .int 0, .int 0, .int 0, .int 0, .ref z55, .ref z56, .int 0, .int 0, .ref z59, .ref z60, .ref z61, .int 0, .long 0]))] (fun r w1 => r = some (.int 0) ∧ w1 = [(z, .inr (11, [.int 1, .int 0, .ref z2, .int 0, .int 0, .int 0, .int 0, .long 0, .int 0, .int 0, .ref z10, .ref z11, .ref z12, .ref z13, .ref z14, .ref z15, .ref z16, .ref z17, .ref z18, .ref z19, .int 0, .int 0, .ref z22, .ref z23, .ref z24, .ref z25, .ref z26, .ref z27, .ref z28, .ref z29, .ref z30, .ref z31, .ref z32, .ref z33, .int 0, .long 0, .ref z36, .ref z37, .ref z38, .ref z39, .ref z40, .ref z41, .ref z42, .ref z43, .ref z44, .ref z45, .ref z46, .ref z47, .ref z48, .int 0, .int 10, .int 0, .int 0, .int 0, .int 0, .ref z55, .ref z56, .int 0, .int 0, .ref z59, .ref z60, .ref z61, .int 0, .long 0]))]) := by
  refine k_ofW (by decide) (Nat.le_of_ble_eq_true rfl) ?_
  intro p e s m below meth c A ls hC hr hlocks hname hw hl
  have hx := hC.1
  have hb := hC.2.1
  have hl : lv_has ls 7 [(0, .ref z), (1, .int sd), (2, .int sp), (3, .int wt)] := hl
  refine lv_aload_n hx hb dX12_lives_0 rfl (lv_at hl 0 rfl) ?_
  refine lv_iload_n hx hb dX12_lives_1 rfl (lv_at hl 1 rfl) ?_
  refine lv_iconst (v := 0) hx hb dX12_lives_2 (by decide) ?_
  refine lv_sipush (v := 9999) hx hb dX12_lives_3 (by decide) ?_
  refine k_S (wr := [(z, .inr (11, [.int 0, .int 0, .ref z2, .int 0, .int 0, .int 0, .int 0, .long 0, .int 0, .int 0, .ref z10, .ref z11, .ref z12, .ref z13, .ref z14, .ref z15, .ref z16, .ref z17, .ref z18, .ref z19, .int 0, .int 0, .ref z22, .ref z23, .ref z24, .ref z25, .ref z26, .ref z27, .ref z28, .ref z29, .ref z30, .ref z31, .ref z32, .ref z33, .int 0, .long 0, .ref z36, .ref z37, .ref z38, .ref z39, .ref z40, .ref z41, .ref z42, .ref z43, .ref z44, .ref z45, .ref z46, .ref z47, .ref z48, .int 0, .int 10, .int 0, .int 0, .int 0, .int 0, .ref z55, .ref z56, .int 0, .int 0, .ref z59, .ref z60, .ref z61, .int 0, .long 0]))]) 3 gw_1472 gw_1473 gw_15 gw_1474 hd_X12_within hC hw (c_within_t γ l sd 0 9999 hs0 hs1) ⟨by decide, by decide⟩ ⟨by decide, by decide⟩ hl.1 rfl rfl (Nat.le_of_ble_eq_true rfl) [] [0] rfl rfl rfl rfl (by decide) dX12_lives_6 (fun r w1 H locs hq hw => ?_)
  obtain ⟨rfl, rfl⟩ := hq
  have hw : kW γ A [(z, .inr (11, [.int 0, .int 0, .ref z2, .int 0, .int 0, .int 0, .int 0, .long 0, .int 0, .int 0, .ref z10, .ref z11, .ref z12, .ref z13, .ref z14, .ref z15, .ref z16, .ref z17, .ref z18, .ref z19, .int 0, .int 0, .ref z22, .ref z23, .ref z24, .ref z25, .ref z26, .ref z27, .ref z28, .ref z29, .ref z30, .ref z31, .ref z32, .ref z33, .int 0, .long 0, .ref z36, .ref z37, .ref z38, .ref z39, .ref z40, .ref z41, .ref z42, .ref z43, .ref z44, .ref z45, .ref z46, .ref z47, .ref z48, .int 0, .int 10, .int 0, .int 0, .int 0, .int 0, .ref z55, .ref z56, .int 0, .int 0, .ref z59, .ref z60, .ref z61, .int 0, .long 0]))] s H locs := hw
  refine W.eq (g2 := F0 m 9 ls [.int 1, .ref z]) rfl ?_
  refine lv_if_eq (tgt := 35) hx hb dX12_lives_9 (by decide) (fun h => absurd h (by decide)) (fun _ => ?_)
  refine lv_iload_n hx hb dX12_lives_12 rfl (lv_at hl 2 rfl) ?_
  refine lv_iconst (v := 1) hx hb dX12_lives_13 (by decide) ?_
  refine lv_bipush (v := 99) hx hb dX12_lives_14 (by decide) ?_
  refine k_S (wr := [(z, .inr (11, [.int 0, .int 0, .ref z2, .int 0, .int 0, .int 0, .int 0, .long 0, .int 0, .int 0, .ref z10, .ref z11, .ref z12, .ref z13, .ref z14, .ref z15, .ref z16, .ref z17, .ref z18, .ref z19, .int 0, .int 0, .ref z22, .ref z23, .ref z24, .ref z25, .ref z26, .ref z27, .ref z28, .ref z29, .ref z30, .ref z31, .ref z32, .ref z33, .int 0, .long 0, .ref z36, .ref z37, .ref z38, .ref z39, .ref z40, .ref z41, .ref z42, .ref z43, .ref z44, .ref z45, .ref z46, .ref z47, .ref z48, .int 0, .int 10, .int 0, .int 0, .int 0, .int 0, .ref z55, .ref z56, .int 0, .int 0, .ref z59, .ref z60, .ref z61, .int 0, .long 0]))]) 3 gw_1472 gw_1473 gw_15 gw_1474 hd_X12_within hC hw (c_within_t γ l sp 1 99 hs2 hs3) ⟨by decide, by decide⟩ ⟨by decide, by decide⟩ hl.1 rfl rfl (Nat.le_of_ble_eq_true rfl) [] [0] rfl rfl rfl rfl (by decide) dX12_lives_16 (fun r w1 H locs hq hw => ?_)
  obtain ⟨rfl, rfl⟩ := hq
  have hw : kW γ A [(z, .inr (11, [.int 0, .int 0, .ref z2, .int 0, .int 0, .int 0, .int 0, .long 0, .int 0, .int 0, .ref z10, .ref z11, .ref z12, .ref z13, .ref z14, .ref z15, .ref z16, .ref z17, .ref z18, .ref z19, .int 0, .int 0, .ref z22, .ref z23, .ref z24, .ref z25, .ref z26, .ref z27, .ref z28, .ref z29, .ref z30, .ref z31, .ref z32, .ref z33, .int 0, .long 0, .ref z36, .ref z37, .ref z38, .ref z39, .ref z40, .ref z41, .ref z42, .ref z43, .ref z44, .ref z45, .ref z46, .ref z47, .ref z48, .int 0, .int 10, .int 0, .int 0, .int 0, .int 0, .ref z55, .ref z56, .int 0, .int 0, .ref z59, .ref z60, .ref z61, .int 0, .long 0]))] s H locs := hw
  refine W.eq (g2 := F0 m 19 ls [.int 1, .ref z]) rfl ?_
  refine lv_if_eq (tgt := 35) hx hb dX12_lives_19 (by decide) (fun h => absurd h (by decide)) (fun _ => ?_)
  refine lv_iload_n hx hb dX12_lives_22 rfl (lv_at hl 3 rfl) ?_
  refine lv_iconst (v := 0) hx hb dX12_lives_23 (by decide) ?_
  refine lv_iconst (v := 2) hx hb dX12_lives_24 (by decide) ?_
  refine k_S (wr := [(z, .inr (11, [.int 0, .int 0, .ref z2, .int 0, .int 0, .int 0, .int 0, .long 0, .int 0, .int 0, .ref z10, .ref z11, .ref z12, .ref z13, .ref z14, .ref z15, .ref z16, .ref z17, .ref z18, .ref z19, .int 0, .int 0, .ref z22, .ref z23, .ref z24, .ref z25, .ref z26, .ref z27, .ref z28, .ref z29, .ref z30, .ref z31, .ref z32, .ref z33, .int 0, .long 0, .ref z36, .ref z37, .ref z38, .ref z39, .ref z40, .ref z41, .ref z42, .ref z43, .ref z44, .ref z45, .ref z46, .ref z47, .ref z48, .int 0, .int 10, .int 0, .int 0, .int 0, .int 0, .ref z55, .ref z56, .int 0, .int 0, .ref z59, .ref z60, .ref z61, .int 0, .long 0]))]) 3 gw_1472 gw_1473 gw_15 gw_1474 hd_X12_within hC hw (c_within_l γ l wt 0 2 h1) ⟨by decide, by decide⟩ ⟨by decide, by decide⟩ hl.1 rfl rfl (Nat.le_of_ble_eq_true rfl) [] [0] rfl rfl rfl rfl (by decide) dX12_lives_25 (fun r w1 H locs hq hw => ?_)
  obtain ⟨rfl, rfl⟩ := hq
  have hw : kW γ A [(z, .inr (11, [.int 0, .int 0, .ref z2, .int 0, .int 0, .int 0, .int 0, .long 0, .int 0, .int 0, .ref z10, .ref z11, .ref z12, .ref z13, .ref z14, .ref z15, .ref z16, .ref z17, .ref z18, .ref z19, .int 0, .int 0, .ref z22, .ref z23, .ref z24, .ref z25, .ref z26, .ref z27, .ref z28, .ref z29, .ref z30, .ref z31, .ref z32, .ref z33, .int 0, .long 0, .ref z36, .ref z37, .ref z38, .ref z39, .ref z40, .ref z41, .ref z42, .ref z43, .ref z44, .ref z45, .ref z46, .ref z47, .ref z48, .int 0, .int 10, .int 0, .int 0, .int 0, .int 0, .ref z55, .ref z56, .int 0, .int 0, .ref z59, .ref z60, .ref z61, .int 0, .long 0]))] s H locs := hw
  refine W.eq (g2 := F0 m 28 ls [.int 0, .ref z]) rfl ?_
  refine lv_if_eq (tgt := 35) hx hb dX12_lives_28 (by decide) (fun _ => ?_) (fun h => absurd (by decide) h)
  refine lv_iconst (v := 1) hx hb dX12_lives_35 (by decide) ?_
  refine fs_RX12_143 hC hw 0 rfl rfl rfl (Nat.le_of_ble_eq_true rfl) dX12_lives_36 (fun H locs hw => ?_)
  have hw : kW γ A [(z, .inr (11, [.int 1, .int 0, .ref z2, .int 0, .int 0, .int 0, .int 0, .long 0, .int 0, .int 0, .ref z10, .ref z11, .ref z12, .ref z13, .ref z14, .ref z15, .ref z16, .ref z17, .ref z18, .ref z19, .int 0, .int 0, .ref z22, .ref z23, .ref z24, .ref z25, .ref z26, .ref z27, .ref z28, .ref z29, .ref z30, .ref z31, .ref z32, .ref z33, .int 0, .long 0, .ref z36, .ref z37, .ref z38, .ref z39, .ref z40, .ref z41, .ref z42, .ref z43, .ref z44, .ref z45, .ref z46, .ref z47, .ref z48, .int 0, .int 10, .int 0, .int 0, .int 0, .int 0, .ref z55, .ref z56, .int 0, .int 0, .ref z59, .ref z60, .ref z61, .int 0, .long 0]))] s H locs := hw
  refine lv_aload_n hx hb dX12_lives_39 rfl (lv_at hl 0 rfl) ?_
  refine fg_RX12_143 hC hw 0 rfl rfl dX12_lives_40 ?_
  refine lv_iconst (v := 1) hx hb dX12_lives_43 (by decide) ?_
  refine lv_icmp_ne (tgt := 49) hx hb dX12_lives_44 (by decide) (fun h => absurd rfl h) (fun _ => ?_)
  refine lv_iconst (v := 0) hx hb dX12_lives_47 (by decide) ?_
  exact k_iret hC hr hlocks hw [0] rfl rfl ⟨rfl, rfl⟩ (by decide) (by decide) dX12_lives_48

set_option maxHeartbeats 4000000 in
set_option maxRecDepth 100000 in
theorem c_X12_lives_f (γ : kΓ) (l : Launch) (z : Nat) (z2 : Nat) (z10 : Nat) (z11 : Nat) (z12 : Nat) (z13 : Nat) (z14 : Nat) (z15 : Nat) (z16 : Nat) (z17 : Nat) (z18 : Nat) (z19 : Nat) (z22 : Nat) (z23 : Nat) (z24 : Nat) (z25 : Nat) (z26 : Nat) (z27 : Nat) (z28 : Nat) (z29 : Nat) (z30 : Nat) (z31 : Nat) (z32 : Nat) (z33 : Nat) (z36 : Nat) (z37 : Nat) (z38 : Nat) (z39 : Nat) (z40 : Nat) (z41 : Nat) (z42 : Nat) (z43 : Nat) (z44 : Nat) (z45 : Nat) (z46 : Nat) (z47 : Nat) (z48 : Nat) (z55 : Nat) (z56 : Nat) (z59 : Nat) (z60 : Nat) (z61 : Nat) (sd : Int32) (sp : Int32) (wt : Int32) (hs0 : ¬ sd < 0) (hs1 : ¬ 9999 < sd) (hs2 : ¬ sp < 1) (hs3 : ¬ 99 < sp) (h1 : ¬ wt < 0) (h2 : 2 < wt) : kM γ l yX12_lives cX12_lives 7 ((some .int)) ({ frames := 1, cells := 0, slots := 0, locals := 22 } : Room) [.ref z, .int sd, .int sp, .int wt] [(z, .inr (11, [.int 0, .int 0, .ref z2, .int 0, .int 0, .int 0, .int 0, .long 0, .int 0, .int 0, .ref z10, .ref z11, .ref z12, .ref z13, .ref z14, .ref z15, .ref z16, .ref z17, .ref z18, .ref z19, .int 0, .int 0, .ref z22, .ref z23, .ref z24, .ref z25, .ref z26, .ref z27, .ref z28, .ref z29, .ref z30, .ref z31, .ref z32, .ref z33, .int 0, .long 0, .ref z36, .ref z37, .ref z38, .ref z39, .ref z40, .ref z41, .ref z42, .ref z43, .ref z44, .ref z45, .ref z46, .ref z47, .ref z48, .int 0, .int 10, .int 0, .int 0, .int 0, .int 0, .ref z55, .ref z56, .int 0, .int 0, .ref z59, .ref z60, .ref z61, .int 0, .long 0]))] (fun r w1 => r = some (.int 0) ∧ w1 = [(z, .inr (11, [.int 1, .int 0, .ref z2, .int 0, .int 0, .int 0, .int 0, .long 0, .int 0, .int 0, .ref z10, .ref z11, .ref z12, .ref z13, .ref z14, .ref z15, .ref z16, .ref z17, .ref z18, .ref z19, .int 0, .int 0, .ref z22, .ref z23, .ref z24, .ref z25, .ref z26, .ref z27, .ref z28, .ref z29, .ref z30, .ref z31, .ref z32, .ref z33, .int 0, .long 0, .ref z36, .ref z37, .ref z38, .ref z39, .ref z40, .ref z41, .ref z42, .ref z43, .ref z44, .ref z45, .ref z46, .ref z47, .ref z48, .int 0, .int 10, .int 0, .int 0, .int 0, .int 0, .ref z55, .ref z56, .int 0, .int 0, .ref z59, .ref z60, .ref z61, .int 0, .long 0]))]) := by
  refine k_ofW (by decide) (Nat.le_of_ble_eq_true rfl) ?_
  intro p e s m below meth c A ls hC hr hlocks hname hw hl
  have hx := hC.1
  have hb := hC.2.1
  have hl : lv_has ls 7 [(0, .ref z), (1, .int sd), (2, .int sp), (3, .int wt)] := hl
  refine lv_aload_n hx hb dX12_lives_0 rfl (lv_at hl 0 rfl) ?_
  refine lv_iload_n hx hb dX12_lives_1 rfl (lv_at hl 1 rfl) ?_
  refine lv_iconst (v := 0) hx hb dX12_lives_2 (by decide) ?_
  refine lv_sipush (v := 9999) hx hb dX12_lives_3 (by decide) ?_
  refine k_S (wr := [(z, .inr (11, [.int 0, .int 0, .ref z2, .int 0, .int 0, .int 0, .int 0, .long 0, .int 0, .int 0, .ref z10, .ref z11, .ref z12, .ref z13, .ref z14, .ref z15, .ref z16, .ref z17, .ref z18, .ref z19, .int 0, .int 0, .ref z22, .ref z23, .ref z24, .ref z25, .ref z26, .ref z27, .ref z28, .ref z29, .ref z30, .ref z31, .ref z32, .ref z33, .int 0, .long 0, .ref z36, .ref z37, .ref z38, .ref z39, .ref z40, .ref z41, .ref z42, .ref z43, .ref z44, .ref z45, .ref z46, .ref z47, .ref z48, .int 0, .int 10, .int 0, .int 0, .int 0, .int 0, .ref z55, .ref z56, .int 0, .int 0, .ref z59, .ref z60, .ref z61, .int 0, .long 0]))]) 3 gw_1472 gw_1473 gw_15 gw_1474 hd_X12_within hC hw (c_within_t γ l sd 0 9999 hs0 hs1) ⟨by decide, by decide⟩ ⟨by decide, by decide⟩ hl.1 rfl rfl (Nat.le_of_ble_eq_true rfl) [] [0] rfl rfl rfl rfl (by decide) dX12_lives_6 (fun r w1 H locs hq hw => ?_)
  obtain ⟨rfl, rfl⟩ := hq
  have hw : kW γ A [(z, .inr (11, [.int 0, .int 0, .ref z2, .int 0, .int 0, .int 0, .int 0, .long 0, .int 0, .int 0, .ref z10, .ref z11, .ref z12, .ref z13, .ref z14, .ref z15, .ref z16, .ref z17, .ref z18, .ref z19, .int 0, .int 0, .ref z22, .ref z23, .ref z24, .ref z25, .ref z26, .ref z27, .ref z28, .ref z29, .ref z30, .ref z31, .ref z32, .ref z33, .int 0, .long 0, .ref z36, .ref z37, .ref z38, .ref z39, .ref z40, .ref z41, .ref z42, .ref z43, .ref z44, .ref z45, .ref z46, .ref z47, .ref z48, .int 0, .int 10, .int 0, .int 0, .int 0, .int 0, .ref z55, .ref z56, .int 0, .int 0, .ref z59, .ref z60, .ref z61, .int 0, .long 0]))] s H locs := hw
  refine W.eq (g2 := F0 m 9 ls [.int 1, .ref z]) rfl ?_
  refine lv_if_eq (tgt := 35) hx hb dX12_lives_9 (by decide) (fun h => absurd h (by decide)) (fun _ => ?_)
  refine lv_iload_n hx hb dX12_lives_12 rfl (lv_at hl 2 rfl) ?_
  refine lv_iconst (v := 1) hx hb dX12_lives_13 (by decide) ?_
  refine lv_bipush (v := 99) hx hb dX12_lives_14 (by decide) ?_
  refine k_S (wr := [(z, .inr (11, [.int 0, .int 0, .ref z2, .int 0, .int 0, .int 0, .int 0, .long 0, .int 0, .int 0, .ref z10, .ref z11, .ref z12, .ref z13, .ref z14, .ref z15, .ref z16, .ref z17, .ref z18, .ref z19, .int 0, .int 0, .ref z22, .ref z23, .ref z24, .ref z25, .ref z26, .ref z27, .ref z28, .ref z29, .ref z30, .ref z31, .ref z32, .ref z33, .int 0, .long 0, .ref z36, .ref z37, .ref z38, .ref z39, .ref z40, .ref z41, .ref z42, .ref z43, .ref z44, .ref z45, .ref z46, .ref z47, .ref z48, .int 0, .int 10, .int 0, .int 0, .int 0, .int 0, .ref z55, .ref z56, .int 0, .int 0, .ref z59, .ref z60, .ref z61, .int 0, .long 0]))]) 3 gw_1472 gw_1473 gw_15 gw_1474 hd_X12_within hC hw (c_within_t γ l sp 1 99 hs2 hs3) ⟨by decide, by decide⟩ ⟨by decide, by decide⟩ hl.1 rfl rfl (Nat.le_of_ble_eq_true rfl) [] [0] rfl rfl rfl rfl (by decide) dX12_lives_16 (fun r w1 H locs hq hw => ?_)
  obtain ⟨rfl, rfl⟩ := hq
  have hw : kW γ A [(z, .inr (11, [.int 0, .int 0, .ref z2, .int 0, .int 0, .int 0, .int 0, .long 0, .int 0, .int 0, .ref z10, .ref z11, .ref z12, .ref z13, .ref z14, .ref z15, .ref z16, .ref z17, .ref z18, .ref z19, .int 0, .int 0, .ref z22, .ref z23, .ref z24, .ref z25, .ref z26, .ref z27, .ref z28, .ref z29, .ref z30, .ref z31, .ref z32, .ref z33, .int 0, .long 0, .ref z36, .ref z37, .ref z38, .ref z39, .ref z40, .ref z41, .ref z42, .ref z43, .ref z44, .ref z45, .ref z46, .ref z47, .ref z48, .int 0, .int 10, .int 0, .int 0, .int 0, .int 0, .ref z55, .ref z56, .int 0, .int 0, .ref z59, .ref z60, .ref z61, .int 0, .long 0]))] s H locs := hw
  refine W.eq (g2 := F0 m 19 ls [.int 1, .ref z]) rfl ?_
  refine lv_if_eq (tgt := 35) hx hb dX12_lives_19 (by decide) (fun h => absurd h (by decide)) (fun _ => ?_)
  refine lv_iload_n hx hb dX12_lives_22 rfl (lv_at hl 3 rfl) ?_
  refine lv_iconst (v := 0) hx hb dX12_lives_23 (by decide) ?_
  refine lv_iconst (v := 2) hx hb dX12_lives_24 (by decide) ?_
  refine k_S (wr := [(z, .inr (11, [.int 0, .int 0, .ref z2, .int 0, .int 0, .int 0, .int 0, .long 0, .int 0, .int 0, .ref z10, .ref z11, .ref z12, .ref z13, .ref z14, .ref z15, .ref z16, .ref z17, .ref z18, .ref z19, .int 0, .int 0, .ref z22, .ref z23, .ref z24, .ref z25, .ref z26, .ref z27, .ref z28, .ref z29, .ref z30, .ref z31, .ref z32, .ref z33, .int 0, .long 0, .ref z36, .ref z37, .ref z38, .ref z39, .ref z40, .ref z41, .ref z42, .ref z43, .ref z44, .ref z45, .ref z46, .ref z47, .ref z48, .int 0, .int 10, .int 0, .int 0, .int 0, .int 0, .ref z55, .ref z56, .int 0, .int 0, .ref z59, .ref z60, .ref z61, .int 0, .long 0]))]) 3 gw_1472 gw_1473 gw_15 gw_1474 hd_X12_within hC hw (c_within_h γ l wt 0 2 h1 h2) ⟨by decide, by decide⟩ ⟨by decide, by decide⟩ hl.1 rfl rfl (Nat.le_of_ble_eq_true rfl) [] [0] rfl rfl rfl rfl (by decide) dX12_lives_25 (fun r w1 H locs hq hw => ?_)
  obtain ⟨rfl, rfl⟩ := hq
  have hw : kW γ A [(z, .inr (11, [.int 0, .int 0, .ref z2, .int 0, .int 0, .int 0, .int 0, .long 0, .int 0, .int 0, .ref z10, .ref z11, .ref z12, .ref z13, .ref z14, .ref z15, .ref z16, .ref z17, .ref z18, .ref z19, .int 0, .int 0, .ref z22, .ref z23, .ref z24, .ref z25, .ref z26, .ref z27, .ref z28, .ref z29, .ref z30, .ref z31, .ref z32, .ref z33, .int 0, .long 0, .ref z36, .ref z37, .ref z38, .ref z39, .ref z40, .ref z41, .ref z42, .ref z43, .ref z44, .ref z45, .ref z46, .ref z47, .ref z48, .int 0, .int 10, .int 0, .int 0, .int 0, .int 0, .ref z55, .ref z56, .int 0, .int 0, .ref z59, .ref z60, .ref z61, .int 0, .long 0]))] s H locs := hw
  refine W.eq (g2 := F0 m 28 ls [.int 0, .ref z]) rfl ?_
  refine lv_if_eq (tgt := 35) hx hb dX12_lives_28 (by decide) (fun _ => ?_) (fun h => absurd (by decide) h)
  refine lv_iconst (v := 1) hx hb dX12_lives_35 (by decide) ?_
  refine fs_RX12_143 hC hw 0 rfl rfl rfl (Nat.le_of_ble_eq_true rfl) dX12_lives_36 (fun H locs hw => ?_)
  have hw : kW γ A [(z, .inr (11, [.int 1, .int 0, .ref z2, .int 0, .int 0, .int 0, .int 0, .long 0, .int 0, .int 0, .ref z10, .ref z11, .ref z12, .ref z13, .ref z14, .ref z15, .ref z16, .ref z17, .ref z18, .ref z19, .int 0, .int 0, .ref z22, .ref z23, .ref z24, .ref z25, .ref z26, .ref z27, .ref z28, .ref z29, .ref z30, .ref z31, .ref z32, .ref z33, .int 0, .long 0, .ref z36, .ref z37, .ref z38, .ref z39, .ref z40, .ref z41, .ref z42, .ref z43, .ref z44, .ref z45, .ref z46, .ref z47, .ref z48, .int 0, .int 10, .int 0, .int 0, .int 0, .int 0, .ref z55, .ref z56, .int 0, .int 0, .ref z59, .ref z60, .ref z61, .int 0, .long 0]))] s H locs := hw
  refine lv_aload_n hx hb dX12_lives_39 rfl (lv_at hl 0 rfl) ?_
  refine fg_RX12_143 hC hw 0 rfl rfl dX12_lives_40 ?_
  refine lv_iconst (v := 1) hx hb dX12_lives_43 (by decide) ?_
  refine lv_icmp_ne (tgt := 49) hx hb dX12_lives_44 (by decide) (fun h => absurd rfl h) (fun _ => ?_)
  refine lv_iconst (v := 0) hx hb dX12_lives_47 (by decide) ?_
  exact k_iret hC hr hlocks hw [0] rfl rfl ⟨rfl, rfl⟩ (by decide) (by decide) dX12_lives_48

set_option maxHeartbeats 4000000 in
set_option maxRecDepth 100000 in
theorem c_X12_mark_0_0 (γ : kΓ) (l : Launch) (z : Nat) (z2 : Nat) (z10 : Nat) (z11 : Nat) (z12 : Nat) (z13 : Nat) (z14 : Nat) (z15 : Nat) (z16 : Nat) (z17 : Nat) (z18 : Nat) (z19 : Nat) (z22 : Nat) (z23 : Nat) (z24 : Nat) (z25 : Nat) (z26 : Nat) (z27 : Nat) (z28 : Nat) (z29 : Nat) (z30 : Nat) (z31 : Nat) (z32 : Nat) (z33 : Nat) (z36 : Nat) (z37 : Nat) (z38 : Nat) (z39 : Nat) (z40 : Nat) (z41 : Nat) (z42 : Nat) (z43 : Nat) (z44 : Nat) (z45 : Nat) (z46 : Nat) (z47 : Nat) (z48 : Nat) (z55 : Nat) (z56 : Nat) (z59 : Nat) (z60 : Nat) (z61 : Nat) (fs : Nat → Int32) (fk : Nat → Int32) : kM γ l yX12_mark cX12_mark 5 ((some .boolean)) ({ frames := 1, cells := 0, slots := 0, locals := 24 } : Room) [.ref z, .int 0, .int 0] [(z, .inr (11, [.int 0, .int 0, .ref z2, .int 0, .int 0, .int 0, .int 0, .long 0, .int 0, .int 0, .ref z10, .ref z11, .ref z12, .ref z13, .ref z14, .ref z15, .ref z16, .ref z17, .ref z18, .ref z19, .int 0, .int 0, .ref z22, .ref z23, .ref z24, .ref z25, .ref z26, .ref z27, .ref z28, .ref z29, .ref z30, .ref z31, .ref z32, .ref z33, .int 0, .long 0, .ref z36, .ref z37, .ref z38, .ref z39, .ref z40, .ref z41, .ref z42, .ref z43, .ref z44, .ref z45, .ref z46, .ref z47, .ref z48, .int 0, .int 10, .int 0, .int 0, .int 0, .int 0, .ref z55, .ref z56, .int 0, .int 0, .ref z59, .ref z60, .ref z61, .int 0, .long 0])), (z48, .inl (γ.2.1 3, 4, .inl (fun _ => 0))), (z36, .inl (γ.2.1 0, 6, .inl (fun _ => 0))), (z37, .inl (γ.2.1 0, 240, .inl (fun _ => 0))), (z38, .inl (γ.2.1 0, 240, .inl (fun _ => 0))), (z39, .inl (γ.2.1 0, 240, .inl (fun _ => 0))), (z40, .inl (γ.2.1 0, 5, .inl (fun _ => 0))), (z41, .inl (γ.2.1 0, 40, .inl (fun _ => 0))), (z42, .inl (γ.2.1 3, 40, .inl (fun _ => 0))), (z43, .inl (γ.2.1 0, 133, .inl fs)), (z46, .inl (γ.2.1 0, 532, .inl fk))] (fun r w1 => r = some (.int 1) ∧ w1 = []) := by
  refine k_ofW (by decide) (Nat.le_of_ble_eq_true rfl) ?_
  intro p e s m below meth c A ls hC hr hlocks hname hw hl
  have hx := hC.1
  have hb := hC.2.1
  have hl : lv_has ls 5 [(0, .ref z), (1, .int 0), (2, .int 0)] := hl
  refine lv_aload_n hx hb dX12_mark_0 rfl (lv_at hl 0 rfl) ?_
  refine lv_iconst (v := 0) hx hb dX12_mark_1 (by decide) ?_
  refine fs_RX12_143 hC hw 0 rfl rfl rfl (Nat.le_of_ble_eq_true rfl) dX12_mark_2 (fun H locs hw => ?_)
  have hw : kW γ A [(z, .inr (11, [.int 0, .int 0, .ref z2, .int 0, .int 0, .int 0, .int 0, .long 0, .int 0, .int 0, .ref z10, .ref z11, .ref z12, .ref z13, .ref z14, .ref z15, .ref z16, .ref z17, .ref z18, .ref z19, .int 0, .int 0, .ref z22, .ref z23, .ref z24, .ref z25, .ref z26, .ref z27, .ref z28, .ref z29, .ref z30, .ref z31, .ref z32, .ref z33, .int 0, .long 0, .ref z36, .ref z37, .ref z38, .ref z39, .ref z40, .ref z41, .ref z42, .ref z43, .ref z44, .ref z45, .ref z46, .ref z47, .ref z48, .int 0, .int 10, .int 0, .int 0, .int 0, .int 0, .ref z55, .ref z56, .int 0, .int 0, .ref z59, .ref z60, .ref z61, .int 0, .long 0])), (z48, .inl (γ.2.1 3, 4, .inl (fun _ => 0))), (z36, .inl (γ.2.1 0, 6, .inl (fun _ => 0))), (z37, .inl (γ.2.1 0, 240, .inl (fun _ => 0))), (z38, .inl (γ.2.1 0, 240, .inl (fun _ => 0))), (z39, .inl (γ.2.1 0, 240, .inl (fun _ => 0))), (z40, .inl (γ.2.1 0, 5, .inl (fun _ => 0))), (z41, .inl (γ.2.1 0, 40, .inl (fun _ => 0))), (z42, .inl (γ.2.1 3, 40, .inl (fun _ => 0))), (z43, .inl (γ.2.1 0, 133, .inl fs)), (z46, .inl (γ.2.1 0, 532, .inl fk))] s H locs := hw
  refine lv_iload_n hx hb dX12_mark_5 rfl (lv_at hl 1 rfl) ?_
  refine lv_iconst (v := 0) hx hb dX12_mark_6 (by decide) ?_
  refine lv_iconst (v := 3) hx hb dX12_mark_7 (by decide) ?_
  refine k_S (wr := [(z, .inr (11, [.int 0, .int 0, .ref z2, .int 0, .int 0, .int 0, .int 0, .long 0, .int 0, .int 0, .ref z10, .ref z11, .ref z12, .ref z13, .ref z14, .ref z15, .ref z16, .ref z17, .ref z18, .ref z19, .int 0, .int 0, .ref z22, .ref z23, .ref z24, .ref z25, .ref z26, .ref z27, .ref z28, .ref z29, .ref z30, .ref z31, .ref z32, .ref z33, .int 0, .long 0, .ref z36, .ref z37, .ref z38, .ref z39, .ref z40, .ref z41, .ref z42, .ref z43, .ref z44, .ref z45, .ref z46, .ref z47, .ref z48, .int 0, .int 10, .int 0, .int 0, .int 0, .int 0, .ref z55, .ref z56, .int 0, .int 0, .ref z59, .ref z60, .ref z61, .int 0, .long 0])), (z48, .inl (γ.2.1 3, 4, .inl (fun _ => 0))), (z36, .inl (γ.2.1 0, 6, .inl (fun _ => 0))), (z37, .inl (γ.2.1 0, 240, .inl (fun _ => 0))), (z38, .inl (γ.2.1 0, 240, .inl (fun _ => 0))), (z39, .inl (γ.2.1 0, 240, .inl (fun _ => 0))), (z40, .inl (γ.2.1 0, 5, .inl (fun _ => 0))), (z41, .inl (γ.2.1 0, 40, .inl (fun _ => 0))), (z42, .inl (γ.2.1 3, 40, .inl (fun _ => 0))), (z43, .inl (γ.2.1 0, 133, .inl fs)), (z46, .inl (γ.2.1 0, 532, .inl fk))]) 3 gw_1472 gw_1473 gw_15 gw_1474 hd_X12_within hC hw (c_within_t γ l 0 0 3 (by decide) (by decide)) ⟨by decide, by decide⟩ ⟨by decide, by decide⟩ hl.1 rfl rfl (Nat.le_of_ble_eq_true rfl) [] [0, 1, 2, 3, 4, 5, 6, 7, 8, 9, 10] rfl rfl rfl rfl (by decide) dX12_mark_8 (fun r w1 H locs hq hw => ?_)
  obtain ⟨rfl, rfl⟩ := hq
  have hw : kW γ A [(z, .inr (11, [.int 0, .int 0, .ref z2, .int 0, .int 0, .int 0, .int 0, .long 0, .int 0, .int 0, .ref z10, .ref z11, .ref z12, .ref z13, .ref z14, .ref z15, .ref z16, .ref z17, .ref z18, .ref z19, .int 0, .int 0, .ref z22, .ref z23, .ref z24, .ref z25, .ref z26, .ref z27, .ref z28, .ref z29, .ref z30, .ref z31, .ref z32, .ref z33, .int 0, .long 0, .ref z36, .ref z37, .ref z38, .ref z39, .ref z40, .ref z41, .ref z42, .ref z43, .ref z44, .ref z45, .ref z46, .ref z47, .ref z48, .int 0, .int 10, .int 0, .int 0, .int 0, .int 0, .ref z55, .ref z56, .int 0, .int 0, .ref z59, .ref z60, .ref z61, .int 0, .long 0])), (z48, .inl (γ.2.1 3, 4, .inl (fun _ => 0))), (z36, .inl (γ.2.1 0, 6, .inl (fun _ => 0))), (z37, .inl (γ.2.1 0, 240, .inl (fun _ => 0))), (z38, .inl (γ.2.1 0, 240, .inl (fun _ => 0))), (z39, .inl (γ.2.1 0, 240, .inl (fun _ => 0))), (z40, .inl (γ.2.1 0, 5, .inl (fun _ => 0))), (z41, .inl (γ.2.1 0, 40, .inl (fun _ => 0))), (z42, .inl (γ.2.1 3, 40, .inl (fun _ => 0))), (z43, .inl (γ.2.1 0, 133, .inl fs)), (z46, .inl (γ.2.1 0, 532, .inl fk))] s H locs := hw
  refine W.eq (g2 := F0 m 11 ls [.int 1]) rfl ?_
  refine lv_if_eq (tgt := 27) hx hb dX12_mark_11 (by decide) (fun h => absurd h (by decide)) (fun _ => ?_)
  refine lv_iload_n hx hb dX12_mark_14 rfl (lv_at hl 2 rfl) ?_
  refine lv_if_eq (tgt := 29) hx hb dX12_mark_15 (by decide) (fun _ => ?_) (fun h => absurd (by decide) h)
  refine lv_aload_n hx hb dX12_mark_29 rfl (lv_at hl 0 rfl) ?_
  refine fg_RX12_117 hC hw 0 rfl rfl dX12_mark_30 ?_
  refine lv_iload_n hx hb dX12_mark_33 rfl (lv_at hl 1 rfl) ?_
  refine lv_iconst (v := 1) hx hb dX12_mark_34 (by decide) ?_
  refine k_zast hC hw 1 rfl (k_in0 (by decide)) dX12_mark_35 (fun H locs hw => ?_)
  obtain ⟨f_1417, ef_1417⟩ : ∃ g, g = upd (fun _ => 0) (0 : Int32).toNatClampNeg (vp_nar .boolean 1) := ⟨_, rfl⟩
  have hw : kW γ A [(z, .inr (11, [.int 0, .int 0, .ref z2, .int 0, .int 0, .int 0, .int 0, .long 0, .int 0, .int 0, .ref z10, .ref z11, .ref z12, .ref z13, .ref z14, .ref z15, .ref z16, .ref z17, .ref z18, .ref z19, .int 0, .int 0, .ref z22, .ref z23, .ref z24, .ref z25, .ref z26, .ref z27, .ref z28, .ref z29, .ref z30, .ref z31, .ref z32, .ref z33, .int 0, .long 0, .ref z36, .ref z37, .ref z38, .ref z39, .ref z40, .ref z41, .ref z42, .ref z43, .ref z44, .ref z45, .ref z46, .ref z47, .ref z48, .int 0, .int 10, .int 0, .int 0, .int 0, .int 0, .ref z55, .ref z56, .int 0, .int 0, .ref z59, .ref z60, .ref z61, .int 0, .long 0])), (z48, .inl (γ.2.1 3, 4, .inl f_1417)), (z36, .inl (γ.2.1 0, 6, .inl (fun _ => 0))), (z37, .inl (γ.2.1 0, 240, .inl (fun _ => 0))), (z38, .inl (γ.2.1 0, 240, .inl (fun _ => 0))), (z39, .inl (γ.2.1 0, 240, .inl (fun _ => 0))), (z40, .inl (γ.2.1 0, 5, .inl (fun _ => 0))), (z41, .inl (γ.2.1 0, 40, .inl (fun _ => 0))), (z42, .inl (γ.2.1 3, 40, .inl (fun _ => 0))), (z43, .inl (γ.2.1 0, 133, .inl fs)), (z46, .inl (γ.2.1 0, 532, .inl fk))] s H locs := by rw [ef_1417]; exact hw
  refine lv_iload_n hx hb dX12_mark_36 rfl (lv_at hl 2 rfl) ?_
  refine lv_if_eq (tgt := 46) hx hb dX12_mark_37 (by decide) (fun _ => ?_) (fun h => absurd (by decide) h)
  refine lv_iconst (v := 0) hx hb dX12_mark_46 (by decide) ?_
  refine lv_istore_n (lv' := [(3, .int 0), (0, .ref z), (1, .int 0), (2, .int 0)]) hx hb dX12_mark_47 rfl hl (by decide) rfl (fun ls hl => ?_)
  refine lv_iload_n hx hb dX12_mark_48 rfl (lv_at hl 3 rfl) ?_
  refine lv_if_eq (tgt := 56) hx hb dX12_mark_49 (by decide) (fun _ => ?_) (fun h => absurd (by decide) h)
  refine lv_iconst (v := 1) hx hb dX12_mark_56 (by decide) ?_
  refine lv_iload_n hx hb dX12_mark_57 rfl (lv_at hl 2 rfl) ?_
  refine lv_iadd hx hb dX12_mark_58 ?_
  refine lv_topi (fun x_1418 ex_1418 => ?_)
  obtain rfl : x_1418 = 1 := ex_1418.trans (by decide)
  refine lv_istore (lv' := [(4, .int 1), (3, .int 0), (0, .ref z), (1, .int 0), (2, .int 0)]) hx hb dX12_mark_59 hl (by decide) rfl (fun ls hl => ?_)
  refine lv_aload_n hx hb dX12_mark_61 rfl (lv_at hl 2 rfl) ?_
  refine lv_iload_n hx hb dX12_mark_62 rfl (lv_at hl 1 rfl) ?_
  refine lv_iload hx hb dX12_mark_63 (lv_at hl 0 rfl) ?_
  refine k_V (wr := [(z48, .inl (γ.2.1 3, 4, .inl f_1417)), (z40, .inl (γ.2.1 0, 5, .inl (fun _ => 0))), (z41, .inl (γ.2.1 0, 40, .inl (fun _ => 0))), (z42, .inl (γ.2.1 3, 40, .inl (fun _ => 0))), (z43, .inl (γ.2.1 0, 133, .inl fs)), (z46, .inl (γ.2.1 0, 532, .inl fk))]) 2 gw_1541 gw_1543 gp_78 gw_15 gw_1544 hd_X12_laysLines hC hw (c_X12_laysLines γ l z z2 z10 z11 z12 z13 z14 z15 z16 z17 z18 z19 z22 z23 z24 z25 z26 z27 z28 z29 z30 z31 z32 z33 z36 z37 z38 z39 z40 z41 z42 z43 z44 z45 z46 z47 z48 z55 z56 z59 z60 z61 0 0 0 0 0 0 0 0 0 0 0 0 0 0 10 0 0 0 0 0 0 0 0 (fun _ => 0) (fun _ => 0) (fun _ => 0) (fun _ => 0) 0 1 (by decide) (by decide)) ⟨by decide, by decide⟩ ⟨by decide, by decide⟩ hl.1 rfl 0 rfl rfl rfl (Nat.le_of_ble_eq_true rfl) [0, 2, 3, 4, 5] [1, 6, 7, 8, 9, 10] rfl rfl rfl rfl (by decide) dX12_mark_65 (fun r w1 H locs hq hw => ?_)
  obtain ⟨k0_1419, kg0_1420, kg1_1421, kg2_1422, rfl, rfl⟩ := hq
  have hw : kW γ A [(z48, .inl (γ.2.1 3, 4, .inl f_1417)), (z40, .inl (γ.2.1 0, 5, .inl (fun _ => 0))), (z41, .inl (γ.2.1 0, 40, .inl (fun _ => 0))), (z42, .inl (γ.2.1 3, 40, .inl (fun _ => 0))), (z43, .inl (γ.2.1 0, 133, .inl fs)), (z46, .inl (γ.2.1 0, 532, .inl fk)), (z, .inr (11, [.int 0, .int 0, .ref z2, .int 0, .int 0, .int 0, .int 0, .long 0, .int 0, .int 0, .ref z10, .ref z11, .ref z12, .ref z13, .ref z14, .ref z15, .ref z16, .ref z17, .ref z18, .ref z19, .int 0, .int 0, .ref z22, .ref z23, .ref z24, .ref z25, .ref z26, .ref z27, .ref z28, .ref z29, .ref z30, .ref z31, .ref z32, .ref z33, .int 0, .long 0, .ref z36, .ref z37, .ref z38, .ref z39, .ref z40, .ref z41, .ref z42, .ref z43, .ref z44, .ref z45, .ref z46, .ref z47, .ref z48, .int 0, .int 10, .int 0, .int 0, .int 0, .int 0, .ref z55, .ref z56, .int 0, .int 0, .ref z59, .ref z60, .ref z61, .int 0, .long 0])), (z36, .inl (γ.2.1 0, 6, .inl k0_1419)), (z37, .inl (γ.2.1 0, 240, .inl kg0_1420)), (z38, .inl (γ.2.1 0, 240, .inl kg1_1421)), (z39, .inl (γ.2.1 0, 240, .inl kg2_1422))] s H locs := hw
  refine W.eq (g2 := F0 m 68 ls []) rfl ?_
  refine lv_aload_n hx hb dX12_mark_68 rfl (lv_at hl 2 rfl) ?_
  refine lv_iload_n hx hb dX12_mark_69 rfl (lv_at hl 1 rfl) ?_
  refine lv_iload hx hb dX12_mark_70 (lv_at hl 0 rfl) ?_
  refine k_V (wr := [(z48, .inl (γ.2.1 3, 4, .inl f_1417)), (z43, .inl (γ.2.1 0, 133, .inl fs)), (z46, .inl (γ.2.1 0, 532, .inl fk)), (z36, .inl (γ.2.1 0, 6, .inl k0_1419)), (z37, .inl (γ.2.1 0, 240, .inl kg0_1420)), (z38, .inl (γ.2.1 0, 240, .inl kg1_1421)), (z39, .inl (γ.2.1 0, 240, .inl kg2_1422))]) 2 gw_1807 gw_1809 gp_112 gw_15 gw_1810 hd_X12_laysGuesses hC hw (c_X12_laysGuesses γ l z z2 z10 z11 z12 z13 z14 z15 z16 z17 z18 z19 z22 z23 z24 z25 z26 z27 z28 z29 z30 z31 z32 z33 z36 z37 z38 z39 z40 z41 z42 z43 z44 z45 z46 z47 z48 z55 z56 z59 z60 z61 0 0 0 0 0 0 0 0 0 0 0 0 0 0 10 0 0 0 0 0 0 0 0 (fun _ => 0) (fun _ => 0) (fun _ => 0) 0 1 (by decide) (by decide)) ⟨by decide, by decide⟩ ⟨by decide, by decide⟩ hl.1 rfl 6 rfl rfl rfl (Nat.le_of_ble_eq_true rfl) [6, 1, 2, 3] [0, 4, 5, 7, 8, 9, 10] rfl rfl rfl rfl (by decide) dX12_mark_72 (fun r w1 H locs hq hw => ?_)
  obtain ⟨k0_1423, kg0_1424, kg1_1425, rfl, rfl⟩ := hq
  have hw : kW γ A [(z48, .inl (γ.2.1 3, 4, .inl f_1417)), (z43, .inl (γ.2.1 0, 133, .inl fs)), (z46, .inl (γ.2.1 0, 532, .inl fk)), (z36, .inl (γ.2.1 0, 6, .inl k0_1419)), (z37, .inl (γ.2.1 0, 240, .inl kg0_1420)), (z38, .inl (γ.2.1 0, 240, .inl kg1_1421)), (z39, .inl (γ.2.1 0, 240, .inl kg2_1422)), (z, .inr (11, [.int 0, .int 0, .ref z2, .int 0, .int 0, .int 0, .int 0, .long 0, .int 0, .int 0, .ref z10, .ref z11, .ref z12, .ref z13, .ref z14, .ref z15, .ref z16, .ref z17, .ref z18, .ref z19, .int 0, .int 0, .ref z22, .ref z23, .ref z24, .ref z25, .ref z26, .ref z27, .ref z28, .ref z29, .ref z30, .ref z31, .ref z32, .ref z33, .int 0, .long 0, .ref z36, .ref z37, .ref z38, .ref z39, .ref z40, .ref z41, .ref z42, .ref z43, .ref z44, .ref z45, .ref z46, .ref z47, .ref z48, .int 0, .int 10, .int 0, .int 0, .int 0, .int 0, .ref z55, .ref z56, .int 0, .int 0, .ref z59, .ref z60, .ref z61, .int 0, .long 0])), (z40, .inl (γ.2.1 0, 5, .inl k0_1423)), (z41, .inl (γ.2.1 0, 40, .inl kg0_1424)), (z42, .inl (γ.2.1 3, 40, .inl kg1_1425))] s H locs := hw
  refine W.eq (g2 := F0 m 75 ls []) rfl ?_
  refine lv_iload_n hx hb dX12_mark_75 rfl (lv_at hl 4 rfl) ?_
  refine lv_if_eq (tgt := 104) hx hb dX12_mark_76 (by decide) (fun _ => ?_) (fun h => absurd (by decide) h)
  refine lv_aload_n hx hb dX12_mark_104 rfl (lv_at hl 2 rfl) ?_
  refine fg_RX12_102 hC hw 7 rfl rfl dX12_mark_105 ?_
  refine lv_iconst (v := 0) hx hb dX12_mark_108 (by decide) ?_
  refine lv_aload_n hx hb dX12_mark_109 rfl (lv_at hl 2 rfl) ?_
  refine fg_RX12_111 hC hw 7 rfl rfl dX12_mark_110 ?_
  refine lv_sipush (v := 133) hx hb dX12_mark_113 (by decide) ?_
  refine lv_iload_n hx hb dX12_mark_116 rfl (lv_at hl 3 rfl) ?_
  refine lv_imul hx hb dX12_mark_117 ?_
  refine lv_topi (fun x_1426 ex_1426 => ?_)
  obtain rfl : x_1426 = 0 := ex_1426.trans (by decide)
  refine k_S (wr := [(z48, .inl (γ.2.1 3, 4, .inl f_1417)), (z36, .inl (γ.2.1 0, 6, .inl k0_1419)), (z37, .inl (γ.2.1 0, 240, .inl kg0_1420)), (z38, .inl (γ.2.1 0, 240, .inl kg1_1421)), (z39, .inl (γ.2.1 0, 240, .inl kg2_1422)), (z, .inr (11, [.int 0, .int 0, .ref z2, .int 0, .int 0, .int 0, .int 0, .long 0, .int 0, .int 0, .ref z10, .ref z11, .ref z12, .ref z13, .ref z14, .ref z15, .ref z16, .ref z17, .ref z18, .ref z19, .int 0, .int 0, .ref z22, .ref z23, .ref z24, .ref z25, .ref z26, .ref z27, .ref z28, .ref z29, .ref z30, .ref z31, .ref z32, .ref z33, .int 0, .long 0, .ref z36, .ref z37, .ref z38, .ref z39, .ref z40, .ref z41, .ref z42, .ref z43, .ref z44, .ref z45, .ref z46, .ref z47, .ref z48, .int 0, .int 10, .int 0, .int 0, .int 0, .int 0, .ref z55, .ref z56, .int 0, .int 0, .ref z59, .ref z60, .ref z61, .int 0, .long 0])), (z40, .inl (γ.2.1 0, 5, .inl k0_1423)), (z41, .inl (γ.2.1 0, 40, .inl kg0_1424)), (z42, .inl (γ.2.1 3, 40, .inl kg1_1425))]) 4 gw_1593 gw_1594 gw_15 gw_1595 hd_X12_copies hC hw (c_X12_copies γ l z43 133 fs 0 z46 532 fk 0 (by decide) (by decide) (by decide) (by decide)) ⟨by decide, by decide⟩ ⟨by decide, by decide⟩ hl.1 rfl rfl (Nat.le_of_ble_eq_true rfl) [1, 2] [0, 3, 4, 5, 6, 7, 8, 9, 10] rfl rfl rfl rfl (by decide) dX12_mark_118 (fun r w1 H locs hq hw => ?_)
  obtain ⟨f9_1427, rfl, rfl⟩ := hq
  have hw : kW γ A [(z48, .inl (γ.2.1 3, 4, .inl f_1417)), (z36, .inl (γ.2.1 0, 6, .inl k0_1419)), (z37, .inl (γ.2.1 0, 240, .inl kg0_1420)), (z38, .inl (γ.2.1 0, 240, .inl kg1_1421)), (z39, .inl (γ.2.1 0, 240, .inl kg2_1422)), (z, .inr (11, [.int 0, .int 0, .ref z2, .int 0, .int 0, .int 0, .int 0, .long 0, .int 0, .int 0, .ref z10, .ref z11, .ref z12, .ref z13, .ref z14, .ref z15, .ref z16, .ref z17, .ref z18, .ref z19, .int 0, .int 0, .ref z22, .ref z23, .ref z24, .ref z25, .ref z26, .ref z27, .ref z28, .ref z29, .ref z30, .ref z31, .ref z32, .ref z33, .int 0, .long 0, .ref z36, .ref z37, .ref z38, .ref z39, .ref z40, .ref z41, .ref z42, .ref z43, .ref z44, .ref z45, .ref z46, .ref z47, .ref z48, .int 0, .int 10, .int 0, .int 0, .int 0, .int 0, .ref z55, .ref z56, .int 0, .int 0, .ref z59, .ref z60, .ref z61, .int 0, .long 0])), (z40, .inl (γ.2.1 0, 5, .inl k0_1423)), (z41, .inl (γ.2.1 0, 40, .inl kg0_1424)), (z42, .inl (γ.2.1 3, 40, .inl kg1_1425)), (z43, .inl (γ.2.1 0, 133, .inl fs)), (z46, .inl (γ.2.1 0, 532, .inl f9_1427))] s H locs := hw
  refine W.eq (g2 := F0 m 121 ls []) rfl ?_
  refine lv_iconst (v := 1) hx hb dX12_mark_121 (by decide) ?_
  exact k_zret hC hr hlocks rfl hw [] rfl rfl ⟨rfl, rfl⟩ (by decide) (by decide) dX12_mark_122

set_option maxHeartbeats 4000000 in
set_option maxRecDepth 100000 in
theorem c_X12_mark_0_1 (γ : kΓ) (l : Launch) (z : Nat) (z2 : Nat) (z10 : Nat) (z11 : Nat) (z12 : Nat) (z13 : Nat) (z14 : Nat) (z15 : Nat) (z16 : Nat) (z17 : Nat) (z18 : Nat) (z19 : Nat) (z22 : Nat) (z23 : Nat) (z24 : Nat) (z25 : Nat) (z26 : Nat) (z27 : Nat) (z28 : Nat) (z29 : Nat) (z30 : Nat) (z31 : Nat) (z32 : Nat) (z33 : Nat) (z36 : Nat) (z37 : Nat) (z38 : Nat) (z39 : Nat) (z40 : Nat) (z41 : Nat) (z42 : Nat) (z43 : Nat) (z44 : Nat) (z45 : Nat) (z46 : Nat) (z47 : Nat) (z48 : Nat) (z55 : Nat) (z56 : Nat) (z59 : Nat) (z60 : Nat) (z61 : Nat) : kM γ l yX12_mark cX12_mark 5 ((some .boolean)) ({ frames := 1, cells := 0, slots := 0, locals := 22 } : Room) [.ref z, .int 0, .int 1] [(z, .inr (11, [.int 0, .int 0, .ref z2, .int 0, .int 0, .int 0, .int 0, .long 0, .int 0, .int 0, .ref z10, .ref z11, .ref z12, .ref z13, .ref z14, .ref z15, .ref z16, .ref z17, .ref z18, .ref z19, .int 0, .int 0, .ref z22, .ref z23, .ref z24, .ref z25, .ref z26, .ref z27, .ref z28, .ref z29, .ref z30, .ref z31, .ref z32, .ref z33, .int 0, .long 0, .ref z36, .ref z37, .ref z38, .ref z39, .ref z40, .ref z41, .ref z42, .ref z43, .ref z44, .ref z45, .ref z46, .ref z47, .ref z48, .int 0, .int 10, .int 0, .int 0, .int 0, .int 0, .ref z55, .ref z56, .int 0, .int 0, .ref z59, .ref z60, .ref z61, .int 0, .long 0])), (z48, .inl (γ.2.1 3, 4, .inl (fun _ => 0)))] (fun r w1 => r = some (.int 0) ∧ w1 = []) := by
  refine k_ofW (by decide) (Nat.le_of_ble_eq_true rfl) ?_
  intro p e s m below meth c A ls hC hr hlocks hname hw hl
  have hx := hC.1
  have hb := hC.2.1
  have hl : lv_has ls 5 [(0, .ref z), (1, .int 0), (2, .int 1)] := hl
  refine lv_aload_n hx hb dX12_mark_0 rfl (lv_at hl 0 rfl) ?_
  refine lv_iconst (v := 0) hx hb dX12_mark_1 (by decide) ?_
  refine fs_RX12_143 hC hw 0 rfl rfl rfl (Nat.le_of_ble_eq_true rfl) dX12_mark_2 (fun H locs hw => ?_)
  have hw : kW γ A [(z, .inr (11, [.int 0, .int 0, .ref z2, .int 0, .int 0, .int 0, .int 0, .long 0, .int 0, .int 0, .ref z10, .ref z11, .ref z12, .ref z13, .ref z14, .ref z15, .ref z16, .ref z17, .ref z18, .ref z19, .int 0, .int 0, .ref z22, .ref z23, .ref z24, .ref z25, .ref z26, .ref z27, .ref z28, .ref z29, .ref z30, .ref z31, .ref z32, .ref z33, .int 0, .long 0, .ref z36, .ref z37, .ref z38, .ref z39, .ref z40, .ref z41, .ref z42, .ref z43, .ref z44, .ref z45, .ref z46, .ref z47, .ref z48, .int 0, .int 10, .int 0, .int 0, .int 0, .int 0, .ref z55, .ref z56, .int 0, .int 0, .ref z59, .ref z60, .ref z61, .int 0, .long 0])), (z48, .inl (γ.2.1 3, 4, .inl (fun _ => 0)))] s H locs := hw
  refine lv_iload_n hx hb dX12_mark_5 rfl (lv_at hl 1 rfl) ?_
  refine lv_iconst (v := 0) hx hb dX12_mark_6 (by decide) ?_
  refine lv_iconst (v := 3) hx hb dX12_mark_7 (by decide) ?_
  refine k_S (wr := [(z, .inr (11, [.int 0, .int 0, .ref z2, .int 0, .int 0, .int 0, .int 0, .long 0, .int 0, .int 0, .ref z10, .ref z11, .ref z12, .ref z13, .ref z14, .ref z15, .ref z16, .ref z17, .ref z18, .ref z19, .int 0, .int 0, .ref z22, .ref z23, .ref z24, .ref z25, .ref z26, .ref z27, .ref z28, .ref z29, .ref z30, .ref z31, .ref z32, .ref z33, .int 0, .long 0, .ref z36, .ref z37, .ref z38, .ref z39, .ref z40, .ref z41, .ref z42, .ref z43, .ref z44, .ref z45, .ref z46, .ref z47, .ref z48, .int 0, .int 10, .int 0, .int 0, .int 0, .int 0, .ref z55, .ref z56, .int 0, .int 0, .ref z59, .ref z60, .ref z61, .int 0, .long 0])), (z48, .inl (γ.2.1 3, 4, .inl (fun _ => 0)))]) 3 gw_1472 gw_1473 gw_15 gw_1474 hd_X12_within hC hw (c_within_t γ l 0 0 3 (by decide) (by decide)) ⟨by decide, by decide⟩ ⟨by decide, by decide⟩ hl.1 rfl rfl (Nat.le_of_ble_eq_true rfl) [] [0, 1] rfl rfl rfl rfl (by decide) dX12_mark_8 (fun r w1 H locs hq hw => ?_)
  obtain ⟨rfl, rfl⟩ := hq
  have hw : kW γ A [(z, .inr (11, [.int 0, .int 0, .ref z2, .int 0, .int 0, .int 0, .int 0, .long 0, .int 0, .int 0, .ref z10, .ref z11, .ref z12, .ref z13, .ref z14, .ref z15, .ref z16, .ref z17, .ref z18, .ref z19, .int 0, .int 0, .ref z22, .ref z23, .ref z24, .ref z25, .ref z26, .ref z27, .ref z28, .ref z29, .ref z30, .ref z31, .ref z32, .ref z33, .int 0, .long 0, .ref z36, .ref z37, .ref z38, .ref z39, .ref z40, .ref z41, .ref z42, .ref z43, .ref z44, .ref z45, .ref z46, .ref z47, .ref z48, .int 0, .int 10, .int 0, .int 0, .int 0, .int 0, .ref z55, .ref z56, .int 0, .int 0, .ref z59, .ref z60, .ref z61, .int 0, .long 0])), (z48, .inl (γ.2.1 3, 4, .inl (fun _ => 0)))] s H locs := hw
  refine W.eq (g2 := F0 m 11 ls [.int 1]) rfl ?_
  refine lv_if_eq (tgt := 27) hx hb dX12_mark_11 (by decide) (fun h => absurd h (by decide)) (fun _ => ?_)
  refine lv_iload_n hx hb dX12_mark_14 rfl (lv_at hl 2 rfl) ?_
  refine lv_if_eq (tgt := 29) hx hb dX12_mark_15 (by decide) (fun h => absurd h (by decide)) (fun _ => ?_)
  refine lv_aload_n hx hb dX12_mark_18 rfl (lv_at hl 0 rfl) ?_
  refine fg_RX12_117 hC hw 0 rfl rfl dX12_mark_19 ?_
  refine lv_iload_n hx hb dX12_mark_22 rfl (lv_at hl 1 rfl) ?_
  refine k_zald hC hw 1 rfl (k_in0 (by decide)) dX12_mark_23 ?_
  refine lv_topi (fun x_1428 ex_1428 => ?_)
  obtain rfl : x_1428 = 0 := ex_1428
  refine lv_if_ne (tgt := 29) hx hb dX12_mark_24 (by decide) (fun h => absurd rfl h) (fun _ => ?_)
  refine lv_iconst (v := 0) hx hb dX12_mark_27 (by decide) ?_
  exact k_zret hC hr hlocks rfl hw [] rfl rfl ⟨rfl, rfl⟩ (by decide) (by decide) dX12_mark_28

set_option maxHeartbeats 4000000 in
set_option maxRecDepth 100000 in
theorem c_X12_mark_1_0 (γ : kΓ) (l : Launch) (z : Nat) (z2 : Nat) (z10 : Nat) (z11 : Nat) (z12 : Nat) (z13 : Nat) (z14 : Nat) (z15 : Nat) (z16 : Nat) (z17 : Nat) (z18 : Nat) (z19 : Nat) (z22 : Nat) (z23 : Nat) (z24 : Nat) (z25 : Nat) (z26 : Nat) (z27 : Nat) (z28 : Nat) (z29 : Nat) (z30 : Nat) (z31 : Nat) (z32 : Nat) (z33 : Nat) (z36 : Nat) (z37 : Nat) (z38 : Nat) (z39 : Nat) (z40 : Nat) (z41 : Nat) (z42 : Nat) (z43 : Nat) (z44 : Nat) (z45 : Nat) (z46 : Nat) (z47 : Nat) (z48 : Nat) (z55 : Nat) (z56 : Nat) (z59 : Nat) (z60 : Nat) (z61 : Nat) (fs : Nat → Int32) (fk : Nat → Int32) : kM γ l yX12_mark cX12_mark 5 ((some .boolean)) ({ frames := 1, cells := 0, slots := 0, locals := 24 } : Room) [.ref z, .int 1, .int 0] [(z, .inr (11, [.int 0, .int 0, .ref z2, .int 0, .int 0, .int 0, .int 0, .long 0, .int 0, .int 0, .ref z10, .ref z11, .ref z12, .ref z13, .ref z14, .ref z15, .ref z16, .ref z17, .ref z18, .ref z19, .int 0, .int 0, .ref z22, .ref z23, .ref z24, .ref z25, .ref z26, .ref z27, .ref z28, .ref z29, .ref z30, .ref z31, .ref z32, .ref z33, .int 0, .long 0, .ref z36, .ref z37, .ref z38, .ref z39, .ref z40, .ref z41, .ref z42, .ref z43, .ref z44, .ref z45, .ref z46, .ref z47, .ref z48, .int 0, .int 10, .int 0, .int 0, .int 0, .int 0, .ref z55, .ref z56, .int 0, .int 0, .ref z59, .ref z60, .ref z61, .int 0, .long 0])), (z48, .inl (γ.2.1 3, 4, .inl (fun _ => 0))), (z36, .inl (γ.2.1 0, 6, .inl (fun _ => 0))), (z37, .inl (γ.2.1 0, 240, .inl (fun _ => 0))), (z38, .inl (γ.2.1 0, 240, .inl (fun _ => 0))), (z39, .inl (γ.2.1 0, 240, .inl (fun _ => 0))), (z40, .inl (γ.2.1 0, 5, .inl (fun _ => 0))), (z41, .inl (γ.2.1 0, 40, .inl (fun _ => 0))), (z42, .inl (γ.2.1 3, 40, .inl (fun _ => 0))), (z43, .inl (γ.2.1 0, 133, .inl fs)), (z46, .inl (γ.2.1 0, 532, .inl fk))] (fun r w1 => r = some (.int 1) ∧ w1 = []) := by
  refine k_ofW (by decide) (Nat.le_of_ble_eq_true rfl) ?_
  intro p e s m below meth c A ls hC hr hlocks hname hw hl
  have hx := hC.1
  have hb := hC.2.1
  have hl : lv_has ls 5 [(0, .ref z), (1, .int 1), (2, .int 0)] := hl
  refine lv_aload_n hx hb dX12_mark_0 rfl (lv_at hl 0 rfl) ?_
  refine lv_iconst (v := 0) hx hb dX12_mark_1 (by decide) ?_
  refine fs_RX12_143 hC hw 0 rfl rfl rfl (Nat.le_of_ble_eq_true rfl) dX12_mark_2 (fun H locs hw => ?_)
  have hw : kW γ A [(z, .inr (11, [.int 0, .int 0, .ref z2, .int 0, .int 0, .int 0, .int 0, .long 0, .int 0, .int 0, .ref z10, .ref z11, .ref z12, .ref z13, .ref z14, .ref z15, .ref z16, .ref z17, .ref z18, .ref z19, .int 0, .int 0, .ref z22, .ref z23, .ref z24, .ref z25, .ref z26, .ref z27, .ref z28, .ref z29, .ref z30, .ref z31, .ref z32, .ref z33, .int 0, .long 0, .ref z36, .ref z37, .ref z38, .ref z39, .ref z40, .ref z41, .ref z42, .ref z43, .ref z44, .ref z45, .ref z46, .ref z47, .ref z48, .int 0, .int 10, .int 0, .int 0, .int 0, .int 0, .ref z55, .ref z56, .int 0, .int 0, .ref z59, .ref z60, .ref z61, .int 0, .long 0])), (z48, .inl (γ.2.1 3, 4, .inl (fun _ => 0))), (z36, .inl (γ.2.1 0, 6, .inl (fun _ => 0))), (z37, .inl (γ.2.1 0, 240, .inl (fun _ => 0))), (z38, .inl (γ.2.1 0, 240, .inl (fun _ => 0))), (z39, .inl (γ.2.1 0, 240, .inl (fun _ => 0))), (z40, .inl (γ.2.1 0, 5, .inl (fun _ => 0))), (z41, .inl (γ.2.1 0, 40, .inl (fun _ => 0))), (z42, .inl (γ.2.1 3, 40, .inl (fun _ => 0))), (z43, .inl (γ.2.1 0, 133, .inl fs)), (z46, .inl (γ.2.1 0, 532, .inl fk))] s H locs := hw
  refine lv_iload_n hx hb dX12_mark_5 rfl (lv_at hl 1 rfl) ?_
  refine lv_iconst (v := 0) hx hb dX12_mark_6 (by decide) ?_
  refine lv_iconst (v := 3) hx hb dX12_mark_7 (by decide) ?_
  refine k_S (wr := [(z, .inr (11, [.int 0, .int 0, .ref z2, .int 0, .int 0, .int 0, .int 0, .long 0, .int 0, .int 0, .ref z10, .ref z11, .ref z12, .ref z13, .ref z14, .ref z15, .ref z16, .ref z17, .ref z18, .ref z19, .int 0, .int 0, .ref z22, .ref z23, .ref z24, .ref z25, .ref z26, .ref z27, .ref z28, .ref z29, .ref z30, .ref z31, .ref z32, .ref z33, .int 0, .long 0, .ref z36, .ref z37, .ref z38, .ref z39, .ref z40, .ref z41, .ref z42, .ref z43, .ref z44, .ref z45, .ref z46, .ref z47, .ref z48, .int 0, .int 10, .int 0, .int 0, .int 0, .int 0, .ref z55, .ref z56, .int 0, .int 0, .ref z59, .ref z60, .ref z61, .int 0, .long 0])), (z48, .inl (γ.2.1 3, 4, .inl (fun _ => 0))), (z36, .inl (γ.2.1 0, 6, .inl (fun _ => 0))), (z37, .inl (γ.2.1 0, 240, .inl (fun _ => 0))), (z38, .inl (γ.2.1 0, 240, .inl (fun _ => 0))), (z39, .inl (γ.2.1 0, 240, .inl (fun _ => 0))), (z40, .inl (γ.2.1 0, 5, .inl (fun _ => 0))), (z41, .inl (γ.2.1 0, 40, .inl (fun _ => 0))), (z42, .inl (γ.2.1 3, 40, .inl (fun _ => 0))), (z43, .inl (γ.2.1 0, 133, .inl fs)), (z46, .inl (γ.2.1 0, 532, .inl fk))]) 3 gw_1472 gw_1473 gw_15 gw_1474 hd_X12_within hC hw (c_within_t γ l 1 0 3 (by decide) (by decide)) ⟨by decide, by decide⟩ ⟨by decide, by decide⟩ hl.1 rfl rfl (Nat.le_of_ble_eq_true rfl) [] [0, 1, 2, 3, 4, 5, 6, 7, 8, 9, 10] rfl rfl rfl rfl (by decide) dX12_mark_8 (fun r w1 H locs hq hw => ?_)
  obtain ⟨rfl, rfl⟩ := hq
  have hw : kW γ A [(z, .inr (11, [.int 0, .int 0, .ref z2, .int 0, .int 0, .int 0, .int 0, .long 0, .int 0, .int 0, .ref z10, .ref z11, .ref z12, .ref z13, .ref z14, .ref z15, .ref z16, .ref z17, .ref z18, .ref z19, .int 0, .int 0, .ref z22, .ref z23, .ref z24, .ref z25, .ref z26, .ref z27, .ref z28, .ref z29, .ref z30, .ref z31, .ref z32, .ref z33, .int 0, .long 0, .ref z36, .ref z37, .ref z38, .ref z39, .ref z40, .ref z41, .ref z42, .ref z43, .ref z44, .ref z45, .ref z46, .ref z47, .ref z48, .int 0, .int 10, .int 0, .int 0, .int 0, .int 0, .ref z55, .ref z56, .int 0, .int 0, .ref z59, .ref z60, .ref z61, .int 0, .long 0])), (z48, .inl (γ.2.1 3, 4, .inl (fun _ => 0))), (z36, .inl (γ.2.1 0, 6, .inl (fun _ => 0))), (z37, .inl (γ.2.1 0, 240, .inl (fun _ => 0))), (z38, .inl (γ.2.1 0, 240, .inl (fun _ => 0))), (z39, .inl (γ.2.1 0, 240, .inl (fun _ => 0))), (z40, .inl (γ.2.1 0, 5, .inl (fun _ => 0))), (z41, .inl (γ.2.1 0, 40, .inl (fun _ => 0))), (z42, .inl (γ.2.1 3, 40, .inl (fun _ => 0))), (z43, .inl (γ.2.1 0, 133, .inl fs)), (z46, .inl (γ.2.1 0, 532, .inl fk))] s H locs := hw
  refine W.eq (g2 := F0 m 11 ls [.int 1]) rfl ?_
  refine lv_if_eq (tgt := 27) hx hb dX12_mark_11 (by decide) (fun h => absurd h (by decide)) (fun _ => ?_)
  refine lv_iload_n hx hb dX12_mark_14 rfl (lv_at hl 2 rfl) ?_
  refine lv_if_eq (tgt := 29) hx hb dX12_mark_15 (by decide) (fun _ => ?_) (fun h => absurd (by decide) h)
  refine lv_aload_n hx hb dX12_mark_29 rfl (lv_at hl 0 rfl) ?_
  refine fg_RX12_117 hC hw 0 rfl rfl dX12_mark_30 ?_
  refine lv_iload_n hx hb dX12_mark_33 rfl (lv_at hl 1 rfl) ?_
  refine lv_iconst (v := 1) hx hb dX12_mark_34 (by decide) ?_
  refine k_zast hC hw 1 rfl (k_in0 (by decide)) dX12_mark_35 (fun H locs hw => ?_)
  obtain ⟨f_1429, ef_1429⟩ : ∃ g, g = upd (fun _ => 0) (1 : Int32).toNatClampNeg (vp_nar .boolean 1) := ⟨_, rfl⟩
  have hw : kW γ A [(z, .inr (11, [.int 0, .int 0, .ref z2, .int 0, .int 0, .int 0, .int 0, .long 0, .int 0, .int 0, .ref z10, .ref z11, .ref z12, .ref z13, .ref z14, .ref z15, .ref z16, .ref z17, .ref z18, .ref z19, .int 0, .int 0, .ref z22, .ref z23, .ref z24, .ref z25, .ref z26, .ref z27, .ref z28, .ref z29, .ref z30, .ref z31, .ref z32, .ref z33, .int 0, .long 0, .ref z36, .ref z37, .ref z38, .ref z39, .ref z40, .ref z41, .ref z42, .ref z43, .ref z44, .ref z45, .ref z46, .ref z47, .ref z48, .int 0, .int 10, .int 0, .int 0, .int 0, .int 0, .ref z55, .ref z56, .int 0, .int 0, .ref z59, .ref z60, .ref z61, .int 0, .long 0])), (z48, .inl (γ.2.1 3, 4, .inl f_1429)), (z36, .inl (γ.2.1 0, 6, .inl (fun _ => 0))), (z37, .inl (γ.2.1 0, 240, .inl (fun _ => 0))), (z38, .inl (γ.2.1 0, 240, .inl (fun _ => 0))), (z39, .inl (γ.2.1 0, 240, .inl (fun _ => 0))), (z40, .inl (γ.2.1 0, 5, .inl (fun _ => 0))), (z41, .inl (γ.2.1 0, 40, .inl (fun _ => 0))), (z42, .inl (γ.2.1 3, 40, .inl (fun _ => 0))), (z43, .inl (γ.2.1 0, 133, .inl fs)), (z46, .inl (γ.2.1 0, 532, .inl fk))] s H locs := by rw [ef_1429]; exact hw
  refine lv_iload_n hx hb dX12_mark_36 rfl (lv_at hl 2 rfl) ?_
  refine lv_if_eq (tgt := 46) hx hb dX12_mark_37 (by decide) (fun _ => ?_) (fun h => absurd (by decide) h)
  refine lv_iconst (v := 0) hx hb dX12_mark_46 (by decide) ?_
  refine lv_istore_n (lv' := [(3, .int 0), (0, .ref z), (1, .int 1), (2, .int 0)]) hx hb dX12_mark_47 rfl hl (by decide) rfl (fun ls hl => ?_)
  refine lv_iload_n hx hb dX12_mark_48 rfl (lv_at hl 3 rfl) ?_
  refine lv_if_eq (tgt := 56) hx hb dX12_mark_49 (by decide) (fun _ => ?_) (fun h => absurd (by decide) h)
  refine lv_iconst (v := 1) hx hb dX12_mark_56 (by decide) ?_
  refine lv_iload_n hx hb dX12_mark_57 rfl (lv_at hl 2 rfl) ?_
  refine lv_iadd hx hb dX12_mark_58 ?_
  refine lv_topi (fun x_1430 ex_1430 => ?_)
  obtain rfl : x_1430 = 2 := ex_1430.trans (by decide)
  refine lv_istore (lv' := [(4, .int 2), (3, .int 0), (0, .ref z), (1, .int 1), (2, .int 0)]) hx hb dX12_mark_59 hl (by decide) rfl (fun ls hl => ?_)
  refine lv_aload_n hx hb dX12_mark_61 rfl (lv_at hl 2 rfl) ?_
  refine lv_iload_n hx hb dX12_mark_62 rfl (lv_at hl 1 rfl) ?_
  refine lv_iload hx hb dX12_mark_63 (lv_at hl 0 rfl) ?_
  refine k_V (wr := [(z48, .inl (γ.2.1 3, 4, .inl f_1429)), (z40, .inl (γ.2.1 0, 5, .inl (fun _ => 0))), (z41, .inl (γ.2.1 0, 40, .inl (fun _ => 0))), (z42, .inl (γ.2.1 3, 40, .inl (fun _ => 0))), (z43, .inl (γ.2.1 0, 133, .inl fs)), (z46, .inl (γ.2.1 0, 532, .inl fk))]) 2 gw_1541 gw_1543 gp_78 gw_15 gw_1544 hd_X12_laysLines hC hw (c_X12_laysLines γ l z z2 z10 z11 z12 z13 z14 z15 z16 z17 z18 z19 z22 z23 z24 z25 z26 z27 z28 z29 z30 z31 z32 z33 z36 z37 z38 z39 z40 z41 z42 z43 z44 z45 z46 z47 z48 z55 z56 z59 z60 z61 0 0 0 0 0 0 0 0 0 0 0 0 0 0 10 0 0 0 0 0 0 0 0 (fun _ => 0) (fun _ => 0) (fun _ => 0) (fun _ => 0) 0 2 (by decide) (by decide)) ⟨by decide, by decide⟩ ⟨by decide, by decide⟩ hl.1 rfl 0 rfl rfl rfl (Nat.le_of_ble_eq_true rfl) [0, 2, 3, 4, 5] [1, 6, 7, 8, 9, 10] rfl rfl rfl rfl (by decide) dX12_mark_65 (fun r w1 H locs hq hw => ?_)
  obtain ⟨k0_1431, kg0_1432, kg1_1433, kg2_1434, rfl, rfl⟩ := hq
  have hw : kW γ A [(z48, .inl (γ.2.1 3, 4, .inl f_1429)), (z40, .inl (γ.2.1 0, 5, .inl (fun _ => 0))), (z41, .inl (γ.2.1 0, 40, .inl (fun _ => 0))), (z42, .inl (γ.2.1 3, 40, .inl (fun _ => 0))), (z43, .inl (γ.2.1 0, 133, .inl fs)), (z46, .inl (γ.2.1 0, 532, .inl fk)), (z, .inr (11, [.int 0, .int 0, .ref z2, .int 0, .int 0, .int 0, .int 0, .long 0, .int 0, .int 0, .ref z10, .ref z11, .ref z12, .ref z13, .ref z14, .ref z15, .ref z16, .ref z17, .ref z18, .ref z19, .int 0, .int 0, .ref z22, .ref z23, .ref z24, .ref z25, .ref z26, .ref z27, .ref z28, .ref z29, .ref z30, .ref z31, .ref z32, .ref z33, .int 0, .long 0, .ref z36, .ref z37, .ref z38, .ref z39, .ref z40, .ref z41, .ref z42, .ref z43, .ref z44, .ref z45, .ref z46, .ref z47, .ref z48, .int 0, .int 10, .int 0, .int 0, .int 0, .int 0, .ref z55, .ref z56, .int 0, .int 0, .ref z59, .ref z60, .ref z61, .int 0, .long 0])), (z36, .inl (γ.2.1 0, 6, .inl k0_1431)), (z37, .inl (γ.2.1 0, 240, .inl kg0_1432)), (z38, .inl (γ.2.1 0, 240, .inl kg1_1433)), (z39, .inl (γ.2.1 0, 240, .inl kg2_1434))] s H locs := hw
  refine W.eq (g2 := F0 m 68 ls []) rfl ?_
  refine lv_aload_n hx hb dX12_mark_68 rfl (lv_at hl 2 rfl) ?_
  refine lv_iload_n hx hb dX12_mark_69 rfl (lv_at hl 1 rfl) ?_
  refine lv_iload hx hb dX12_mark_70 (lv_at hl 0 rfl) ?_
  refine k_V (wr := [(z48, .inl (γ.2.1 3, 4, .inl f_1429)), (z43, .inl (γ.2.1 0, 133, .inl fs)), (z46, .inl (γ.2.1 0, 532, .inl fk)), (z36, .inl (γ.2.1 0, 6, .inl k0_1431)), (z37, .inl (γ.2.1 0, 240, .inl kg0_1432)), (z38, .inl (γ.2.1 0, 240, .inl kg1_1433)), (z39, .inl (γ.2.1 0, 240, .inl kg2_1434))]) 2 gw_1807 gw_1809 gp_112 gw_15 gw_1810 hd_X12_laysGuesses hC hw (c_X12_laysGuesses γ l z z2 z10 z11 z12 z13 z14 z15 z16 z17 z18 z19 z22 z23 z24 z25 z26 z27 z28 z29 z30 z31 z32 z33 z36 z37 z38 z39 z40 z41 z42 z43 z44 z45 z46 z47 z48 z55 z56 z59 z60 z61 0 0 0 0 0 0 0 0 0 0 0 0 0 0 10 0 0 0 0 0 0 0 0 (fun _ => 0) (fun _ => 0) (fun _ => 0) 0 2 (by decide) (by decide)) ⟨by decide, by decide⟩ ⟨by decide, by decide⟩ hl.1 rfl 6 rfl rfl rfl (Nat.le_of_ble_eq_true rfl) [6, 1, 2, 3] [0, 4, 5, 7, 8, 9, 10] rfl rfl rfl rfl (by decide) dX12_mark_72 (fun r w1 H locs hq hw => ?_)
  obtain ⟨k0_1435, kg0_1436, kg1_1437, rfl, rfl⟩ := hq
  have hw : kW γ A [(z48, .inl (γ.2.1 3, 4, .inl f_1429)), (z43, .inl (γ.2.1 0, 133, .inl fs)), (z46, .inl (γ.2.1 0, 532, .inl fk)), (z36, .inl (γ.2.1 0, 6, .inl k0_1431)), (z37, .inl (γ.2.1 0, 240, .inl kg0_1432)), (z38, .inl (γ.2.1 0, 240, .inl kg1_1433)), (z39, .inl (γ.2.1 0, 240, .inl kg2_1434)), (z, .inr (11, [.int 0, .int 0, .ref z2, .int 0, .int 0, .int 0, .int 0, .long 0, .int 0, .int 0, .ref z10, .ref z11, .ref z12, .ref z13, .ref z14, .ref z15, .ref z16, .ref z17, .ref z18, .ref z19, .int 0, .int 0, .ref z22, .ref z23, .ref z24, .ref z25, .ref z26, .ref z27, .ref z28, .ref z29, .ref z30, .ref z31, .ref z32, .ref z33, .int 0, .long 0, .ref z36, .ref z37, .ref z38, .ref z39, .ref z40, .ref z41, .ref z42, .ref z43, .ref z44, .ref z45, .ref z46, .ref z47, .ref z48, .int 0, .int 10, .int 0, .int 0, .int 0, .int 0, .ref z55, .ref z56, .int 0, .int 0, .ref z59, .ref z60, .ref z61, .int 0, .long 0])), (z40, .inl (γ.2.1 0, 5, .inl k0_1435)), (z41, .inl (γ.2.1 0, 40, .inl kg0_1436)), (z42, .inl (γ.2.1 3, 40, .inl kg1_1437))] s H locs := hw
  refine W.eq (g2 := F0 m 75 ls []) rfl ?_
  refine lv_iload_n hx hb dX12_mark_75 rfl (lv_at hl 4 rfl) ?_
  refine lv_if_eq (tgt := 104) hx hb dX12_mark_76 (by decide) (fun _ => ?_) (fun h => absurd (by decide) h)
  refine lv_aload_n hx hb dX12_mark_104 rfl (lv_at hl 2 rfl) ?_
  refine fg_RX12_102 hC hw 7 rfl rfl dX12_mark_105 ?_
  refine lv_iconst (v := 0) hx hb dX12_mark_108 (by decide) ?_
  refine lv_aload_n hx hb dX12_mark_109 rfl (lv_at hl 2 rfl) ?_
  refine fg_RX12_111 hC hw 7 rfl rfl dX12_mark_110 ?_
  refine lv_sipush (v := 133) hx hb dX12_mark_113 (by decide) ?_
  refine lv_iload_n hx hb dX12_mark_116 rfl (lv_at hl 3 rfl) ?_
  refine lv_imul hx hb dX12_mark_117 ?_
  refine lv_topi (fun x_1438 ex_1438 => ?_)
  obtain rfl : x_1438 = 133 := ex_1438.trans (by decide)
  refine k_S (wr := [(z48, .inl (γ.2.1 3, 4, .inl f_1429)), (z36, .inl (γ.2.1 0, 6, .inl k0_1431)), (z37, .inl (γ.2.1 0, 240, .inl kg0_1432)), (z38, .inl (γ.2.1 0, 240, .inl kg1_1433)), (z39, .inl (γ.2.1 0, 240, .inl kg2_1434)), (z, .inr (11, [.int 0, .int 0, .ref z2, .int 0, .int 0, .int 0, .int 0, .long 0, .int 0, .int 0, .ref z10, .ref z11, .ref z12, .ref z13, .ref z14, .ref z15, .ref z16, .ref z17, .ref z18, .ref z19, .int 0, .int 0, .ref z22, .ref z23, .ref z24, .ref z25, .ref z26, .ref z27, .ref z28, .ref z29, .ref z30, .ref z31, .ref z32, .ref z33, .int 0, .long 0, .ref z36, .ref z37, .ref z38, .ref z39, .ref z40, .ref z41, .ref z42, .ref z43, .ref z44, .ref z45, .ref z46, .ref z47, .ref z48, .int 0, .int 10, .int 0, .int 0, .int 0, .int 0, .ref z55, .ref z56, .int 0, .int 0, .ref z59, .ref z60, .ref z61, .int 0, .long 0])), (z40, .inl (γ.2.1 0, 5, .inl k0_1435)), (z41, .inl (γ.2.1 0, 40, .inl kg0_1436)), (z42, .inl (γ.2.1 3, 40, .inl kg1_1437))]) 4 gw_1593 gw_1594 gw_15 gw_1595 hd_X12_copies hC hw (c_X12_copies γ l z43 133 fs 0 z46 532 fk 133 (by decide) (by decide) (by decide) (by decide)) ⟨by decide, by decide⟩ ⟨by decide, by decide⟩ hl.1 rfl rfl (Nat.le_of_ble_eq_true rfl) [1, 2] [0, 3, 4, 5, 6, 7, 8, 9, 10] rfl rfl rfl rfl (by decide) dX12_mark_118 (fun r w1 H locs hq hw => ?_)
  obtain ⟨f9_1439, rfl, rfl⟩ := hq
  have hw : kW γ A [(z48, .inl (γ.2.1 3, 4, .inl f_1429)), (z36, .inl (γ.2.1 0, 6, .inl k0_1431)), (z37, .inl (γ.2.1 0, 240, .inl kg0_1432)), (z38, .inl (γ.2.1 0, 240, .inl kg1_1433)), (z39, .inl (γ.2.1 0, 240, .inl kg2_1434)), (z, .inr (11, [.int 0, .int 0, .ref z2, .int 0, .int 0, .int 0, .int 0, .long 0, .int 0, .int 0, .ref z10, .ref z11, .ref z12, .ref z13, .ref z14, .ref z15, .ref z16, .ref z17, .ref z18, .ref z19, .int 0, .int 0, .ref z22, .ref z23, .ref z24, .ref z25, .ref z26, .ref z27, .ref z28, .ref z29, .ref z30, .ref z31, .ref z32, .ref z33, .int 0, .long 0, .ref z36, .ref z37, .ref z38, .ref z39, .ref z40, .ref z41, .ref z42, .ref z43, .ref z44, .ref z45, .ref z46, .ref z47, .ref z48, .int 0, .int 10, .int 0, .int 0, .int 0, .int 0, .ref z55, .ref z56, .int 0, .int 0, .ref z59, .ref z60, .ref z61, .int 0, .long 0])), (z40, .inl (γ.2.1 0, 5, .inl k0_1435)), (z41, .inl (γ.2.1 0, 40, .inl kg0_1436)), (z42, .inl (γ.2.1 3, 40, .inl kg1_1437)), (z43, .inl (γ.2.1 0, 133, .inl fs)), (z46, .inl (γ.2.1 0, 532, .inl f9_1439))] s H locs := hw
  refine W.eq (g2 := F0 m 121 ls []) rfl ?_
  refine lv_iconst (v := 1) hx hb dX12_mark_121 (by decide) ?_
  exact k_zret hC hr hlocks rfl hw [] rfl rfl ⟨rfl, rfl⟩ (by decide) (by decide) dX12_mark_122

set_option maxHeartbeats 4000000 in
set_option maxRecDepth 100000 in
theorem c_X12_mark_1_1 (γ : kΓ) (l : Launch) (z : Nat) (z2 : Nat) (z10 : Nat) (z11 : Nat) (z12 : Nat) (z13 : Nat) (z14 : Nat) (z15 : Nat) (z16 : Nat) (z17 : Nat) (z18 : Nat) (z19 : Nat) (z22 : Nat) (z23 : Nat) (z24 : Nat) (z25 : Nat) (z26 : Nat) (z27 : Nat) (z28 : Nat) (z29 : Nat) (z30 : Nat) (z31 : Nat) (z32 : Nat) (z33 : Nat) (z36 : Nat) (z37 : Nat) (z38 : Nat) (z39 : Nat) (z40 : Nat) (z41 : Nat) (z42 : Nat) (z43 : Nat) (z44 : Nat) (z45 : Nat) (z46 : Nat) (z47 : Nat) (z48 : Nat) (z55 : Nat) (z56 : Nat) (z59 : Nat) (z60 : Nat) (z61 : Nat) : kM γ l yX12_mark cX12_mark 5 ((some .boolean)) ({ frames := 1, cells := 0, slots := 0, locals := 22 } : Room) [.ref z, .int 1, .int 1] [(z, .inr (11, [.int 0, .int 0, .ref z2, .int 0, .int 0, .int 0, .int 0, .long 0, .int 0, .int 0, .ref z10, .ref z11, .ref z12, .ref z13, .ref z14, .ref z15, .ref z16, .ref z17, .ref z18, .ref z19, .int 0, .int 0, .ref z22, .ref z23, .ref z24, .ref z25, .ref z26, .ref z27, .ref z28, .ref z29, .ref z30, .ref z31, .ref z32, .ref z33, .int 0, .long 0, .ref z36, .ref z37, .ref z38, .ref z39, .ref z40, .ref z41, .ref z42, .ref z43, .ref z44, .ref z45, .ref z46, .ref z47, .ref z48, .int 0, .int 10, .int 0, .int 0, .int 0, .int 0, .ref z55, .ref z56, .int 0, .int 0, .ref z59, .ref z60, .ref z61, .int 0, .long 0])), (z48, .inl (γ.2.1 3, 4, .inl (fun _ => 0)))] (fun r w1 => r = some (.int 0) ∧ w1 = []) := by
  refine k_ofW (by decide) (Nat.le_of_ble_eq_true rfl) ?_
  intro p e s m below meth c A ls hC hr hlocks hname hw hl
  have hx := hC.1
  have hb := hC.2.1
  have hl : lv_has ls 5 [(0, .ref z), (1, .int 1), (2, .int 1)] := hl
  refine lv_aload_n hx hb dX12_mark_0 rfl (lv_at hl 0 rfl) ?_
  refine lv_iconst (v := 0) hx hb dX12_mark_1 (by decide) ?_
  refine fs_RX12_143 hC hw 0 rfl rfl rfl (Nat.le_of_ble_eq_true rfl) dX12_mark_2 (fun H locs hw => ?_)
  have hw : kW γ A [(z, .inr (11, [.int 0, .int 0, .ref z2, .int 0, .int 0, .int 0, .int 0, .long 0, .int 0, .int 0, .ref z10, .ref z11, .ref z12, .ref z13, .ref z14, .ref z15, .ref z16, .ref z17, .ref z18, .ref z19, .int 0, .int 0, .ref z22, .ref z23, .ref z24, .ref z25, .ref z26, .ref z27, .ref z28, .ref z29, .ref z30, .ref z31, .ref z32, .ref z33, .int 0, .long 0, .ref z36, .ref z37, .ref z38, .ref z39, .ref z40, .ref z41, .ref z42, .ref z43, .ref z44, .ref z45, .ref z46, .ref z47, .ref z48, .int 0, .int 10, .int 0, .int 0, .int 0, .int 0, .ref z55, .ref z56, .int 0, .int 0, .ref z59, .ref z60, .ref z61, .int 0, .long 0])), (z48, .inl (γ.2.1 3, 4, .inl (fun _ => 0)))] s H locs := hw
  refine lv_iload_n hx hb dX12_mark_5 rfl (lv_at hl 1 rfl) ?_
  refine lv_iconst (v := 0) hx hb dX12_mark_6 (by decide) ?_
  refine lv_iconst (v := 3) hx hb dX12_mark_7 (by decide) ?_
  refine k_S (wr := [(z, .inr (11, [.int 0, .int 0, .ref z2, .int 0, .int 0, .int 0, .int 0, .long 0, .int 0, .int 0, .ref z10, .ref z11, .ref z12, .ref z13, .ref z14, .ref z15, .ref z16, .ref z17, .ref z18, .ref z19, .int 0, .int 0, .ref z22, .ref z23, .ref z24, .ref z25, .ref z26, .ref z27, .ref z28, .ref z29, .ref z30, .ref z31, .ref z32, .ref z33, .int 0, .long 0, .ref z36, .ref z37, .ref z38, .ref z39, .ref z40, .ref z41, .ref z42, .ref z43, .ref z44, .ref z45, .ref z46, .ref z47, .ref z48, .int 0, .int 10, .int 0, .int 0, .int 0, .int 0, .ref z55, .ref z56, .int 0, .int 0, .ref z59, .ref z60, .ref z61, .int 0, .long 0])), (z48, .inl (γ.2.1 3, 4, .inl (fun _ => 0)))]) 3 gw_1472 gw_1473 gw_15 gw_1474 hd_X12_within hC hw (c_within_t γ l 1 0 3 (by decide) (by decide)) ⟨by decide, by decide⟩ ⟨by decide, by decide⟩ hl.1 rfl rfl (Nat.le_of_ble_eq_true rfl) [] [0, 1] rfl rfl rfl rfl (by decide) dX12_mark_8 (fun r w1 H locs hq hw => ?_)
  obtain ⟨rfl, rfl⟩ := hq
  have hw : kW γ A [(z, .inr (11, [.int 0, .int 0, .ref z2, .int 0, .int 0, .int 0, .int 0, .long 0, .int 0, .int 0, .ref z10, .ref z11, .ref z12, .ref z13, .ref z14, .ref z15, .ref z16, .ref z17, .ref z18, .ref z19, .int 0, .int 0, .ref z22, .ref z23, .ref z24, .ref z25, .ref z26, .ref z27, .ref z28, .ref z29, .ref z30, .ref z31, .ref z32, .ref z33, .int 0, .long 0, .ref z36, .ref z37, .ref z38, .ref z39, .ref z40, .ref z41, .ref z42, .ref z43, .ref z44, .ref z45, .ref z46, .ref z47, .ref z48, .int 0, .int 10, .int 0, .int 0, .int 0, .int 0, .ref z55, .ref z56, .int 0, .int 0, .ref z59, .ref z60, .ref z61, .int 0, .long 0])), (z48, .inl (γ.2.1 3, 4, .inl (fun _ => 0)))] s H locs := hw
  refine W.eq (g2 := F0 m 11 ls [.int 1]) rfl ?_
  refine lv_if_eq (tgt := 27) hx hb dX12_mark_11 (by decide) (fun h => absurd h (by decide)) (fun _ => ?_)
  refine lv_iload_n hx hb dX12_mark_14 rfl (lv_at hl 2 rfl) ?_
  refine lv_if_eq (tgt := 29) hx hb dX12_mark_15 (by decide) (fun h => absurd h (by decide)) (fun _ => ?_)
  refine lv_aload_n hx hb dX12_mark_18 rfl (lv_at hl 0 rfl) ?_
  refine fg_RX12_117 hC hw 0 rfl rfl dX12_mark_19 ?_
  refine lv_iload_n hx hb dX12_mark_22 rfl (lv_at hl 1 rfl) ?_
  refine k_zald hC hw 1 rfl (k_in0 (by decide)) dX12_mark_23 ?_
  refine lv_topi (fun x_1440 ex_1440 => ?_)
  obtain rfl : x_1440 = 0 := ex_1440
  refine lv_if_ne (tgt := 29) hx hb dX12_mark_24 (by decide) (fun h => absurd rfl h) (fun _ => ?_)
  refine lv_iconst (v := 0) hx hb dX12_mark_27 (by decide) ?_
  exact k_zret hC hr hlocks rfl hw [] rfl rfl ⟨rfl, rfl⟩ (by decide) (by decide) dX12_mark_28

set_option maxHeartbeats 4000000 in
set_option maxRecDepth 100000 in
theorem c_X12_mark_2_0 (γ : kΓ) (l : Launch) (z : Nat) (z2 : Nat) (z10 : Nat) (z11 : Nat) (z12 : Nat) (z13 : Nat) (z14 : Nat) (z15 : Nat) (z16 : Nat) (z17 : Nat) (z18 : Nat) (z19 : Nat) (z22 : Nat) (z23 : Nat) (z24 : Nat) (z25 : Nat) (z26 : Nat) (z27 : Nat) (z28 : Nat) (z29 : Nat) (z30 : Nat) (z31 : Nat) (z32 : Nat) (z33 : Nat) (z36 : Nat) (z37 : Nat) (z38 : Nat) (z39 : Nat) (z40 : Nat) (z41 : Nat) (z42 : Nat) (z43 : Nat) (z44 : Nat) (z45 : Nat) (z46 : Nat) (z47 : Nat) (z48 : Nat) (z55 : Nat) (z56 : Nat) (z59 : Nat) (z60 : Nat) (z61 : Nat) (fs : Nat → Int32) (fk : Nat → Int32) : kM γ l yX12_mark cX12_mark 5 ((some .boolean)) ({ frames := 1, cells := 0, slots := 0, locals := 24 } : Room) [.ref z, .int 2, .int 0] [(z, .inr (11, [.int 0, .int 0, .ref z2, .int 0, .int 0, .int 0, .int 0, .long 0, .int 0, .int 0, .ref z10, .ref z11, .ref z12, .ref z13, .ref z14, .ref z15, .ref z16, .ref z17, .ref z18, .ref z19, .int 0, .int 0, .ref z22, .ref z23, .ref z24, .ref z25, .ref z26, .ref z27, .ref z28, .ref z29, .ref z30, .ref z31, .ref z32, .ref z33, .int 0, .long 0, .ref z36, .ref z37, .ref z38, .ref z39, .ref z40, .ref z41, .ref z42, .ref z43, .ref z44, .ref z45, .ref z46, .ref z47, .ref z48, .int 0, .int 10, .int 0, .int 0, .int 0, .int 0, .ref z55, .ref z56, .int 0, .int 0, .ref z59, .ref z60, .ref z61, .int 0, .long 0])), (z48, .inl (γ.2.1 3, 4, .inl (fun _ => 0))), (z36, .inl (γ.2.1 0, 6, .inl (fun _ => 0))), (z37, .inl (γ.2.1 0, 240, .inl (fun _ => 0))), (z38, .inl (γ.2.1 0, 240, .inl (fun _ => 0))), (z39, .inl (γ.2.1 0, 240, .inl (fun _ => 0))), (z40, .inl (γ.2.1 0, 5, .inl (fun _ => 0))), (z41, .inl (γ.2.1 0, 40, .inl (fun _ => 0))), (z42, .inl (γ.2.1 3, 40, .inl (fun _ => 0))), (z43, .inl (γ.2.1 0, 133, .inl fs)), (z46, .inl (γ.2.1 0, 532, .inl fk))] (fun r w1 => r = some (.int 1) ∧ w1 = []) := by
  refine k_ofW (by decide) (Nat.le_of_ble_eq_true rfl) ?_
  intro p e s m below meth c A ls hC hr hlocks hname hw hl
  have hx := hC.1
  have hb := hC.2.1
  have hl : lv_has ls 5 [(0, .ref z), (1, .int 2), (2, .int 0)] := hl
  refine lv_aload_n hx hb dX12_mark_0 rfl (lv_at hl 0 rfl) ?_
  refine lv_iconst (v := 0) hx hb dX12_mark_1 (by decide) ?_
  refine fs_RX12_143 hC hw 0 rfl rfl rfl (Nat.le_of_ble_eq_true rfl) dX12_mark_2 (fun H locs hw => ?_)
  have hw : kW γ A [(z, .inr (11, [.int 0, .int 0, .ref z2, .int 0, .int 0, .int 0, .int 0, .long 0, .int 0, .int 0, .ref z10, .ref z11, .ref z12, .ref z13, .ref z14, .ref z15, .ref z16, .ref z17, .ref z18, .ref z19, .int 0, .int 0, .ref z22, .ref z23, .ref z24, .ref z25, .ref z26, .ref z27, .ref z28, .ref z29, .ref z30, .ref z31, .ref z32, .ref z33, .int 0, .long 0, .ref z36, .ref z37, .ref z38, .ref z39, .ref z40, .ref z41, .ref z42, .ref z43, .ref z44, .ref z45, .ref z46, .ref z47, .ref z48, .int 0, .int 10, .int 0, .int 0, .int 0, .int 0, .ref z55, .ref z56, .int 0, .int 0, .ref z59, .ref z60, .ref z61, .int 0, .long 0])), (z48, .inl (γ.2.1 3, 4, .inl (fun _ => 0))), (z36, .inl (γ.2.1 0, 6, .inl (fun _ => 0))), (z37, .inl (γ.2.1 0, 240, .inl (fun _ => 0))), (z38, .inl (γ.2.1 0, 240, .inl (fun _ => 0))), (z39, .inl (γ.2.1 0, 240, .inl (fun _ => 0))), (z40, .inl (γ.2.1 0, 5, .inl (fun _ => 0))), (z41, .inl (γ.2.1 0, 40, .inl (fun _ => 0))), (z42, .inl (γ.2.1 3, 40, .inl (fun _ => 0))), (z43, .inl (γ.2.1 0, 133, .inl fs)), (z46, .inl (γ.2.1 0, 532, .inl fk))] s H locs := hw
  refine lv_iload_n hx hb dX12_mark_5 rfl (lv_at hl 1 rfl) ?_
  refine lv_iconst (v := 0) hx hb dX12_mark_6 (by decide) ?_
  refine lv_iconst (v := 3) hx hb dX12_mark_7 (by decide) ?_
  refine k_S (wr := [(z, .inr (11, [.int 0, .int 0, .ref z2, .int 0, .int 0, .int 0, .int 0, .long 0, .int 0, .int 0, .ref z10, .ref z11, .ref z12, .ref z13, .ref z14, .ref z15, .ref z16, .ref z17, .ref z18, .ref z19, .int 0, .int 0, .ref z22, .ref z23, .ref z24, .ref z25, .ref z26, .ref z27, .ref z28, .ref z29, .ref z30, .ref z31, .ref z32, .ref z33, .int 0, .long 0, .ref z36, .ref z37, .ref z38, .ref z39, .ref z40, .ref z41, .ref z42, .ref z43, .ref z44, .ref z45, .ref z46, .ref z47, .ref z48, .int 0, .int 10, .int 0, .int 0, .int 0, .int 0, .ref z55, .ref z56, .int 0, .int 0, .ref z59, .ref z60, .ref z61, .int 0, .long 0])), (z48, .inl (γ.2.1 3, 4, .inl (fun _ => 0))), (z36, .inl (γ.2.1 0, 6, .inl (fun _ => 0))), (z37, .inl (γ.2.1 0, 240, .inl (fun _ => 0))), (z38, .inl (γ.2.1 0, 240, .inl (fun _ => 0))), (z39, .inl (γ.2.1 0, 240, .inl (fun _ => 0))), (z40, .inl (γ.2.1 0, 5, .inl (fun _ => 0))), (z41, .inl (γ.2.1 0, 40, .inl (fun _ => 0))), (z42, .inl (γ.2.1 3, 40, .inl (fun _ => 0))), (z43, .inl (γ.2.1 0, 133, .inl fs)), (z46, .inl (γ.2.1 0, 532, .inl fk))]) 3 gw_1472 gw_1473 gw_15 gw_1474 hd_X12_within hC hw (c_within_t γ l 2 0 3 (by decide) (by decide)) ⟨by decide, by decide⟩ ⟨by decide, by decide⟩ hl.1 rfl rfl (Nat.le_of_ble_eq_true rfl) [] [0, 1, 2, 3, 4, 5, 6, 7, 8, 9, 10] rfl rfl rfl rfl (by decide) dX12_mark_8 (fun r w1 H locs hq hw => ?_)
  obtain ⟨rfl, rfl⟩ := hq
  have hw : kW γ A [(z, .inr (11, [.int 0, .int 0, .ref z2, .int 0, .int 0, .int 0, .int 0, .long 0, .int 0, .int 0, .ref z10, .ref z11, .ref z12, .ref z13, .ref z14, .ref z15, .ref z16, .ref z17, .ref z18, .ref z19, .int 0, .int 0, .ref z22, .ref z23, .ref z24, .ref z25, .ref z26, .ref z27, .ref z28, .ref z29, .ref z30, .ref z31, .ref z32, .ref z33, .int 0, .long 0, .ref z36, .ref z37, .ref z38, .ref z39, .ref z40, .ref z41, .ref z42, .ref z43, .ref z44, .ref z45, .ref z46, .ref z47, .ref z48, .int 0, .int 10, .int 0, .int 0, .int 0, .int 0, .ref z55, .ref z56, .int 0, .int 0, .ref z59, .ref z60, .ref z61, .int 0, .long 0])), (z48, .inl (γ.2.1 3, 4, .inl (fun _ => 0))), (z36, .inl (γ.2.1 0, 6, .inl (fun _ => 0))), (z37, .inl (γ.2.1 0, 240, .inl (fun _ => 0))), (z38, .inl (γ.2.1 0, 240, .inl (fun _ => 0))), (z39, .inl (γ.2.1 0, 240, .inl (fun _ => 0))), (z40, .inl (γ.2.1 0, 5, .inl (fun _ => 0))), (z41, .inl (γ.2.1 0, 40, .inl (fun _ => 0))), (z42, .inl (γ.2.1 3, 40, .inl (fun _ => 0))), (z43, .inl (γ.2.1 0, 133, .inl fs)), (z46, .inl (γ.2.1 0, 532, .inl fk))] s H locs := hw
  refine W.eq (g2 := F0 m 11 ls [.int 1]) rfl ?_
  refine lv_if_eq (tgt := 27) hx hb dX12_mark_11 (by decide) (fun h => absurd h (by decide)) (fun _ => ?_)
  refine lv_iload_n hx hb dX12_mark_14 rfl (lv_at hl 2 rfl) ?_
  refine lv_if_eq (tgt := 29) hx hb dX12_mark_15 (by decide) (fun _ => ?_) (fun h => absurd (by decide) h)
  refine lv_aload_n hx hb dX12_mark_29 rfl (lv_at hl 0 rfl) ?_
  refine fg_RX12_117 hC hw 0 rfl rfl dX12_mark_30 ?_
  refine lv_iload_n hx hb dX12_mark_33 rfl (lv_at hl 1 rfl) ?_
  refine lv_iconst (v := 1) hx hb dX12_mark_34 (by decide) ?_
  refine k_zast hC hw 1 rfl (k_in0 (by decide)) dX12_mark_35 (fun H locs hw => ?_)
  obtain ⟨f_1441, ef_1441⟩ : ∃ g, g = upd (fun _ => 0) (2 : Int32).toNatClampNeg (vp_nar .boolean 1) := ⟨_, rfl⟩
  have hw : kW γ A [(z, .inr (11, [.int 0, .int 0, .ref z2, .int 0, .int 0, .int 0, .int 0, .long 0, .int 0, .int 0, .ref z10, .ref z11, .ref z12, .ref z13, .ref z14, .ref z15, .ref z16, .ref z17, .ref z18, .ref z19, .int 0, .int 0, .ref z22, .ref z23, .ref z24, .ref z25, .ref z26, .ref z27, .ref z28, .ref z29, .ref z30, .ref z31, .ref z32, .ref z33, .int 0, .long 0, .ref z36, .ref z37, .ref z38, .ref z39, .ref z40, .ref z41, .ref z42, .ref z43, .ref z44, .ref z45, .ref z46, .ref z47, .ref z48, .int 0, .int 10, .int 0, .int 0, .int 0, .int 0, .ref z55, .ref z56, .int 0, .int 0, .ref z59, .ref z60, .ref z61, .int 0, .long 0])), (z48, .inl (γ.2.1 3, 4, .inl f_1441)), (z36, .inl (γ.2.1 0, 6, .inl (fun _ => 0))), (z37, .inl (γ.2.1 0, 240, .inl (fun _ => 0))), (z38, .inl (γ.2.1 0, 240, .inl (fun _ => 0))), (z39, .inl (γ.2.1 0, 240, .inl (fun _ => 0))), (z40, .inl (γ.2.1 0, 5, .inl (fun _ => 0))), (z41, .inl (γ.2.1 0, 40, .inl (fun _ => 0))), (z42, .inl (γ.2.1 3, 40, .inl (fun _ => 0))), (z43, .inl (γ.2.1 0, 133, .inl fs)), (z46, .inl (γ.2.1 0, 532, .inl fk))] s H locs := by rw [ef_1441]; exact hw
  refine lv_iload_n hx hb dX12_mark_36 rfl (lv_at hl 2 rfl) ?_
  refine lv_if_eq (tgt := 46) hx hb dX12_mark_37 (by decide) (fun _ => ?_) (fun h => absurd (by decide) h)
  refine lv_iconst (v := 0) hx hb dX12_mark_46 (by decide) ?_
  refine lv_istore_n (lv' := [(3, .int 0), (0, .ref z), (1, .int 2), (2, .int 0)]) hx hb dX12_mark_47 rfl hl (by decide) rfl (fun ls hl => ?_)
  refine lv_iload_n hx hb dX12_mark_48 rfl (lv_at hl 3 rfl) ?_
  refine lv_if_eq (tgt := 56) hx hb dX12_mark_49 (by decide) (fun _ => ?_) (fun h => absurd (by decide) h)
  refine lv_iconst (v := 1) hx hb dX12_mark_56 (by decide) ?_
  refine lv_iload_n hx hb dX12_mark_57 rfl (lv_at hl 2 rfl) ?_
  refine lv_iadd hx hb dX12_mark_58 ?_
  refine lv_topi (fun x_1442 ex_1442 => ?_)
  obtain rfl : x_1442 = 3 := ex_1442.trans (by decide)
  refine lv_istore (lv' := [(4, .int 3), (3, .int 0), (0, .ref z), (1, .int 2), (2, .int 0)]) hx hb dX12_mark_59 hl (by decide) rfl (fun ls hl => ?_)
  refine lv_aload_n hx hb dX12_mark_61 rfl (lv_at hl 2 rfl) ?_
  refine lv_iload_n hx hb dX12_mark_62 rfl (lv_at hl 1 rfl) ?_
  refine lv_iload hx hb dX12_mark_63 (lv_at hl 0 rfl) ?_
  refine k_V (wr := [(z48, .inl (γ.2.1 3, 4, .inl f_1441)), (z40, .inl (γ.2.1 0, 5, .inl (fun _ => 0))), (z41, .inl (γ.2.1 0, 40, .inl (fun _ => 0))), (z42, .inl (γ.2.1 3, 40, .inl (fun _ => 0))), (z43, .inl (γ.2.1 0, 133, .inl fs)), (z46, .inl (γ.2.1 0, 532, .inl fk))]) 2 gw_1541 gw_1543 gp_78 gw_15 gw_1544 hd_X12_laysLines hC hw (c_X12_laysLines γ l z z2 z10 z11 z12 z13 z14 z15 z16 z17 z18 z19 z22 z23 z24 z25 z26 z27 z28 z29 z30 z31 z32 z33 z36 z37 z38 z39 z40 z41 z42 z43 z44 z45 z46 z47 z48 z55 z56 z59 z60 z61 0 0 0 0 0 0 0 0 0 0 0 0 0 0 10 0 0 0 0 0 0 0 0 (fun _ => 0) (fun _ => 0) (fun _ => 0) (fun _ => 0) 0 3 (by decide) (by decide)) ⟨by decide, by decide⟩ ⟨by decide, by decide⟩ hl.1 rfl 0 rfl rfl rfl (Nat.le_of_ble_eq_true rfl) [0, 2, 3, 4, 5] [1, 6, 7, 8, 9, 10] rfl rfl rfl rfl (by decide) dX12_mark_65 (fun r w1 H locs hq hw => ?_)
  obtain ⟨k0_1443, kg0_1444, kg1_1445, kg2_1446, rfl, rfl⟩ := hq
  have hw : kW γ A [(z48, .inl (γ.2.1 3, 4, .inl f_1441)), (z40, .inl (γ.2.1 0, 5, .inl (fun _ => 0))), (z41, .inl (γ.2.1 0, 40, .inl (fun _ => 0))), (z42, .inl (γ.2.1 3, 40, .inl (fun _ => 0))), (z43, .inl (γ.2.1 0, 133, .inl fs)), (z46, .inl (γ.2.1 0, 532, .inl fk)), (z, .inr (11, [.int 0, .int 0, .ref z2, .int 0, .int 0, .int 0, .int 0, .long 0, .int 0, .int 0, .ref z10, .ref z11, .ref z12, .ref z13, .ref z14, .ref z15, .ref z16, .ref z17, .ref z18, .ref z19, .int 0, .int 0, .ref z22, .ref z23, .ref z24, .ref z25, .ref z26, .ref z27, .ref z28, .ref z29, .ref z30, .ref z31, .ref z32, .ref z33, .int 0, .long 0, .ref z36, .ref z37, .ref z38, .ref z39, .ref z40, .ref z41, .ref z42, .ref z43, .ref z44, .ref z45, .ref z46, .ref z47, .ref z48, .int 0, .int 10, .int 0, .int 0, .int 0, .int 0, .ref z55, .ref z56, .int 0, .int 0, .ref z59, .ref z60, .ref z61, .int 0, .long 0])), (z36, .inl (γ.2.1 0, 6, .inl k0_1443)), (z37, .inl (γ.2.1 0, 240, .inl kg0_1444)), (z38, .inl (γ.2.1 0, 240, .inl kg1_1445)), (z39, .inl (γ.2.1 0, 240, .inl kg2_1446))] s H locs := hw
  refine W.eq (g2 := F0 m 68 ls []) rfl ?_
  refine lv_aload_n hx hb dX12_mark_68 rfl (lv_at hl 2 rfl) ?_
  refine lv_iload_n hx hb dX12_mark_69 rfl (lv_at hl 1 rfl) ?_
  refine lv_iload hx hb dX12_mark_70 (lv_at hl 0 rfl) ?_
  refine k_V (wr := [(z48, .inl (γ.2.1 3, 4, .inl f_1441)), (z43, .inl (γ.2.1 0, 133, .inl fs)), (z46, .inl (γ.2.1 0, 532, .inl fk)), (z36, .inl (γ.2.1 0, 6, .inl k0_1443)), (z37, .inl (γ.2.1 0, 240, .inl kg0_1444)), (z38, .inl (γ.2.1 0, 240, .inl kg1_1445)), (z39, .inl (γ.2.1 0, 240, .inl kg2_1446))]) 2 gw_1807 gw_1809 gp_112 gw_15 gw_1810 hd_X12_laysGuesses hC hw (c_X12_laysGuesses γ l z z2 z10 z11 z12 z13 z14 z15 z16 z17 z18 z19 z22 z23 z24 z25 z26 z27 z28 z29 z30 z31 z32 z33 z36 z37 z38 z39 z40 z41 z42 z43 z44 z45 z46 z47 z48 z55 z56 z59 z60 z61 0 0 0 0 0 0 0 0 0 0 0 0 0 0 10 0 0 0 0 0 0 0 0 (fun _ => 0) (fun _ => 0) (fun _ => 0) 0 3 (by decide) (by decide)) ⟨by decide, by decide⟩ ⟨by decide, by decide⟩ hl.1 rfl 6 rfl rfl rfl (Nat.le_of_ble_eq_true rfl) [6, 1, 2, 3] [0, 4, 5, 7, 8, 9, 10] rfl rfl rfl rfl (by decide) dX12_mark_72 (fun r w1 H locs hq hw => ?_)
  obtain ⟨k0_1447, kg0_1448, kg1_1449, rfl, rfl⟩ := hq
  have hw : kW γ A [(z48, .inl (γ.2.1 3, 4, .inl f_1441)), (z43, .inl (γ.2.1 0, 133, .inl fs)), (z46, .inl (γ.2.1 0, 532, .inl fk)), (z36, .inl (γ.2.1 0, 6, .inl k0_1443)), (z37, .inl (γ.2.1 0, 240, .inl kg0_1444)), (z38, .inl (γ.2.1 0, 240, .inl kg1_1445)), (z39, .inl (γ.2.1 0, 240, .inl kg2_1446)), (z, .inr (11, [.int 0, .int 0, .ref z2, .int 0, .int 0, .int 0, .int 0, .long 0, .int 0, .int 0, .ref z10, .ref z11, .ref z12, .ref z13, .ref z14, .ref z15, .ref z16, .ref z17, .ref z18, .ref z19, .int 0, .int 0, .ref z22, .ref z23, .ref z24, .ref z25, .ref z26, .ref z27, .ref z28, .ref z29, .ref z30, .ref z31, .ref z32, .ref z33, .int 0, .long 0, .ref z36, .ref z37, .ref z38, .ref z39, .ref z40, .ref z41, .ref z42, .ref z43, .ref z44, .ref z45, .ref z46, .ref z47, .ref z48, .int 0, .int 10, .int 0, .int 0, .int 0, .int 0, .ref z55, .ref z56, .int 0, .int 0, .ref z59, .ref z60, .ref z61, .int 0, .long 0])), (z40, .inl (γ.2.1 0, 5, .inl k0_1447)), (z41, .inl (γ.2.1 0, 40, .inl kg0_1448)), (z42, .inl (γ.2.1 3, 40, .inl kg1_1449))] s H locs := hw
  refine W.eq (g2 := F0 m 75 ls []) rfl ?_
  refine lv_iload_n hx hb dX12_mark_75 rfl (lv_at hl 4 rfl) ?_
  refine lv_if_eq (tgt := 104) hx hb dX12_mark_76 (by decide) (fun _ => ?_) (fun h => absurd (by decide) h)
  refine lv_aload_n hx hb dX12_mark_104 rfl (lv_at hl 2 rfl) ?_
  refine fg_RX12_102 hC hw 7 rfl rfl dX12_mark_105 ?_
  refine lv_iconst (v := 0) hx hb dX12_mark_108 (by decide) ?_
  refine lv_aload_n hx hb dX12_mark_109 rfl (lv_at hl 2 rfl) ?_
  refine fg_RX12_111 hC hw 7 rfl rfl dX12_mark_110 ?_
  refine lv_sipush (v := 133) hx hb dX12_mark_113 (by decide) ?_
  refine lv_iload_n hx hb dX12_mark_116 rfl (lv_at hl 3 rfl) ?_
  refine lv_imul hx hb dX12_mark_117 ?_
  refine lv_topi (fun x_1450 ex_1450 => ?_)
  obtain rfl : x_1450 = 266 := ex_1450.trans (by decide)
  refine k_S (wr := [(z48, .inl (γ.2.1 3, 4, .inl f_1441)), (z36, .inl (γ.2.1 0, 6, .inl k0_1443)), (z37, .inl (γ.2.1 0, 240, .inl kg0_1444)), (z38, .inl (γ.2.1 0, 240, .inl kg1_1445)), (z39, .inl (γ.2.1 0, 240, .inl kg2_1446)), (z, .inr (11, [.int 0, .int 0, .ref z2, .int 0, .int 0, .int 0, .int 0, .long 0, .int 0, .int 0, .ref z10, .ref z11, .ref z12, .ref z13, .ref z14, .ref z15, .ref z16, .ref z17, .ref z18, .ref z19, .int 0, .int 0, .ref z22, .ref z23, .ref z24, .ref z25, .ref z26, .ref z27, .ref z28, .ref z29, .ref z30, .ref z31, .ref z32, .ref z33, .int 0, .long 0, .ref z36, .ref z37, .ref z38, .ref z39, .ref z40, .ref z41, .ref z42, .ref z43, .ref z44, .ref z45, .ref z46, .ref z47, .ref z48, .int 0, .int 10, .int 0, .int 0, .int 0, .int 0, .ref z55, .ref z56, .int 0, .int 0, .ref z59, .ref z60, .ref z61, .int 0, .long 0])), (z40, .inl (γ.2.1 0, 5, .inl k0_1447)), (z41, .inl (γ.2.1 0, 40, .inl kg0_1448)), (z42, .inl (γ.2.1 3, 40, .inl kg1_1449))]) 4 gw_1593 gw_1594 gw_15 gw_1595 hd_X12_copies hC hw (c_X12_copies γ l z43 133 fs 0 z46 532 fk 266 (by decide) (by decide) (by decide) (by decide)) ⟨by decide, by decide⟩ ⟨by decide, by decide⟩ hl.1 rfl rfl (Nat.le_of_ble_eq_true rfl) [1, 2] [0, 3, 4, 5, 6, 7, 8, 9, 10] rfl rfl rfl rfl (by decide) dX12_mark_118 (fun r w1 H locs hq hw => ?_)
  obtain ⟨f9_1451, rfl, rfl⟩ := hq
  have hw : kW γ A [(z48, .inl (γ.2.1 3, 4, .inl f_1441)), (z36, .inl (γ.2.1 0, 6, .inl k0_1443)), (z37, .inl (γ.2.1 0, 240, .inl kg0_1444)), (z38, .inl (γ.2.1 0, 240, .inl kg1_1445)), (z39, .inl (γ.2.1 0, 240, .inl kg2_1446)), (z, .inr (11, [.int 0, .int 0, .ref z2, .int 0, .int 0, .int 0, .int 0, .long 0, .int 0, .int 0, .ref z10, .ref z11, .ref z12, .ref z13, .ref z14, .ref z15, .ref z16, .ref z17, .ref z18, .ref z19, .int 0, .int 0, .ref z22, .ref z23, .ref z24, .ref z25, .ref z26, .ref z27, .ref z28, .ref z29, .ref z30, .ref z31, .ref z32, .ref z33, .int 0, .long 0, .ref z36, .ref z37, .ref z38, .ref z39, .ref z40, .ref z41, .ref z42, .ref z43, .ref z44, .ref z45, .ref z46, .ref z47, .ref z48, .int 0, .int 10, .int 0, .int 0, .int 0, .int 0, .ref z55, .ref z56, .int 0, .int 0, .ref z59, .ref z60, .ref z61, .int 0, .long 0])), (z40, .inl (γ.2.1 0, 5, .inl k0_1447)), (z41, .inl (γ.2.1 0, 40, .inl kg0_1448)), (z42, .inl (γ.2.1 3, 40, .inl kg1_1449)), (z43, .inl (γ.2.1 0, 133, .inl fs)), (z46, .inl (γ.2.1 0, 532, .inl f9_1451))] s H locs := hw
  refine W.eq (g2 := F0 m 121 ls []) rfl ?_
  refine lv_iconst (v := 1) hx hb dX12_mark_121 (by decide) ?_
  exact k_zret hC hr hlocks rfl hw [] rfl rfl ⟨rfl, rfl⟩ (by decide) (by decide) dX12_mark_122

set_option maxHeartbeats 4000000 in
set_option maxRecDepth 100000 in
theorem c_X12_mark_2_1 (γ : kΓ) (l : Launch) (z : Nat) (z2 : Nat) (z10 : Nat) (z11 : Nat) (z12 : Nat) (z13 : Nat) (z14 : Nat) (z15 : Nat) (z16 : Nat) (z17 : Nat) (z18 : Nat) (z19 : Nat) (z22 : Nat) (z23 : Nat) (z24 : Nat) (z25 : Nat) (z26 : Nat) (z27 : Nat) (z28 : Nat) (z29 : Nat) (z30 : Nat) (z31 : Nat) (z32 : Nat) (z33 : Nat) (z36 : Nat) (z37 : Nat) (z38 : Nat) (z39 : Nat) (z40 : Nat) (z41 : Nat) (z42 : Nat) (z43 : Nat) (z44 : Nat) (z45 : Nat) (z46 : Nat) (z47 : Nat) (z48 : Nat) (z55 : Nat) (z56 : Nat) (z59 : Nat) (z60 : Nat) (z61 : Nat) : kM γ l yX12_mark cX12_mark 5 ((some .boolean)) ({ frames := 1, cells := 0, slots := 0, locals := 22 } : Room) [.ref z, .int 2, .int 1] [(z, .inr (11, [.int 0, .int 0, .ref z2, .int 0, .int 0, .int 0, .int 0, .long 0, .int 0, .int 0, .ref z10, .ref z11, .ref z12, .ref z13, .ref z14, .ref z15, .ref z16, .ref z17, .ref z18, .ref z19, .int 0, .int 0, .ref z22, .ref z23, .ref z24, .ref z25, .ref z26, .ref z27, .ref z28, .ref z29, .ref z30, .ref z31, .ref z32, .ref z33, .int 0, .long 0, .ref z36, .ref z37, .ref z38, .ref z39, .ref z40, .ref z41, .ref z42, .ref z43, .ref z44, .ref z45, .ref z46, .ref z47, .ref z48, .int 0, .int 10, .int 0, .int 0, .int 0, .int 0, .ref z55, .ref z56, .int 0, .int 0, .ref z59, .ref z60, .ref z61, .int 0, .long 0])), (z48, .inl (γ.2.1 3, 4, .inl (fun _ => 0)))] (fun r w1 => r = some (.int 0) ∧ w1 = []) := by
  refine k_ofW (by decide) (Nat.le_of_ble_eq_true rfl) ?_
  intro p e s m below meth c A ls hC hr hlocks hname hw hl
  have hx := hC.1
  have hb := hC.2.1
  have hl : lv_has ls 5 [(0, .ref z), (1, .int 2), (2, .int 1)] := hl
  refine lv_aload_n hx hb dX12_mark_0 rfl (lv_at hl 0 rfl) ?_
  refine lv_iconst (v := 0) hx hb dX12_mark_1 (by decide) ?_
  refine fs_RX12_143 hC hw 0 rfl rfl rfl (Nat.le_of_ble_eq_true rfl) dX12_mark_2 (fun H locs hw => ?_)
  have hw : kW γ A [(z, .inr (11, [.int 0, .int 0, .ref z2, .int 0, .int 0, .int 0, .int 0, .long 0, .int 0, .int 0, .ref z10, .ref z11, .ref z12, .ref z13, .ref z14, .ref z15, .ref z16, .ref z17, .ref z18, .ref z19, .int 0, .int 0, .ref z22, .ref z23, .ref z24, .ref z25, .ref z26, .ref z27, .ref z28, .ref z29, .ref z30, .ref z31, .ref z32, .ref z33, .int 0, .long 0, .ref z36, .ref z37, .ref z38, .ref z39, .ref z40, .ref z41, .ref z42, .ref z43, .ref z44, .ref z45, .ref z46, .ref z47, .ref z48, .int 0, .int 10, .int 0, .int 0, .int 0, .int 0, .ref z55, .ref z56, .int 0, .int 0, .ref z59, .ref z60, .ref z61, .int 0, .long 0])), (z48, .inl (γ.2.1 3, 4, .inl (fun _ => 0)))] s H locs := hw
  refine lv_iload_n hx hb dX12_mark_5 rfl (lv_at hl 1 rfl) ?_
  refine lv_iconst (v := 0) hx hb dX12_mark_6 (by decide) ?_
  refine lv_iconst (v := 3) hx hb dX12_mark_7 (by decide) ?_
  refine k_S (wr := [(z, .inr (11, [.int 0, .int 0, .ref z2, .int 0, .int 0, .int 0, .int 0, .long 0, .int 0, .int 0, .ref z10, .ref z11, .ref z12, .ref z13, .ref z14, .ref z15, .ref z16, .ref z17, .ref z18, .ref z19, .int 0, .int 0, .ref z22, .ref z23, .ref z24, .ref z25, .ref z26, .ref z27, .ref z28, .ref z29, .ref z30, .ref z31, .ref z32, .ref z33, .int 0, .long 0, .ref z36, .ref z37, .ref z38, .ref z39, .ref z40, .ref z41, .ref z42, .ref z43, .ref z44, .ref z45, .ref z46, .ref z47, .ref z48, .int 0, .int 10, .int 0, .int 0, .int 0, .int 0, .ref z55, .ref z56, .int 0, .int 0, .ref z59, .ref z60, .ref z61, .int 0, .long 0])), (z48, .inl (γ.2.1 3, 4, .inl (fun _ => 0)))]) 3 gw_1472 gw_1473 gw_15 gw_1474 hd_X12_within hC hw (c_within_t γ l 2 0 3 (by decide) (by decide)) ⟨by decide, by decide⟩ ⟨by decide, by decide⟩ hl.1 rfl rfl (Nat.le_of_ble_eq_true rfl) [] [0, 1] rfl rfl rfl rfl (by decide) dX12_mark_8 (fun r w1 H locs hq hw => ?_)
  obtain ⟨rfl, rfl⟩ := hq
  have hw : kW γ A [(z, .inr (11, [.int 0, .int 0, .ref z2, .int 0, .int 0, .int 0, .int 0, .long 0, .int 0, .int 0, .ref z10, .ref z11, .ref z12, .ref z13, .ref z14, .ref z15, .ref z16, .ref z17, .ref z18, .ref z19, .int 0, .int 0, .ref z22, .ref z23, .ref z24, .ref z25, .ref z26, .ref z27, .ref z28, .ref z29, .ref z30, .ref z31, .ref z32, .ref z33, .int 0, .long 0, .ref z36, .ref z37, .ref z38, .ref z39, .ref z40, .ref z41, .ref z42, .ref z43, .ref z44, .ref z45, .ref z46, .ref z47, .ref z48, .int 0, .int 10, .int 0, .int 0, .int 0, .int 0, .ref z55, .ref z56, .int 0, .int 0, .ref z59, .ref z60, .ref z61, .int 0, .long 0])), (z48, .inl (γ.2.1 3, 4, .inl (fun _ => 0)))] s H locs := hw
  refine W.eq (g2 := F0 m 11 ls [.int 1]) rfl ?_
  refine lv_if_eq (tgt := 27) hx hb dX12_mark_11 (by decide) (fun h => absurd h (by decide)) (fun _ => ?_)
  refine lv_iload_n hx hb dX12_mark_14 rfl (lv_at hl 2 rfl) ?_
  refine lv_if_eq (tgt := 29) hx hb dX12_mark_15 (by decide) (fun h => absurd h (by decide)) (fun _ => ?_)
  refine lv_aload_n hx hb dX12_mark_18 rfl (lv_at hl 0 rfl) ?_
  refine fg_RX12_117 hC hw 0 rfl rfl dX12_mark_19 ?_
  refine lv_iload_n hx hb dX12_mark_22 rfl (lv_at hl 1 rfl) ?_
  refine k_zald hC hw 1 rfl (k_in0 (by decide)) dX12_mark_23 ?_
  refine lv_topi (fun x_1452 ex_1452 => ?_)
  obtain rfl : x_1452 = 0 := ex_1452
  refine lv_if_ne (tgt := 29) hx hb dX12_mark_24 (by decide) (fun h => absurd rfl h) (fun _ => ?_)
  refine lv_iconst (v := 0) hx hb dX12_mark_27 (by decide) ?_
  exact k_zret hC hr hlocks rfl hw [] rfl rfl ⟨rfl, rfl⟩ (by decide) (by decide) dX12_mark_28

set_option maxHeartbeats 4000000 in
set_option maxRecDepth 100000 in
theorem c_X12_mark_3_0 (γ : kΓ) (l : Launch) (z : Nat) (z2 : Nat) (z10 : Nat) (z11 : Nat) (z12 : Nat) (z13 : Nat) (z14 : Nat) (z15 : Nat) (z16 : Nat) (z17 : Nat) (z18 : Nat) (z19 : Nat) (z22 : Nat) (z23 : Nat) (z24 : Nat) (z25 : Nat) (z26 : Nat) (z27 : Nat) (z28 : Nat) (z29 : Nat) (z30 : Nat) (z31 : Nat) (z32 : Nat) (z33 : Nat) (z36 : Nat) (z37 : Nat) (z38 : Nat) (z39 : Nat) (z40 : Nat) (z41 : Nat) (z42 : Nat) (z43 : Nat) (z44 : Nat) (z45 : Nat) (z46 : Nat) (z47 : Nat) (z48 : Nat) (z55 : Nat) (z56 : Nat) (z59 : Nat) (z60 : Nat) (z61 : Nat) (fs : Nat → Int32) (fk : Nat → Int32) : kM γ l yX12_mark cX12_mark 5 ((some .boolean)) ({ frames := 1, cells := 0, slots := 0, locals := 24 } : Room) [.ref z, .int 3, .int 0] [(z, .inr (11, [.int 0, .int 0, .ref z2, .int 0, .int 0, .int 0, .int 0, .long 0, .int 0, .int 0, .ref z10, .ref z11, .ref z12, .ref z13, .ref z14, .ref z15, .ref z16, .ref z17, .ref z18, .ref z19, .int 0, .int 0, .ref z22, .ref z23, .ref z24, .ref z25, .ref z26, .ref z27, .ref z28, .ref z29, .ref z30, .ref z31, .ref z32, .ref z33, .int 0, .long 0, .ref z36, .ref z37, .ref z38, .ref z39, .ref z40, .ref z41, .ref z42, .ref z43, .ref z44, .ref z45, .ref z46, .ref z47, .ref z48, .int 0, .int 10, .int 0, .int 0, .int 0, .int 0, .ref z55, .ref z56, .int 0, .int 0, .ref z59, .ref z60, .ref z61, .int 0, .long 0])), (z48, .inl (γ.2.1 3, 4, .inl (fun _ => 0))), (z36, .inl (γ.2.1 0, 6, .inl (fun _ => 0))), (z37, .inl (γ.2.1 0, 240, .inl (fun _ => 0))), (z38, .inl (γ.2.1 0, 240, .inl (fun _ => 0))), (z39, .inl (γ.2.1 0, 240, .inl (fun _ => 0))), (z40, .inl (γ.2.1 0, 5, .inl (fun _ => 0))), (z41, .inl (γ.2.1 0, 40, .inl (fun _ => 0))), (z42, .inl (γ.2.1 3, 40, .inl (fun _ => 0))), (z43, .inl (γ.2.1 0, 133, .inl fs)), (z46, .inl (γ.2.1 0, 532, .inl fk))] (fun r w1 => r = some (.int 1) ∧ w1 = []) := by
  refine k_ofW (by decide) (Nat.le_of_ble_eq_true rfl) ?_
  intro p e s m below meth c A ls hC hr hlocks hname hw hl
  have hx := hC.1
  have hb := hC.2.1
  have hl : lv_has ls 5 [(0, .ref z), (1, .int 3), (2, .int 0)] := hl
  refine lv_aload_n hx hb dX12_mark_0 rfl (lv_at hl 0 rfl) ?_
  refine lv_iconst (v := 0) hx hb dX12_mark_1 (by decide) ?_
  refine fs_RX12_143 hC hw 0 rfl rfl rfl (Nat.le_of_ble_eq_true rfl) dX12_mark_2 (fun H locs hw => ?_)
  have hw : kW γ A [(z, .inr (11, [.int 0, .int 0, .ref z2, .int 0, .int 0, .int 0, .int 0, .long 0, .int 0, .int 0, .ref z10, .ref z11, .ref z12, .ref z13, .ref z14, .ref z15, .ref z16, .ref z17, .ref z18, .ref z19, .int 0, .int 0, .ref z22, .ref z23, .ref z24, .ref z25, .ref z26, .ref z27, .ref z28, .ref z29, .ref z30, .ref z31, .ref z32, .ref z33, .int 0, .long 0, .ref z36, .ref z37, .ref z38, .ref z39, .ref z40, .ref z41, .ref z42, .ref z43, .ref z44, .ref z45, .ref z46, .ref z47, .ref z48, .int 0, .int 10, .int 0, .int 0, .int 0, .int 0, .ref z55, .ref z56, .int 0, .int 0, .ref z59, .ref z60, .ref z61, .int 0, .long 0])), (z48, .inl (γ.2.1 3, 4, .inl (fun _ => 0))), (z36, .inl (γ.2.1 0, 6, .inl (fun _ => 0))), (z37, .inl (γ.2.1 0, 240, .inl (fun _ => 0))), (z38, .inl (γ.2.1 0, 240, .inl (fun _ => 0))), (z39, .inl (γ.2.1 0, 240, .inl (fun _ => 0))), (z40, .inl (γ.2.1 0, 5, .inl (fun _ => 0))), (z41, .inl (γ.2.1 0, 40, .inl (fun _ => 0))), (z42, .inl (γ.2.1 3, 40, .inl (fun _ => 0))), (z43, .inl (γ.2.1 0, 133, .inl fs)), (z46, .inl (γ.2.1 0, 532, .inl fk))] s H locs := hw
  refine lv_iload_n hx hb dX12_mark_5 rfl (lv_at hl 1 rfl) ?_
  refine lv_iconst (v := 0) hx hb dX12_mark_6 (by decide) ?_
  refine lv_iconst (v := 3) hx hb dX12_mark_7 (by decide) ?_
  refine k_S (wr := [(z, .inr (11, [.int 0, .int 0, .ref z2, .int 0, .int 0, .int 0, .int 0, .long 0, .int 0, .int 0, .ref z10, .ref z11, .ref z12, .ref z13, .ref z14, .ref z15, .ref z16, .ref z17, .ref z18, .ref z19, .int 0, .int 0, .ref z22, .ref z23, .ref z24, .ref z25, .ref z26, .ref z27, .ref z28, .ref z29, .ref z30, .ref z31, .ref z32, .ref z33, .int 0, .long 0, .ref z36, .ref z37, .ref z38, .ref z39, .ref z40, .ref z41, .ref z42, .ref z43, .ref z44, .ref z45, .ref z46, .ref z47, .ref z48, .int 0, .int 10, .int 0, .int 0, .int 0, .int 0, .ref z55, .ref z56, .int 0, .int 0, .ref z59, .ref z60, .ref z61, .int 0, .long 0])), (z48, .inl (γ.2.1 3, 4, .inl (fun _ => 0))), (z36, .inl (γ.2.1 0, 6, .inl (fun _ => 0))), (z37, .inl (γ.2.1 0, 240, .inl (fun _ => 0))), (z38, .inl (γ.2.1 0, 240, .inl (fun _ => 0))), (z39, .inl (γ.2.1 0, 240, .inl (fun _ => 0))), (z40, .inl (γ.2.1 0, 5, .inl (fun _ => 0))), (z41, .inl (γ.2.1 0, 40, .inl (fun _ => 0))), (z42, .inl (γ.2.1 3, 40, .inl (fun _ => 0))), (z43, .inl (γ.2.1 0, 133, .inl fs)), (z46, .inl (γ.2.1 0, 532, .inl fk))]) 3 gw_1472 gw_1473 gw_15 gw_1474 hd_X12_within hC hw (c_within_t γ l 3 0 3 (by decide) (by decide)) ⟨by decide, by decide⟩ ⟨by decide, by decide⟩ hl.1 rfl rfl (Nat.le_of_ble_eq_true rfl) [] [0, 1, 2, 3, 4, 5, 6, 7, 8, 9, 10] rfl rfl rfl rfl (by decide) dX12_mark_8 (fun r w1 H locs hq hw => ?_)
  obtain ⟨rfl, rfl⟩ := hq
  have hw : kW γ A [(z, .inr (11, [.int 0, .int 0, .ref z2, .int 0, .int 0, .int 0, .int 0, .long 0, .int 0, .int 0, .ref z10, .ref z11, .ref z12, .ref z13, .ref z14, .ref z15, .ref z16, .ref z17, .ref z18, .ref z19, .int 0, .int 0, .ref z22, .ref z23, .ref z24, .ref z25, .ref z26, .ref z27, .ref z28, .ref z29, .ref z30, .ref z31, .ref z32, .ref z33, .int 0, .long 0, .ref z36, .ref z37, .ref z38, .ref z39, .ref z40, .ref z41, .ref z42, .ref z43, .ref z44, .ref z45, .ref z46, .ref z47, .ref z48, .int 0, .int 10, .int 0, .int 0, .int 0, .int 0, .ref z55, .ref z56, .int 0, .int 0, .ref z59, .ref z60, .ref z61, .int 0, .long 0])), (z48, .inl (γ.2.1 3, 4, .inl (fun _ => 0))), (z36, .inl (γ.2.1 0, 6, .inl (fun _ => 0))), (z37, .inl (γ.2.1 0, 240, .inl (fun _ => 0))), (z38, .inl (γ.2.1 0, 240, .inl (fun _ => 0))), (z39, .inl (γ.2.1 0, 240, .inl (fun _ => 0))), (z40, .inl (γ.2.1 0, 5, .inl (fun _ => 0))), (z41, .inl (γ.2.1 0, 40, .inl (fun _ => 0))), (z42, .inl (γ.2.1 3, 40, .inl (fun _ => 0))), (z43, .inl (γ.2.1 0, 133, .inl fs)), (z46, .inl (γ.2.1 0, 532, .inl fk))] s H locs := hw
  refine W.eq (g2 := F0 m 11 ls [.int 1]) rfl ?_
  refine lv_if_eq (tgt := 27) hx hb dX12_mark_11 (by decide) (fun h => absurd h (by decide)) (fun _ => ?_)
  refine lv_iload_n hx hb dX12_mark_14 rfl (lv_at hl 2 rfl) ?_
  refine lv_if_eq (tgt := 29) hx hb dX12_mark_15 (by decide) (fun _ => ?_) (fun h => absurd (by decide) h)
  refine lv_aload_n hx hb dX12_mark_29 rfl (lv_at hl 0 rfl) ?_
  refine fg_RX12_117 hC hw 0 rfl rfl dX12_mark_30 ?_
  refine lv_iload_n hx hb dX12_mark_33 rfl (lv_at hl 1 rfl) ?_
  refine lv_iconst (v := 1) hx hb dX12_mark_34 (by decide) ?_
  refine k_zast hC hw 1 rfl (k_in0 (by decide)) dX12_mark_35 (fun H locs hw => ?_)
  obtain ⟨f_1453, ef_1453⟩ : ∃ g, g = upd (fun _ => 0) (3 : Int32).toNatClampNeg (vp_nar .boolean 1) := ⟨_, rfl⟩
  have hw : kW γ A [(z, .inr (11, [.int 0, .int 0, .ref z2, .int 0, .int 0, .int 0, .int 0, .long 0, .int 0, .int 0, .ref z10, .ref z11, .ref z12, .ref z13, .ref z14, .ref z15, .ref z16, .ref z17, .ref z18, .ref z19, .int 0, .int 0, .ref z22, .ref z23, .ref z24, .ref z25, .ref z26, .ref z27, .ref z28, .ref z29, .ref z30, .ref z31, .ref z32, .ref z33, .int 0, .long 0, .ref z36, .ref z37, .ref z38, .ref z39, .ref z40, .ref z41, .ref z42, .ref z43, .ref z44, .ref z45, .ref z46, .ref z47, .ref z48, .int 0, .int 10, .int 0, .int 0, .int 0, .int 0, .ref z55, .ref z56, .int 0, .int 0, .ref z59, .ref z60, .ref z61, .int 0, .long 0])), (z48, .inl (γ.2.1 3, 4, .inl f_1453)), (z36, .inl (γ.2.1 0, 6, .inl (fun _ => 0))), (z37, .inl (γ.2.1 0, 240, .inl (fun _ => 0))), (z38, .inl (γ.2.1 0, 240, .inl (fun _ => 0))), (z39, .inl (γ.2.1 0, 240, .inl (fun _ => 0))), (z40, .inl (γ.2.1 0, 5, .inl (fun _ => 0))), (z41, .inl (γ.2.1 0, 40, .inl (fun _ => 0))), (z42, .inl (γ.2.1 3, 40, .inl (fun _ => 0))), (z43, .inl (γ.2.1 0, 133, .inl fs)), (z46, .inl (γ.2.1 0, 532, .inl fk))] s H locs := by rw [ef_1453]; exact hw
  refine lv_iload_n hx hb dX12_mark_36 rfl (lv_at hl 2 rfl) ?_
  refine lv_if_eq (tgt := 46) hx hb dX12_mark_37 (by decide) (fun _ => ?_) (fun h => absurd (by decide) h)
  refine lv_iconst (v := 0) hx hb dX12_mark_46 (by decide) ?_
  refine lv_istore_n (lv' := [(3, .int 0), (0, .ref z), (1, .int 3), (2, .int 0)]) hx hb dX12_mark_47 rfl hl (by decide) rfl (fun ls hl => ?_)
  refine lv_iload_n hx hb dX12_mark_48 rfl (lv_at hl 3 rfl) ?_
  refine lv_if_eq (tgt := 56) hx hb dX12_mark_49 (by decide) (fun _ => ?_) (fun h => absurd (by decide) h)
  refine lv_iconst (v := 1) hx hb dX12_mark_56 (by decide) ?_
  refine lv_iload_n hx hb dX12_mark_57 rfl (lv_at hl 2 rfl) ?_
  refine lv_iadd hx hb dX12_mark_58 ?_
  refine lv_topi (fun x_1454 ex_1454 => ?_)
  obtain rfl : x_1454 = 4 := ex_1454.trans (by decide)
  refine lv_istore (lv' := [(4, .int 4), (3, .int 0), (0, .ref z), (1, .int 3), (2, .int 0)]) hx hb dX12_mark_59 hl (by decide) rfl (fun ls hl => ?_)
  refine lv_aload_n hx hb dX12_mark_61 rfl (lv_at hl 2 rfl) ?_
  refine lv_iload_n hx hb dX12_mark_62 rfl (lv_at hl 1 rfl) ?_
  refine lv_iload hx hb dX12_mark_63 (lv_at hl 0 rfl) ?_
  refine k_V (wr := [(z48, .inl (γ.2.1 3, 4, .inl f_1453)), (z40, .inl (γ.2.1 0, 5, .inl (fun _ => 0))), (z41, .inl (γ.2.1 0, 40, .inl (fun _ => 0))), (z42, .inl (γ.2.1 3, 40, .inl (fun _ => 0))), (z43, .inl (γ.2.1 0, 133, .inl fs)), (z46, .inl (γ.2.1 0, 532, .inl fk))]) 2 gw_1541 gw_1543 gp_78 gw_15 gw_1544 hd_X12_laysLines hC hw (c_X12_laysLines γ l z z2 z10 z11 z12 z13 z14 z15 z16 z17 z18 z19 z22 z23 z24 z25 z26 z27 z28 z29 z30 z31 z32 z33 z36 z37 z38 z39 z40 z41 z42 z43 z44 z45 z46 z47 z48 z55 z56 z59 z60 z61 0 0 0 0 0 0 0 0 0 0 0 0 0 0 10 0 0 0 0 0 0 0 0 (fun _ => 0) (fun _ => 0) (fun _ => 0) (fun _ => 0) 0 4 (by decide) (by decide)) ⟨by decide, by decide⟩ ⟨by decide, by decide⟩ hl.1 rfl 0 rfl rfl rfl (Nat.le_of_ble_eq_true rfl) [0, 2, 3, 4, 5] [1, 6, 7, 8, 9, 10] rfl rfl rfl rfl (by decide) dX12_mark_65 (fun r w1 H locs hq hw => ?_)
  obtain ⟨k0_1455, kg0_1456, kg1_1457, kg2_1458, rfl, rfl⟩ := hq
  have hw : kW γ A [(z48, .inl (γ.2.1 3, 4, .inl f_1453)), (z40, .inl (γ.2.1 0, 5, .inl (fun _ => 0))), (z41, .inl (γ.2.1 0, 40, .inl (fun _ => 0))), (z42, .inl (γ.2.1 3, 40, .inl (fun _ => 0))), (z43, .inl (γ.2.1 0, 133, .inl fs)), (z46, .inl (γ.2.1 0, 532, .inl fk)), (z, .inr (11, [.int 0, .int 0, .ref z2, .int 0, .int 0, .int 0, .int 0, .long 0, .int 0, .int 0, .ref z10, .ref z11, .ref z12, .ref z13, .ref z14, .ref z15, .ref z16, .ref z17, .ref z18, .ref z19, .int 0, .int 0, .ref z22, .ref z23, .ref z24, .ref z25, .ref z26, .ref z27, .ref z28, .ref z29, .ref z30, .ref z31, .ref z32, .ref z33, .int 0, .long 0, .ref z36, .ref z37, .ref z38, .ref z39, .ref z40, .ref z41, .ref z42, .ref z43, .ref z44, .ref z45, .ref z46, .ref z47, .ref z48, .int 0, .int 10, .int 0, .int 0, .int 0, .int 0, .ref z55, .ref z56, .int 0, .int 0, .ref z59, .ref z60, .ref z61, .int 0, .long 0])), (z36, .inl (γ.2.1 0, 6, .inl k0_1455)), (z37, .inl (γ.2.1 0, 240, .inl kg0_1456)), (z38, .inl (γ.2.1 0, 240, .inl kg1_1457)), (z39, .inl (γ.2.1 0, 240, .inl kg2_1458))] s H locs := hw
  refine W.eq (g2 := F0 m 68 ls []) rfl ?_
  refine lv_aload_n hx hb dX12_mark_68 rfl (lv_at hl 2 rfl) ?_
  refine lv_iload_n hx hb dX12_mark_69 rfl (lv_at hl 1 rfl) ?_
  refine lv_iload hx hb dX12_mark_70 (lv_at hl 0 rfl) ?_
  refine k_V (wr := [(z48, .inl (γ.2.1 3, 4, .inl f_1453)), (z43, .inl (γ.2.1 0, 133, .inl fs)), (z46, .inl (γ.2.1 0, 532, .inl fk)), (z36, .inl (γ.2.1 0, 6, .inl k0_1455)), (z37, .inl (γ.2.1 0, 240, .inl kg0_1456)), (z38, .inl (γ.2.1 0, 240, .inl kg1_1457)), (z39, .inl (γ.2.1 0, 240, .inl kg2_1458))]) 2 gw_1807 gw_1809 gp_112 gw_15 gw_1810 hd_X12_laysGuesses hC hw (c_X12_laysGuesses γ l z z2 z10 z11 z12 z13 z14 z15 z16 z17 z18 z19 z22 z23 z24 z25 z26 z27 z28 z29 z30 z31 z32 z33 z36 z37 z38 z39 z40 z41 z42 z43 z44 z45 z46 z47 z48 z55 z56 z59 z60 z61 0 0 0 0 0 0 0 0 0 0 0 0 0 0 10 0 0 0 0 0 0 0 0 (fun _ => 0) (fun _ => 0) (fun _ => 0) 0 4 (by decide) (by decide)) ⟨by decide, by decide⟩ ⟨by decide, by decide⟩ hl.1 rfl 6 rfl rfl rfl (Nat.le_of_ble_eq_true rfl) [6, 1, 2, 3] [0, 4, 5, 7, 8, 9, 10] rfl rfl rfl rfl (by decide) dX12_mark_72 (fun r w1 H locs hq hw => ?_)
  obtain ⟨k0_1459, kg0_1460, kg1_1461, rfl, rfl⟩ := hq
  have hw : kW γ A [(z48, .inl (γ.2.1 3, 4, .inl f_1453)), (z43, .inl (γ.2.1 0, 133, .inl fs)), (z46, .inl (γ.2.1 0, 532, .inl fk)), (z36, .inl (γ.2.1 0, 6, .inl k0_1455)), (z37, .inl (γ.2.1 0, 240, .inl kg0_1456)), (z38, .inl (γ.2.1 0, 240, .inl kg1_1457)), (z39, .inl (γ.2.1 0, 240, .inl kg2_1458)), (z, .inr (11, [.int 0, .int 0, .ref z2, .int 0, .int 0, .int 0, .int 0, .long 0, .int 0, .int 0, .ref z10, .ref z11, .ref z12, .ref z13, .ref z14, .ref z15, .ref z16, .ref z17, .ref z18, .ref z19, .int 0, .int 0, .ref z22, .ref z23, .ref z24, .ref z25, .ref z26, .ref z27, .ref z28, .ref z29, .ref z30, .ref z31, .ref z32, .ref z33, .int 0, .long 0, .ref z36, .ref z37, .ref z38, .ref z39, .ref z40, .ref z41, .ref z42, .ref z43, .ref z44, .ref z45, .ref z46, .ref z47, .ref z48, .int 0, .int 10, .int 0, .int 0, .int 0, .int 0, .ref z55, .ref z56, .int 0, .int 0, .ref z59, .ref z60, .ref z61, .int 0, .long 0])), (z40, .inl (γ.2.1 0, 5, .inl k0_1459)), (z41, .inl (γ.2.1 0, 40, .inl kg0_1460)), (z42, .inl (γ.2.1 3, 40, .inl kg1_1461))] s H locs := hw
  refine W.eq (g2 := F0 m 75 ls []) rfl ?_
  refine lv_iload_n hx hb dX12_mark_75 rfl (lv_at hl 4 rfl) ?_
  refine lv_if_eq (tgt := 104) hx hb dX12_mark_76 (by decide) (fun _ => ?_) (fun h => absurd (by decide) h)
  refine lv_aload_n hx hb dX12_mark_104 rfl (lv_at hl 2 rfl) ?_
  refine fg_RX12_102 hC hw 7 rfl rfl dX12_mark_105 ?_
  refine lv_iconst (v := 0) hx hb dX12_mark_108 (by decide) ?_
  refine lv_aload_n hx hb dX12_mark_109 rfl (lv_at hl 2 rfl) ?_
  refine fg_RX12_111 hC hw 7 rfl rfl dX12_mark_110 ?_
  refine lv_sipush (v := 133) hx hb dX12_mark_113 (by decide) ?_
  refine lv_iload_n hx hb dX12_mark_116 rfl (lv_at hl 3 rfl) ?_
  refine lv_imul hx hb dX12_mark_117 ?_
  refine lv_topi (fun x_1462 ex_1462 => ?_)
  obtain rfl : x_1462 = 399 := ex_1462.trans (by decide)
  refine k_S (wr := [(z48, .inl (γ.2.1 3, 4, .inl f_1453)), (z36, .inl (γ.2.1 0, 6, .inl k0_1455)), (z37, .inl (γ.2.1 0, 240, .inl kg0_1456)), (z38, .inl (γ.2.1 0, 240, .inl kg1_1457)), (z39, .inl (γ.2.1 0, 240, .inl kg2_1458)), (z, .inr (11, [.int 0, .int 0, .ref z2, .int 0, .int 0, .int 0, .int 0, .long 0, .int 0, .int 0, .ref z10, .ref z11, .ref z12, .ref z13, .ref z14, .ref z15, .ref z16, .ref z17, .ref z18, .ref z19, .int 0, .int 0, .ref z22, .ref z23, .ref z24, .ref z25, .ref z26, .ref z27, .ref z28, .ref z29, .ref z30, .ref z31, .ref z32, .ref z33, .int 0, .long 0, .ref z36, .ref z37, .ref z38, .ref z39, .ref z40, .ref z41, .ref z42, .ref z43, .ref z44, .ref z45, .ref z46, .ref z47, .ref z48, .int 0, .int 10, .int 0, .int 0, .int 0, .int 0, .ref z55, .ref z56, .int 0, .int 0, .ref z59, .ref z60, .ref z61, .int 0, .long 0])), (z40, .inl (γ.2.1 0, 5, .inl k0_1459)), (z41, .inl (γ.2.1 0, 40, .inl kg0_1460)), (z42, .inl (γ.2.1 3, 40, .inl kg1_1461))]) 4 gw_1593 gw_1594 gw_15 gw_1595 hd_X12_copies hC hw (c_X12_copies γ l z43 133 fs 0 z46 532 fk 399 (by decide) (by decide) (by decide) (by decide)) ⟨by decide, by decide⟩ ⟨by decide, by decide⟩ hl.1 rfl rfl (Nat.le_of_ble_eq_true rfl) [1, 2] [0, 3, 4, 5, 6, 7, 8, 9, 10] rfl rfl rfl rfl (by decide) dX12_mark_118 (fun r w1 H locs hq hw => ?_)
  obtain ⟨f9_1463, rfl, rfl⟩ := hq
  have hw : kW γ A [(z48, .inl (γ.2.1 3, 4, .inl f_1453)), (z36, .inl (γ.2.1 0, 6, .inl k0_1455)), (z37, .inl (γ.2.1 0, 240, .inl kg0_1456)), (z38, .inl (γ.2.1 0, 240, .inl kg1_1457)), (z39, .inl (γ.2.1 0, 240, .inl kg2_1458)), (z, .inr (11, [.int 0, .int 0, .ref z2, .int 0, .int 0, .int 0, .int 0, .long 0, .int 0, .int 0, .ref z10, .ref z11, .ref z12, .ref z13, .ref z14, .ref z15, .ref z16, .ref z17, .ref z18, .ref z19, .int 0, .int 0, .ref z22, .ref z23, .ref z24, .ref z25, .ref z26, .ref z27, .ref z28, .ref z29, .ref z30, .ref z31, .ref z32, .ref z33, .int 0, .long 0, .ref z36, .ref z37, .ref z38, .ref z39, .ref z40, .ref z41, .ref z42, .ref z43, .ref z44, .ref z45, .ref z46, .ref z47, .ref z48, .int 0, .int 10, .int 0, .int 0, .int 0, .int 0, .ref z55, .ref z56, .int 0, .int 0, .ref z59, .ref z60, .ref z61, .int 0, .long 0])), (z40, .inl (γ.2.1 0, 5, .inl k0_1459)), (z41, .inl (γ.2.1 0, 40, .inl kg0_1460)), (z42, .inl (γ.2.1 3, 40, .inl kg1_1461)), (z43, .inl (γ.2.1 0, 133, .inl fs)), (z46, .inl (γ.2.1 0, 532, .inl f9_1463))] s H locs := hw
  refine W.eq (g2 := F0 m 121 ls []) rfl ?_
  refine lv_iconst (v := 1) hx hb dX12_mark_121 (by decide) ?_
  exact k_zret hC hr hlocks rfl hw [] rfl rfl ⟨rfl, rfl⟩ (by decide) (by decide) dX12_mark_122

set_option maxHeartbeats 4000000 in
set_option maxRecDepth 100000 in
theorem c_X12_mark_3_1 (γ : kΓ) (l : Launch) (z : Nat) (z2 : Nat) (z10 : Nat) (z11 : Nat) (z12 : Nat) (z13 : Nat) (z14 : Nat) (z15 : Nat) (z16 : Nat) (z17 : Nat) (z18 : Nat) (z19 : Nat) (z22 : Nat) (z23 : Nat) (z24 : Nat) (z25 : Nat) (z26 : Nat) (z27 : Nat) (z28 : Nat) (z29 : Nat) (z30 : Nat) (z31 : Nat) (z32 : Nat) (z33 : Nat) (z36 : Nat) (z37 : Nat) (z38 : Nat) (z39 : Nat) (z40 : Nat) (z41 : Nat) (z42 : Nat) (z43 : Nat) (z44 : Nat) (z45 : Nat) (z46 : Nat) (z47 : Nat) (z48 : Nat) (z55 : Nat) (z56 : Nat) (z59 : Nat) (z60 : Nat) (z61 : Nat) : kM γ l yX12_mark cX12_mark 5 ((some .boolean)) ({ frames := 1, cells := 0, slots := 0, locals := 22 } : Room) [.ref z, .int 3, .int 1] [(z, .inr (11, [.int 0, .int 0, .ref z2, .int 0, .int 0, .int 0, .int 0, .long 0, .int 0, .int 0, .ref z10, .ref z11, .ref z12, .ref z13, .ref z14, .ref z15, .ref z16, .ref z17, .ref z18, .ref z19, .int 0, .int 0, .ref z22, .ref z23, .ref z24, .ref z25, .ref z26, .ref z27, .ref z28, .ref z29, .ref z30, .ref z31, .ref z32, .ref z33, .int 0, .long 0, .ref z36, .ref z37, .ref z38, .ref z39, .ref z40, .ref z41, .ref z42, .ref z43, .ref z44, .ref z45, .ref z46, .ref z47, .ref z48, .int 0, .int 10, .int 0, .int 0, .int 0, .int 0, .ref z55, .ref z56, .int 0, .int 0, .ref z59, .ref z60, .ref z61, .int 0, .long 0])), (z48, .inl (γ.2.1 3, 4, .inl (fun _ => 0)))] (fun r w1 => r = some (.int 0) ∧ w1 = []) := by
  refine k_ofW (by decide) (Nat.le_of_ble_eq_true rfl) ?_
  intro p e s m below meth c A ls hC hr hlocks hname hw hl
  have hx := hC.1
  have hb := hC.2.1
  have hl : lv_has ls 5 [(0, .ref z), (1, .int 3), (2, .int 1)] := hl
  refine lv_aload_n hx hb dX12_mark_0 rfl (lv_at hl 0 rfl) ?_
  refine lv_iconst (v := 0) hx hb dX12_mark_1 (by decide) ?_
  refine fs_RX12_143 hC hw 0 rfl rfl rfl (Nat.le_of_ble_eq_true rfl) dX12_mark_2 (fun H locs hw => ?_)
  have hw : kW γ A [(z, .inr (11, [.int 0, .int 0, .ref z2, .int 0, .int 0, .int 0, .int 0, .long 0, .int 0, .int 0, .ref z10, .ref z11, .ref z12, .ref z13, .ref z14, .ref z15, .ref z16, .ref z17, .ref z18, .ref z19, .int 0, .int 0, .ref z22, .ref z23, .ref z24, .ref z25, .ref z26, .ref z27, .ref z28, .ref z29, .ref z30, .ref z31, .ref z32, .ref z33, .int 0, .long 0, .ref z36, .ref z37, .ref z38, .ref z39, .ref z40, .ref z41, .ref z42, .ref z43, .ref z44, .ref z45, .ref z46, .ref z47, .ref z48, .int 0, .int 10, .int 0, .int 0, .int 0, .int 0, .ref z55, .ref z56, .int 0, .int 0, .ref z59, .ref z60, .ref z61, .int 0, .long 0])), (z48, .inl (γ.2.1 3, 4, .inl (fun _ => 0)))] s H locs := hw
  refine lv_iload_n hx hb dX12_mark_5 rfl (lv_at hl 1 rfl) ?_
  refine lv_iconst (v := 0) hx hb dX12_mark_6 (by decide) ?_
  refine lv_iconst (v := 3) hx hb dX12_mark_7 (by decide) ?_
  refine k_S (wr := [(z, .inr (11, [.int 0, .int 0, .ref z2, .int 0, .int 0, .int 0, .int 0, .long 0, .int 0, .int 0, .ref z10, .ref z11, .ref z12, .ref z13, .ref z14, .ref z15, .ref z16, .ref z17, .ref z18, .ref z19, .int 0, .int 0, .ref z22, .ref z23, .ref z24, .ref z25, .ref z26, .ref z27, .ref z28, .ref z29, .ref z30, .ref z31, .ref z32, .ref z33, .int 0, .long 0, .ref z36, .ref z37, .ref z38, .ref z39, .ref z40, .ref z41, .ref z42, .ref z43, .ref z44, .ref z45, .ref z46, .ref z47, .ref z48, .int 0, .int 10, .int 0, .int 0, .int 0, .int 0, .ref z55, .ref z56, .int 0, .int 0, .ref z59, .ref z60, .ref z61, .int 0, .long 0])), (z48, .inl (γ.2.1 3, 4, .inl (fun _ => 0)))]) 3 gw_1472 gw_1473 gw_15 gw_1474 hd_X12_within hC hw (c_within_t γ l 3 0 3 (by decide) (by decide)) ⟨by decide, by decide⟩ ⟨by decide, by decide⟩ hl.1 rfl rfl (Nat.le_of_ble_eq_true rfl) [] [0, 1] rfl rfl rfl rfl (by decide) dX12_mark_8 (fun r w1 H locs hq hw => ?_)
  obtain ⟨rfl, rfl⟩ := hq
  have hw : kW γ A [(z, .inr (11, [.int 0, .int 0, .ref z2, .int 0, .int 0, .int 0, .int 0, .long 0, .int 0, .int 0, .ref z10, .ref z11, .ref z12, .ref z13, .ref z14, .ref z15, .ref z16, .ref z17, .ref z18, .ref z19, .int 0, .int 0, .ref z22, .ref z23, .ref z24, .ref z25, .ref z26, .ref z27, .ref z28, .ref z29, .ref z30, .ref z31, .ref z32, .ref z33, .int 0, .long 0, .ref z36, .ref z37, .ref z38, .ref z39, .ref z40, .ref z41, .ref z42, .ref z43, .ref z44, .ref z45, .ref z46, .ref z47, .ref z48, .int 0, .int 10, .int 0, .int 0, .int 0, .int 0, .ref z55, .ref z56, .int 0, .int 0, .ref z59, .ref z60, .ref z61, .int 0, .long 0])), (z48, .inl (γ.2.1 3, 4, .inl (fun _ => 0)))] s H locs := hw
  refine W.eq (g2 := F0 m 11 ls [.int 1]) rfl ?_
  refine lv_if_eq (tgt := 27) hx hb dX12_mark_11 (by decide) (fun h => absurd h (by decide)) (fun _ => ?_)
  refine lv_iload_n hx hb dX12_mark_14 rfl (lv_at hl 2 rfl) ?_
  refine lv_if_eq (tgt := 29) hx hb dX12_mark_15 (by decide) (fun h => absurd h (by decide)) (fun _ => ?_)
  refine lv_aload_n hx hb dX12_mark_18 rfl (lv_at hl 0 rfl) ?_
  refine fg_RX12_117 hC hw 0 rfl rfl dX12_mark_19 ?_
  refine lv_iload_n hx hb dX12_mark_22 rfl (lv_at hl 1 rfl) ?_
  refine k_zald hC hw 1 rfl (k_in0 (by decide)) dX12_mark_23 ?_
  refine lv_topi (fun x_1464 ex_1464 => ?_)
  obtain rfl : x_1464 = 0 := ex_1464
  refine lv_if_ne (tgt := 29) hx hb dX12_mark_24 (by decide) (fun h => absurd rfl h) (fun _ => ?_)
  refine lv_iconst (v := 0) hx hb dX12_mark_27 (by decide) ?_
  exact k_zret hC hr hlocks rfl hw [] rfl rfl ⟨rfl, rfl⟩ (by decide) (by decide) dX12_mark_28

set_option maxHeartbeats 4000000 in
set_option maxRecDepth 100000 in
theorem c_X12_mark_l (γ : kΓ) (l : Launch) (z : Nat) (z2 : Nat) (z10 : Nat) (z11 : Nat) (z12 : Nat) (z13 : Nat) (z14 : Nat) (z15 : Nat) (z16 : Nat) (z17 : Nat) (z18 : Nat) (z19 : Nat) (z22 : Nat) (z23 : Nat) (z24 : Nat) (z25 : Nat) (z26 : Nat) (z27 : Nat) (z28 : Nat) (z29 : Nat) (z30 : Nat) (z31 : Nat) (z32 : Nat) (z33 : Nat) (z36 : Nat) (z37 : Nat) (z38 : Nat) (z39 : Nat) (z40 : Nat) (z41 : Nat) (z42 : Nat) (z43 : Nat) (z44 : Nat) (z45 : Nat) (z46 : Nat) (z47 : Nat) (z48 : Nat) (z55 : Nat) (z56 : Nat) (z59 : Nat) (z60 : Nat) (z61 : Nat) (t : Int32) (u : Int32) (h1 : t < 0) : kM γ l yX12_mark cX12_mark 5 ((some .boolean)) ({ frames := 1, cells := 0, slots := 0, locals := 22 } : Room) [.ref z, .int t, .int u] [(z, .inr (11, [.int 0, .int 0, .ref z2, .int 0, .int 0, .int 0, .int 0, .long 0, .int 0, .int 0, .ref z10, .ref z11, .ref z12, .ref z13, .ref z14, .ref z15, .ref z16, .ref z17, .ref z18, .ref z19, .int 0, .int 0, .ref z22, .ref z23, .ref z24, .ref z25, .ref z26, .ref z27, .ref z28, .ref z29, .ref z30, .ref z31, .ref z32, .ref z33, .int 0, .long 0, .ref z36, .ref z37, .ref z38, .ref z39, .ref z40, .ref z41, .ref z42, .ref z43, .ref z44, .ref z45, .ref z46, .ref z47, .ref z48, .int 0, .int 10, .int 0, .int 0, .int 0, .int 0, .ref z55, .ref z56, .int 0, .int 0, .ref z59, .ref z60, .ref z61, .int 0, .long 0]))] (fun r w1 => r = some (.int 0) ∧ w1 = []) := by
  refine k_ofW (by decide) (Nat.le_of_ble_eq_true rfl) ?_
  intro p e s m below meth c A ls hC hr hlocks hname hw hl
  have hx := hC.1
  have hb := hC.2.1
  have hl : lv_has ls 5 [(0, .ref z), (1, .int t), (2, .int u)] := hl
  refine lv_aload_n hx hb dX12_mark_0 rfl (lv_at hl 0 rfl) ?_
  refine lv_iconst (v := 0) hx hb dX12_mark_1 (by decide) ?_
  refine fs_RX12_143 hC hw 0 rfl rfl rfl (Nat.le_of_ble_eq_true rfl) dX12_mark_2 (fun H locs hw => ?_)
  have hw : kW γ A [(z, .inr (11, [.int 0, .int 0, .ref z2, .int 0, .int 0, .int 0, .int 0, .long 0, .int 0, .int 0, .ref z10, .ref z11, .ref z12, .ref z13, .ref z14, .ref z15, .ref z16, .ref z17, .ref z18, .ref z19, .int 0, .int 0, .ref z22, .ref z23, .ref z24, .ref z25, .ref z26, .ref z27, .ref z28, .ref z29, .ref z30, .ref z31, .ref z32, .ref z33, .int 0, .long 0, .ref z36, .ref z37, .ref z38, .ref z39, .ref z40, .ref z41, .ref z42, .ref z43, .ref z44, .ref z45, .ref z46, .ref z47, .ref z48, .int 0, .int 10, .int 0, .int 0, .int 0, .int 0, .ref z55, .ref z56, .int 0, .int 0, .ref z59, .ref z60, .ref z61, .int 0, .long 0]))] s H locs := hw
  refine lv_iload_n hx hb dX12_mark_5 rfl (lv_at hl 1 rfl) ?_
  refine lv_iconst (v := 0) hx hb dX12_mark_6 (by decide) ?_
  refine lv_iconst (v := 3) hx hb dX12_mark_7 (by decide) ?_
  refine k_S (wr := [(z, .inr (11, [.int 0, .int 0, .ref z2, .int 0, .int 0, .int 0, .int 0, .long 0, .int 0, .int 0, .ref z10, .ref z11, .ref z12, .ref z13, .ref z14, .ref z15, .ref z16, .ref z17, .ref z18, .ref z19, .int 0, .int 0, .ref z22, .ref z23, .ref z24, .ref z25, .ref z26, .ref z27, .ref z28, .ref z29, .ref z30, .ref z31, .ref z32, .ref z33, .int 0, .long 0, .ref z36, .ref z37, .ref z38, .ref z39, .ref z40, .ref z41, .ref z42, .ref z43, .ref z44, .ref z45, .ref z46, .ref z47, .ref z48, .int 0, .int 10, .int 0, .int 0, .int 0, .int 0, .ref z55, .ref z56, .int 0, .int 0, .ref z59, .ref z60, .ref z61, .int 0, .long 0]))]) 3 gw_1472 gw_1473 gw_15 gw_1474 hd_X12_within hC hw (c_within_l γ l t 0 3 h1) ⟨by decide, by decide⟩ ⟨by decide, by decide⟩ hl.1 rfl rfl (Nat.le_of_ble_eq_true rfl) [] [0] rfl rfl rfl rfl (by decide) dX12_mark_8 (fun r w1 H locs hq hw => ?_)
  obtain ⟨rfl, rfl⟩ := hq
  have hw : kW γ A [(z, .inr (11, [.int 0, .int 0, .ref z2, .int 0, .int 0, .int 0, .int 0, .long 0, .int 0, .int 0, .ref z10, .ref z11, .ref z12, .ref z13, .ref z14, .ref z15, .ref z16, .ref z17, .ref z18, .ref z19, .int 0, .int 0, .ref z22, .ref z23, .ref z24, .ref z25, .ref z26, .ref z27, .ref z28, .ref z29, .ref z30, .ref z31, .ref z32, .ref z33, .int 0, .long 0, .ref z36, .ref z37, .ref z38, .ref z39, .ref z40, .ref z41, .ref z42, .ref z43, .ref z44, .ref z45, .ref z46, .ref z47, .ref z48, .int 0, .int 10, .int 0, .int 0, .int 0, .int 0, .ref z55, .ref z56, .int 0, .int 0, .ref z59, .ref z60, .ref z61, .int 0, .long 0]))] s H locs := hw
  refine W.eq (g2 := F0 m 11 ls [.int 0]) rfl ?_
  refine lv_if_eq (tgt := 27) hx hb dX12_mark_11 (by decide) (fun _ => ?_) (fun h => absurd (by decide) h)
  refine lv_iconst (v := 0) hx hb dX12_mark_27 (by decide) ?_
  exact k_zret hC hr hlocks rfl hw [] rfl rfl ⟨rfl, rfl⟩ (by decide) (by decide) dX12_mark_28

set_option maxHeartbeats 4000000 in
set_option maxRecDepth 100000 in
theorem c_X12_mark_h (γ : kΓ) (l : Launch) (z : Nat) (z2 : Nat) (z10 : Nat) (z11 : Nat) (z12 : Nat) (z13 : Nat) (z14 : Nat) (z15 : Nat) (z16 : Nat) (z17 : Nat) (z18 : Nat) (z19 : Nat) (z22 : Nat) (z23 : Nat) (z24 : Nat) (z25 : Nat) (z26 : Nat) (z27 : Nat) (z28 : Nat) (z29 : Nat) (z30 : Nat) (z31 : Nat) (z32 : Nat) (z33 : Nat) (z36 : Nat) (z37 : Nat) (z38 : Nat) (z39 : Nat) (z40 : Nat) (z41 : Nat) (z42 : Nat) (z43 : Nat) (z44 : Nat) (z45 : Nat) (z46 : Nat) (z47 : Nat) (z48 : Nat) (z55 : Nat) (z56 : Nat) (z59 : Nat) (z60 : Nat) (z61 : Nat) (t : Int32) (u : Int32) (h1 : ¬ t < 0) (h2 : 3 < t) : kM γ l yX12_mark cX12_mark 5 ((some .boolean)) ({ frames := 1, cells := 0, slots := 0, locals := 22 } : Room) [.ref z, .int t, .int u] [(z, .inr (11, [.int 0, .int 0, .ref z2, .int 0, .int 0, .int 0, .int 0, .long 0, .int 0, .int 0, .ref z10, .ref z11, .ref z12, .ref z13, .ref z14, .ref z15, .ref z16, .ref z17, .ref z18, .ref z19, .int 0, .int 0, .ref z22, .ref z23, .ref z24, .ref z25, .ref z26, .ref z27, .ref z28, .ref z29, .ref z30, .ref z31, .ref z32, .ref z33, .int 0, .long 0, .ref z36, .ref z37, .ref z38, .ref z39, .ref z40, .ref z41, .ref z42, .ref z43, .ref z44, .ref z45, .ref z46, .ref z47, .ref z48, .int 0, .int 10, .int 0, .int 0, .int 0, .int 0, .ref z55, .ref z56, .int 0, .int 0, .ref z59, .ref z60, .ref z61, .int 0, .long 0]))] (fun r w1 => r = some (.int 0) ∧ w1 = []) := by
  refine k_ofW (by decide) (Nat.le_of_ble_eq_true rfl) ?_
  intro p e s m below meth c A ls hC hr hlocks hname hw hl
  have hx := hC.1
  have hb := hC.2.1
  have hl : lv_has ls 5 [(0, .ref z), (1, .int t), (2, .int u)] := hl
  refine lv_aload_n hx hb dX12_mark_0 rfl (lv_at hl 0 rfl) ?_
  refine lv_iconst (v := 0) hx hb dX12_mark_1 (by decide) ?_
  refine fs_RX12_143 hC hw 0 rfl rfl rfl (Nat.le_of_ble_eq_true rfl) dX12_mark_2 (fun H locs hw => ?_)
  have hw : kW γ A [(z, .inr (11, [.int 0, .int 0, .ref z2, .int 0, .int 0, .int 0, .int 0, .long 0, .int 0, .int 0, .ref z10, .ref z11, .ref z12, .ref z13, .ref z14, .ref z15, .ref z16, .ref z17, .ref z18, .ref z19, .int 0, .int 0, .ref z22, .ref z23, .ref z24, .ref z25, .ref z26, .ref z27, .ref z28, .ref z29, .ref z30, .ref z31, .ref z32, .ref z33, .int 0, .long 0, .ref z36, .ref z37, .ref z38, .ref z39, .ref z40, .ref z41, .ref z42, .ref z43, .ref z44, .ref z45, .ref z46, .ref z47, .ref z48, .int 0, .int 10, .int 0, .int 0, .int 0, .int 0, .ref z55, .ref z56, .int 0, .int 0, .ref z59, .ref z60, .ref z61, .int 0, .long 0]))] s H locs := hw
  refine lv_iload_n hx hb dX12_mark_5 rfl (lv_at hl 1 rfl) ?_
  refine lv_iconst (v := 0) hx hb dX12_mark_6 (by decide) ?_
  refine lv_iconst (v := 3) hx hb dX12_mark_7 (by decide) ?_
  refine k_S (wr := [(z, .inr (11, [.int 0, .int 0, .ref z2, .int 0, .int 0, .int 0, .int 0, .long 0, .int 0, .int 0, .ref z10, .ref z11, .ref z12, .ref z13, .ref z14, .ref z15, .ref z16, .ref z17, .ref z18, .ref z19, .int 0, .int 0, .ref z22, .ref z23, .ref z24, .ref z25, .ref z26, .ref z27, .ref z28, .ref z29, .ref z30, .ref z31, .ref z32, .ref z33, .int 0, .long 0, .ref z36, .ref z37, .ref z38, .ref z39, .ref z40, .ref z41, .ref z42, .ref z43, .ref z44, .ref z45, .ref z46, .ref z47, .ref z48, .int 0, .int 10, .int 0, .int 0, .int 0, .int 0, .ref z55, .ref z56, .int 0, .int 0, .ref z59, .ref z60, .ref z61, .int 0, .long 0]))]) 3 gw_1472 gw_1473 gw_15 gw_1474 hd_X12_within hC hw (c_within_h γ l t 0 3 h1 h2) ⟨by decide, by decide⟩ ⟨by decide, by decide⟩ hl.1 rfl rfl (Nat.le_of_ble_eq_true rfl) [] [0] rfl rfl rfl rfl (by decide) dX12_mark_8 (fun r w1 H locs hq hw => ?_)
  obtain ⟨rfl, rfl⟩ := hq
  have hw : kW γ A [(z, .inr (11, [.int 0, .int 0, .ref z2, .int 0, .int 0, .int 0, .int 0, .long 0, .int 0, .int 0, .ref z10, .ref z11, .ref z12, .ref z13, .ref z14, .ref z15, .ref z16, .ref z17, .ref z18, .ref z19, .int 0, .int 0, .ref z22, .ref z23, .ref z24, .ref z25, .ref z26, .ref z27, .ref z28, .ref z29, .ref z30, .ref z31, .ref z32, .ref z33, .int 0, .long 0, .ref z36, .ref z37, .ref z38, .ref z39, .ref z40, .ref z41, .ref z42, .ref z43, .ref z44, .ref z45, .ref z46, .ref z47, .ref z48, .int 0, .int 10, .int 0, .int 0, .int 0, .int 0, .ref z55, .ref z56, .int 0, .int 0, .ref z59, .ref z60, .ref z61, .int 0, .long 0]))] s H locs := hw
  refine W.eq (g2 := F0 m 11 ls [.int 0]) rfl ?_
  refine lv_if_eq (tgt := 27) hx hb dX12_mark_11 (by decide) (fun _ => ?_) (fun h => absurd (by decide) h)
  refine lv_iconst (v := 0) hx hb dX12_mark_27 (by decide) ?_
  exact k_zret hC hr hlocks rfl hw [] rfl rfl ⟨rfl, rfl⟩ (by decide) (by decide) dX12_mark_28

