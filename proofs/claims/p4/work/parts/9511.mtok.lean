theorem dX12_signAt_0 : decode cX12_signAt 0 = .ok (.iload_n 1, 1) := by decide +kernel
theorem dX12_signAt_1 : decode cX12_signAt 1 = .ok (.aload_n 0, 1) := by decide +kernel
theorem dX12_signAt_2 : decode cX12_signAt 2 = .ok (.getfield 151, 3) := by decide +kernel
theorem dX12_signAt_5 : decode cX12_signAt 5 = .ok (.if_icmp .ge 12, 3) := by decide +kernel
theorem dX12_signAt_8 : decode cX12_signAt 8 = .ok (.aload_n 0, 1) := by decide +kernel
theorem dX12_signAt_9 : decode cX12_signAt 9 = .ok (.getfield 7, 3) := by decide +kernel
theorem dX12_signAt_12 : decode cX12_signAt 12 = .ok (.iload_n 1, 1) := by decide +kernel
theorem dX12_signAt_13 : decode cX12_signAt 13 = .ok (.iaload, 1) := by decide +kernel
theorem dX12_signAt_14 : decode cX12_signAt 14 = .ok (.goto 4, 3) := by decide +kernel
theorem dX12_signAt_17 : decode cX12_signAt 17 = .ok (.iconst 0, 1) := by decide +kernel
theorem dX12_signAt_18 : decode cX12_signAt 18 = .ok (.ireturn, 1) := by decide +kernel
theorem dX12_nextToken_0 : decode cX12_nextToken 0 = .ok (.aload_n 0, 1) := by decide +kernel
theorem dX12_nextToken_1 : decode cX12_nextToken 1 = .ok (.getfield 154, 3) := by decide +kernel
theorem dX12_nextToken_4 : decode cX12_nextToken 4 = .ok (.aload_n 0, 1) := by decide +kernel
theorem dX12_nextToken_5 : decode cX12_nextToken 5 = .ok (.getfield 151, 3) := by decide +kernel
theorem dX12_nextToken_8 : decode cX12_nextToken 8 = .ok (.if_icmp .ge 44, 3) := by decide +kernel
theorem dX12_nextToken_11 : decode cX12_nextToken 11 = .ok (.aload_n 0, 1) := by decide +kernel
theorem dX12_nextToken_12 : decode cX12_nextToken 12 = .ok (.getfield 7, 3) := by decide +kernel
theorem dX12_nextToken_15 : decode cX12_nextToken 15 = .ok (.aload_n 0, 1) := by decide +kernel
theorem dX12_nextToken_16 : decode cX12_nextToken 16 = .ok (.getfield 154, 3) := by decide +kernel
theorem dX12_nextToken_19 : decode cX12_nextToken 19 = .ok (.iaload, 1) := by decide +kernel
theorem dX12_nextToken_20 : decode cX12_nextToken 20 = .ok (.bipush 32, 2) := by decide +kernel
theorem dX12_nextToken_22 : decode cX12_nextToken 22 = .ok (.if_icmp .eq 17, 3) := by decide +kernel
theorem dX12_nextToken_25 : decode cX12_nextToken 25 = .ok (.aload_n 0, 1) := by decide +kernel
theorem dX12_nextToken_26 : decode cX12_nextToken 26 = .ok (.getfield 7, 3) := by decide +kernel
theorem dX12_nextToken_29 : decode cX12_nextToken 29 = .ok (.aload_n 0, 1) := by decide +kernel
theorem dX12_nextToken_30 : decode cX12_nextToken 30 = .ok (.getfield 154, 3) := by decide +kernel
theorem dX12_nextToken_33 : decode cX12_nextToken 33 = .ok (.iaload, 1) := by decide +kernel
theorem dX12_nextToken_34 : decode cX12_nextToken 34 = .ok (.bipush 10, 2) := by decide +kernel
theorem dX12_nextToken_36 : decode cX12_nextToken 36 = .ok (.if_icmp .ne 16, 3) := by decide +kernel
theorem dX12_nextToken_39 : decode cX12_nextToken 39 = .ok (.aload_n 0, 1) := by decide +kernel
theorem dX12_nextToken_40 : decode cX12_nextToken 40 = .ok (.dup, 1) := by decide +kernel
theorem dX12_nextToken_41 : decode cX12_nextToken 41 = .ok (.getfield 154, 3) := by decide +kernel
theorem dX12_nextToken_44 : decode cX12_nextToken 44 = .ok (.iconst 1, 1) := by decide +kernel
theorem dX12_nextToken_45 : decode cX12_nextToken 45 = .ok (.iadd, 1) := by decide +kernel
theorem dX12_nextToken_46 : decode cX12_nextToken 46 = .ok (.putfield 154, 3) := by decide +kernel
theorem dX12_nextToken_49 : decode cX12_nextToken 49 = .ok (.goto (-49), 3) := by decide +kernel
theorem dX12_nextToken_52 : decode cX12_nextToken 52 = .ok (.aload_n 0, 1) := by decide +kernel
theorem dX12_nextToken_53 : decode cX12_nextToken 53 = .ok (.aload_n 0, 1) := by decide +kernel
theorem dX12_nextToken_54 : decode cX12_nextToken 54 = .ok (.getfield 154, 3) := by decide +kernel
theorem dX12_nextToken_57 : decode cX12_nextToken 57 = .ok (.putfield 157, 3) := by decide +kernel
theorem dX12_nextToken_60 : decode cX12_nextToken 60 = .ok (.aload_n 0, 1) := by decide +kernel
theorem dX12_nextToken_61 : decode cX12_nextToken 61 = .ok (.lconst 0, 1) := by decide +kernel
theorem dX12_nextToken_62 : decode cX12_nextToken 62 = .ok (.putfield 160, 3) := by decide +kernel
theorem dX12_nextToken_65 : decode cX12_nextToken 65 = .ok (.aload_n 0, 1) := by decide +kernel
theorem dX12_nextToken_66 : decode cX12_nextToken 66 = .ok (.iconst 0, 1) := by decide +kernel
theorem dX12_nextToken_67 : decode cX12_nextToken 67 = .ok (.putfield 164, 3) := by decide +kernel
theorem dX12_nextToken_70 : decode cX12_nextToken 70 = .ok (.aload_n 0, 1) := by decide +kernel
theorem dX12_nextToken_71 : decode cX12_nextToken 71 = .ok (.getfield 154, 3) := by decide +kernel
theorem dX12_nextToken_74 : decode cX12_nextToken 74 = .ok (.aload_n 0, 1) := by decide +kernel
theorem dX12_nextToken_75 : decode cX12_nextToken 75 = .ok (.getfield 151, 3) := by decide +kernel
theorem dX12_nextToken_78 : decode cX12_nextToken 78 = .ok (.if_icmp .ne 9, 3) := by decide +kernel
theorem dX12_nextToken_81 : decode cX12_nextToken 81 = .ok (.aload_n 0, 1) := by decide +kernel
theorem dX12_nextToken_82 : decode cX12_nextToken 82 = .ok (.iconst 0, 1) := by decide +kernel
theorem dX12_nextToken_83 : decode cX12_nextToken 83 = .ok (.putfield 167, 3) := by decide +kernel
theorem dX12_nextToken_86 : decode cX12_nextToken 86 = .ok (.return_, 1) := by decide +kernel
theorem dX12_nextToken_87 : decode cX12_nextToken 87 = .ok (.aload_n 0, 1) := by decide +kernel
theorem dX12_nextToken_88 : decode cX12_nextToken 88 = .ok (.getfield 7, 3) := by decide +kernel
theorem dX12_nextToken_91 : decode cX12_nextToken 91 = .ok (.aload_n 0, 1) := by decide +kernel
theorem dX12_nextToken_92 : decode cX12_nextToken 92 = .ok (.getfield 154, 3) := by decide +kernel
theorem dX12_nextToken_95 : decode cX12_nextToken 95 = .ok (.iaload, 1) := by decide +kernel
theorem dX12_nextToken_96 : decode cX12_nextToken 96 = .ok (.istore_n 1, 1) := by decide +kernel
theorem dX12_nextToken_97 : decode cX12_nextToken 97 = .ok (.iload_n 1, 1) := by decide +kernel
theorem dX12_nextToken_98 : decode cX12_nextToken 98 = .ok (.bipush 97, 2) := by decide +kernel
theorem dX12_nextToken_100 : decode cX12_nextToken 100 = .ok (.if_icmp .lt 112, 3) := by decide +kernel
theorem dX12_nextToken_103 : decode cX12_nextToken 103 = .ok (.iload_n 1, 1) := by decide +kernel
theorem dX12_nextToken_104 : decode cX12_nextToken 104 = .ok (.bipush 122, 2) := by decide +kernel
theorem dX12_nextToken_106 : decode cX12_nextToken 106 = .ok (.if_icmp .gt 106, 3) := by decide +kernel
theorem dX12_nextToken_109 : decode cX12_nextToken 109 = .ok (.aload_n 0, 1) := by decide +kernel
theorem dX12_nextToken_110 : decode cX12_nextToken 110 = .ok (.aload_n 0, 1) := by decide +kernel
theorem dX12_nextToken_111 : decode cX12_nextToken 111 = .ok (.getfield 154, 3) := by decide +kernel
theorem dX12_nextToken_114 : decode cX12_nextToken 114 = .ok (.invokevirtual 170, 3) := by decide +kernel
theorem dX12_nextToken_117 : decode cX12_nextToken 117 = .ok (.bipush 97, 2) := by decide +kernel
theorem dX12_nextToken_119 : decode cX12_nextToken 119 = .ok (.if_icmp .lt 69, 3) := by decide +kernel
theorem dX12_nextToken_122 : decode cX12_nextToken 122 = .ok (.aload_n 0, 1) := by decide +kernel
theorem dX12_nextToken_123 : decode cX12_nextToken 123 = .ok (.aload_n 0, 1) := by decide +kernel
theorem dX12_nextToken_124 : decode cX12_nextToken 124 = .ok (.getfield 154, 3) := by decide +kernel
theorem dX12_nextToken_127 : decode cX12_nextToken 127 = .ok (.invokevirtual 170, 3) := by decide +kernel
theorem dX12_nextToken_130 : decode cX12_nextToken 130 = .ok (.bipush 122, 2) := by decide +kernel
theorem dX12_nextToken_132 : decode cX12_nextToken 132 = .ok (.if_icmp .gt 56, 3) := by decide +kernel
theorem dX12_nextToken_135 : decode cX12_nextToken 135 = .ok (.aload_n 0, 1) := by decide +kernel
theorem dX12_nextToken_136 : decode cX12_nextToken 136 = .ok (.getfield 154, 3) := by decide +kernel
theorem dX12_nextToken_139 : decode cX12_nextToken 139 = .ok (.aload_n 0, 1) := by decide +kernel
theorem dX12_nextToken_140 : decode cX12_nextToken 140 = .ok (.getfield 157, 3) := by decide +kernel
theorem dX12_nextToken_143 : decode cX12_nextToken 143 = .ok (.isub, 1) := by decide +kernel
theorem dX12_nextToken_144 : decode cX12_nextToken 144 = .ok (.bipush 8, 2) := by decide +kernel
theorem dX12_nextToken_146 : decode cX12_nextToken 146 = .ok (.if_icmp .ge 29, 3) := by decide +kernel
theorem dX12_nextToken_149 : decode cX12_nextToken 149 = .ok (.aload_n 0, 1) := by decide +kernel
theorem dX12_nextToken_150 : decode cX12_nextToken 150 = .ok (.aload_n 0, 1) := by decide +kernel
theorem dX12_nextToken_151 : decode cX12_nextToken 151 = .ok (.getfield 160, 3) := by decide +kernel
theorem dX12_nextToken_154 : decode cX12_nextToken 154 = .ok (.ldc2_w 174, 3) := by decide +kernel
theorem dX12_nextToken_157 : decode cX12_nextToken 157 = .ok (.lmul, 1) := by decide +kernel
theorem dX12_nextToken_158 : decode cX12_nextToken 158 = .ok (.aload_n 0, 1) := by decide +kernel
theorem dX12_nextToken_159 : decode cX12_nextToken 159 = .ok (.aload_n 0, 1) := by decide +kernel
theorem dX12_nextToken_160 : decode cX12_nextToken 160 = .ok (.getfield 154, 3) := by decide +kernel
theorem dX12_nextToken_163 : decode cX12_nextToken 163 = .ok (.invokevirtual 170, 3) := by decide +kernel
theorem dX12_nextToken_166 : decode cX12_nextToken 166 = .ok (.i2l, 1) := by decide +kernel
theorem dX12_nextToken_167 : decode cX12_nextToken 167 = .ok (.ladd, 1) := by decide +kernel
theorem dX12_nextToken_168 : decode cX12_nextToken 168 = .ok (.ldc2_w 176, 3) := by decide +kernel
theorem dX12_nextToken_171 : decode cX12_nextToken 171 = .ok (.lsub, 1) := by decide +kernel
theorem dX12_nextToken_172 : decode cX12_nextToken 172 = .ok (.putfield 160, 3) := by decide +kernel
theorem dX12_nextToken_175 : decode cX12_nextToken 175 = .ok (.aload_n 0, 1) := by decide +kernel
theorem dX12_nextToken_176 : decode cX12_nextToken 176 = .ok (.dup, 1) := by decide +kernel
theorem dX12_nextToken_177 : decode cX12_nextToken 177 = .ok (.getfield 154, 3) := by decide +kernel
theorem dX12_nextToken_180 : decode cX12_nextToken 180 = .ok (.iconst 1, 1) := by decide +kernel
theorem dX12_nextToken_181 : decode cX12_nextToken 181 = .ok (.iadd, 1) := by decide +kernel
theorem dX12_nextToken_182 : decode cX12_nextToken 182 = .ok (.putfield 154, 3) := by decide +kernel
theorem dX12_nextToken_185 : decode cX12_nextToken 185 = .ok (.goto (-76), 3) := by decide +kernel
theorem dX12_nextToken_188 : decode cX12_nextToken 188 = .ok (.aload_n 0, 1) := by decide +kernel
theorem dX12_nextToken_189 : decode cX12_nextToken 189 = .ok (.aload_n 0, 1) := by decide +kernel
theorem dX12_nextToken_190 : decode cX12_nextToken 190 = .ok (.getfield 154, 3) := by decide +kernel
theorem dX12_nextToken_193 : decode cX12_nextToken 193 = .ok (.aload_n 0, 1) := by decide +kernel
theorem dX12_nextToken_194 : decode cX12_nextToken 194 = .ok (.getfield 157, 3) := by decide +kernel
theorem dX12_nextToken_197 : decode cX12_nextToken 197 = .ok (.isub, 1) := by decide +kernel
theorem dX12_nextToken_198 : decode cX12_nextToken 198 = .ok (.bipush 8, 2) := by decide +kernel
theorem dX12_nextToken_200 : decode cX12_nextToken 200 = .ok (.if_icmp .le 7, 3) := by decide +kernel
theorem dX12_nextToken_203 : decode cX12_nextToken 203 = .ok (.iconst 4, 1) := by decide +kernel
theorem dX12_nextToken_204 : decode cX12_nextToken 204 = .ok (.goto 4, 3) := by decide +kernel
theorem dX12_nextToken_207 : decode cX12_nextToken 207 = .ok (.iconst 1, 1) := by decide +kernel
theorem dX12_nextToken_208 : decode cX12_nextToken 208 = .ok (.putfield 167, 3) := by decide +kernel
theorem dX12_nextToken_211 : decode cX12_nextToken 211 = .ok (.return_, 1) := by decide +kernel
theorem dX12_nextToken_212 : decode cX12_nextToken 212 = .ok (.iload_n 1, 1) := by decide +kernel
theorem dX12_nextToken_213 : decode cX12_nextToken 213 = .ok (.bipush 48, 2) := by decide +kernel
theorem dX12_nextToken_215 : decode cX12_nextToken 215 = .ok (.if_icmp .lt 107, 3) := by decide +kernel
theorem dX12_nextToken_218 : decode cX12_nextToken 218 = .ok (.iload_n 1, 1) := by decide +kernel
theorem dX12_nextToken_219 : decode cX12_nextToken 219 = .ok (.bipush 57, 2) := by decide +kernel
theorem dX12_nextToken_221 : decode cX12_nextToken 221 = .ok (.if_icmp .gt 101, 3) := by decide +kernel
theorem dX12_nextToken_224 : decode cX12_nextToken 224 = .ok (.aload_n 0, 1) := by decide +kernel
theorem dX12_nextToken_225 : decode cX12_nextToken 225 = .ok (.aload_n 0, 1) := by decide +kernel
theorem dX12_nextToken_226 : decode cX12_nextToken 226 = .ok (.getfield 154, 3) := by decide +kernel
theorem dX12_nextToken_229 : decode cX12_nextToken 229 = .ok (.invokevirtual 170, 3) := by decide +kernel
theorem dX12_nextToken_232 : decode cX12_nextToken 232 = .ok (.bipush 48, 2) := by decide +kernel
theorem dX12_nextToken_234 : decode cX12_nextToken 234 = .ok (.if_icmp .lt 65, 3) := by decide +kernel
theorem dX12_nextToken_237 : decode cX12_nextToken 237 = .ok (.aload_n 0, 1) := by decide +kernel
theorem dX12_nextToken_238 : decode cX12_nextToken 238 = .ok (.aload_n 0, 1) := by decide +kernel
theorem dX12_nextToken_239 : decode cX12_nextToken 239 = .ok (.getfield 154, 3) := by decide +kernel
theorem dX12_nextToken_242 : decode cX12_nextToken 242 = .ok (.invokevirtual 170, 3) := by decide +kernel
theorem dX12_nextToken_245 : decode cX12_nextToken 245 = .ok (.bipush 57, 2) := by decide +kernel
theorem dX12_nextToken_247 : decode cX12_nextToken 247 = .ok (.if_icmp .gt 52, 3) := by decide +kernel
theorem dX12_nextToken_250 : decode cX12_nextToken 250 = .ok (.aload_n 0, 1) := by decide +kernel
theorem dX12_nextToken_251 : decode cX12_nextToken 251 = .ok (.getfield 154, 3) := by decide +kernel
theorem dX12_nextToken_254 : decode cX12_nextToken 254 = .ok (.aload_n 0, 1) := by decide +kernel
theorem dX12_nextToken_255 : decode cX12_nextToken 255 = .ok (.getfield 157, 3) := by decide +kernel
theorem dX12_nextToken_258 : decode cX12_nextToken 258 = .ok (.isub, 1) := by decide +kernel
theorem dX12_nextToken_259 : decode cX12_nextToken 259 = .ok (.iconst 4, 1) := by decide +kernel
theorem dX12_nextToken_260 : decode cX12_nextToken 260 = .ok (.if_icmp .ge 26, 3) := by decide +kernel
theorem dX12_nextToken_263 : decode cX12_nextToken 263 = .ok (.aload_n 0, 1) := by decide +kernel
theorem dX12_nextToken_264 : decode cX12_nextToken 264 = .ok (.aload_n 0, 1) := by decide +kernel
theorem dX12_nextToken_265 : decode cX12_nextToken 265 = .ok (.getfield 164, 3) := by decide +kernel
theorem dX12_nextToken_268 : decode cX12_nextToken 268 = .ok (.bipush 10, 2) := by decide +kernel
theorem dX12_nextToken_270 : decode cX12_nextToken 270 = .ok (.imul, 1) := by decide +kernel
theorem dX12_nextToken_271 : decode cX12_nextToken 271 = .ok (.aload_n 0, 1) := by decide +kernel
theorem dX12_nextToken_272 : decode cX12_nextToken 272 = .ok (.aload_n 0, 1) := by decide +kernel
theorem dX12_nextToken_273 : decode cX12_nextToken 273 = .ok (.getfield 154, 3) := by decide +kernel
theorem dX12_nextToken_276 : decode cX12_nextToken 276 = .ok (.invokevirtual 170, 3) := by decide +kernel
theorem dX12_nextToken_279 : decode cX12_nextToken 279 = .ok (.iadd, 1) := by decide +kernel
theorem dX12_nextToken_280 : decode cX12_nextToken 280 = .ok (.bipush 48, 2) := by decide +kernel
theorem dX12_nextToken_282 : decode cX12_nextToken 282 = .ok (.isub, 1) := by decide +kernel
theorem dX12_nextToken_283 : decode cX12_nextToken 283 = .ok (.putfield 164, 3) := by decide +kernel
theorem dX12_nextToken_286 : decode cX12_nextToken 286 = .ok (.aload_n 0, 1) := by decide +kernel
theorem dX12_nextToken_287 : decode cX12_nextToken 287 = .ok (.dup, 1) := by decide +kernel
theorem dX12_nextToken_288 : decode cX12_nextToken 288 = .ok (.getfield 154, 3) := by decide +kernel
theorem dX12_nextToken_291 : decode cX12_nextToken 291 = .ok (.iconst 1, 1) := by decide +kernel
theorem dX12_nextToken_292 : decode cX12_nextToken 292 = .ok (.iadd, 1) := by decide +kernel
theorem dX12_nextToken_293 : decode cX12_nextToken 293 = .ok (.putfield 154, 3) := by decide +kernel
theorem dX12_nextToken_296 : decode cX12_nextToken 296 = .ok (.goto (-72), 3) := by decide +kernel
theorem dX12_nextToken_299 : decode cX12_nextToken 299 = .ok (.aload_n 0, 1) := by decide +kernel
theorem dX12_nextToken_300 : decode cX12_nextToken 300 = .ok (.aload_n 0, 1) := by decide +kernel
theorem dX12_nextToken_301 : decode cX12_nextToken 301 = .ok (.getfield 154, 3) := by decide +kernel
theorem dX12_nextToken_304 : decode cX12_nextToken 304 = .ok (.aload_n 0, 1) := by decide +kernel
theorem dX12_nextToken_305 : decode cX12_nextToken 305 = .ok (.getfield 157, 3) := by decide +kernel
theorem dX12_nextToken_308 : decode cX12_nextToken 308 = .ok (.isub, 1) := by decide +kernel
theorem dX12_nextToken_309 : decode cX12_nextToken 309 = .ok (.iconst 4, 1) := by decide +kernel
theorem dX12_nextToken_310 : decode cX12_nextToken 310 = .ok (.if_icmp .le 7, 3) := by decide +kernel
theorem dX12_nextToken_313 : decode cX12_nextToken 313 = .ok (.iconst 4, 1) := by decide +kernel
theorem dX12_nextToken_314 : decode cX12_nextToken 314 = .ok (.goto 4, 3) := by decide +kernel
theorem dX12_nextToken_317 : decode cX12_nextToken 317 = .ok (.iconst 2, 1) := by decide +kernel
theorem dX12_nextToken_318 : decode cX12_nextToken 318 = .ok (.putfield 167, 3) := by decide +kernel
theorem dX12_nextToken_321 : decode cX12_nextToken 321 = .ok (.return_, 1) := by decide +kernel
theorem dX12_nextToken_322 : decode cX12_nextToken 322 = .ok (.aload_n 0, 1) := by decide +kernel
theorem dX12_nextToken_323 : decode cX12_nextToken 323 = .ok (.dup, 1) := by decide +kernel
theorem dX12_nextToken_324 : decode cX12_nextToken 324 = .ok (.getfield 154, 3) := by decide +kernel
theorem dX12_nextToken_327 : decode cX12_nextToken 327 = .ok (.iconst 1, 1) := by decide +kernel
theorem dX12_nextToken_328 : decode cX12_nextToken 328 = .ok (.iadd, 1) := by decide +kernel
theorem dX12_nextToken_329 : decode cX12_nextToken 329 = .ok (.putfield 154, 3) := by decide +kernel
theorem dX12_nextToken_332 : decode cX12_nextToken 332 = .ok (.aload_n 0, 1) := by decide +kernel
theorem dX12_nextToken_333 : decode cX12_nextToken 333 = .ok (.iload_n 1, 1) := by decide +kernel
theorem dX12_nextToken_334 : decode cX12_nextToken 334 = .ok (.bipush 40, 2) := by decide +kernel
theorem dX12_nextToken_336 : decode cX12_nextToken 336 = .ok (.if_icmp .lt 9, 3) := by decide +kernel
theorem dX12_nextToken_339 : decode cX12_nextToken 339 = .ok (.iload_n 1, 1) := by decide +kernel
theorem dX12_nextToken_340 : decode cX12_nextToken 340 = .ok (.bipush 43, 2) := by decide +kernel
theorem dX12_nextToken_342 : decode cX12_nextToken 342 = .ok (.if_icmp .le 21, 3) := by decide +kernel
theorem dX12_nextToken_345 : decode cX12_nextToken 345 = .ok (.iload_n 1, 1) := by decide +kernel
theorem dX12_nextToken_346 : decode cX12_nextToken 346 = .ok (.bipush 45, 2) := by decide +kernel
theorem dX12_nextToken_348 : decode cX12_nextToken 348 = .ok (.if_icmp .eq 15, 3) := by decide +kernel
theorem dX12_nextToken_351 : decode cX12_nextToken 351 = .ok (.iload_n 1, 1) := by decide +kernel
theorem dX12_nextToken_352 : decode cX12_nextToken 352 = .ok (.bipush 59, 2) := by decide +kernel
theorem dX12_nextToken_354 : decode cX12_nextToken 354 = .ok (.if_icmp .lt 13, 3) := by decide +kernel
theorem dX12_nextToken_357 : decode cX12_nextToken 357 = .ok (.iload_n 1, 1) := by decide +kernel
theorem dX12_nextToken_358 : decode cX12_nextToken 358 = .ok (.bipush 61, 2) := by decide +kernel
theorem dX12_nextToken_360 : decode cX12_nextToken 360 = .ok (.if_icmp .gt 7, 3) := by decide +kernel
theorem dX12_nextToken_363 : decode cX12_nextToken 363 = .ok (.iconst 3, 1) := by decide +kernel
theorem dX12_nextToken_364 : decode cX12_nextToken 364 = .ok (.goto 4, 3) := by decide +kernel
theorem dX12_nextToken_367 : decode cX12_nextToken 367 = .ok (.iconst 4, 1) := by decide +kernel
theorem dX12_nextToken_368 : decode cX12_nextToken 368 = .ok (.putfield 167, 3) := by decide +kernel
theorem dX12_nextToken_371 : decode cX12_nextToken 371 = .ok (.return_, 1) := by decide +kernel
set_option maxHeartbeats 4000000 in
set_option maxRecDepth 100000 in
theorem c_signAt_in (γ : kΓ) (l : Launch) (z : Nat) (z2 : Nat) (z10 : Nat) (z11 : Nat) (z12 : Nat) (z13 : Nat) (z14 : Nat) (z15 : Nat) (z16 : Nat) (z17 : Nat) (z18 : Nat) (z19 : Nat) (z22 : Nat) (z23 : Nat) (z24 : Nat) (z25 : Nat) (z26 : Nat) (z27 : Nat) (z28 : Nat) (z29 : Nat) (z30 : Nat) (z31 : Nat) (z32 : Nat) (z33 : Nat) (z36 : Nat) (z37 : Nat) (z38 : Nat) (z39 : Nat) (z40 : Nat) (z41 : Nat) (z42 : Nat) (z43 : Nat) (z44 : Nat) (z45 : Nat) (z46 : Nat) (z47 : Nat) (z48 : Nat) (z55 : Nat) (z56 : Nat) (z59 : Nat) (z60 : Nat) (z61 : Nat) (n0 : Int32) (n1 : Int32) (n4 : Int32) (n5 : Int32) (n6 : Int32) (n7 : Int64) (n8 : Int32) (n9 : Int32) (n20 : Int32) (n21 : Int32) (n34 : Int32) (n35 : Int64) (n49 : Int32) (n50 : Int32) (n51 : Int32) (n52 : Int32) (n53 : Int32) (n54 : Int32) (n57 : Int32) (n58 : Int32) (n62 : Int32) (n63 : Int64) (n : Nat) (k : Nat) (g : Nat → Int32) (hn : n ≤ 1000) (hk : k < n) : kM γ l yX12_signAt cX12_signAt 2 ((some .int)) ({ frames := 0, cells := 0, slots := 0, locals := 0 } : Room) [.ref z, .int (nI k)] [(z, .inr (11, [.int n0, .int n1, .ref z2, .int (nI n), .int n4, .int n5, .int n6, .long n7, .int n8, .int n9, .ref z10, .ref z11, .ref z12, .ref z13, .ref z14, .ref z15, .ref z16, .ref z17, .ref z18, .ref z19, .int n20, .int n21, .ref z22, .ref z23, .ref z24, .ref z25, .ref z26, .ref z27, .ref z28, .ref z29, .ref z30, .ref z31, .ref z32, .ref z33, .int n34, .long n35, .ref z36, .ref z37, .ref z38, .ref z39, .ref z40, .ref z41, .ref z42, .ref z43, .ref z44, .ref z45, .ref z46, .ref z47, .ref z48, .int n49, .int n50, .int n51, .int n52, .int n53, .int n54, .ref z55, .ref z56, .int n57, .int n58, .ref z59, .ref z60, .ref z61, .int n62, .long n63])), (z2, .inl (γ.2.1 0, 1000, .inl g))] (fun r w1 => r = some (.int (g k)) ∧ w1 = [(z, .inr (11, [.int n0, .int n1, .ref z2, .int (nI n), .int n4, .int n5, .int n6, .long n7, .int n8, .int n9, .ref z10, .ref z11, .ref z12, .ref z13, .ref z14, .ref z15, .ref z16, .ref z17, .ref z18, .ref z19, .int n20, .int n21, .ref z22, .ref z23, .ref z24, .ref z25, .ref z26, .ref z27, .ref z28, .ref z29, .ref z30, .ref z31, .ref z32, .ref z33, .int n34, .long n35, .ref z36, .ref z37, .ref z38, .ref z39, .ref z40, .ref z41, .ref z42, .ref z43, .ref z44, .ref z45, .ref z46, .ref z47, .ref z48, .int n49, .int n50, .int n51, .int n52, .int n53, .int n54, .ref z55, .ref z56, .int n57, .int n58, .ref z59, .ref z60, .ref z61, .int n62, .long n63])), (z2, .inl (γ.2.1 0, 1000, .inl g))]) := by
  refine k_ofW (by decide) (Nat.le_of_ble_eq_true rfl) ?_
  intro p9 e s m below meth c A ls hC hr hlocks hname hw hl
  have hx := hC.1
  have hb := hC.2.1
  have hl : lv_has ls 2 [(0, .ref z), (1, .int (nI k))] := hl
  refine lv_iload_n hx hb dX12_signAt_0 rfl (lv_at hl 1 rfl) ?_
  refine lv_aload_n hx hb dX12_signAt_1 rfl (lv_at hl 0 rfl) ?_
  refine fg_RX12_151 hC hw 0 rfl rfl dX12_signAt_2 ?_
  refine lv_icmp_ge (tgt := 17) hx hb dX12_signAt_5 (by decide) (fun h => absurd h (nI_ge hk (by omega))) (fun _ => ?_)
  refine lv_aload_n hx hb dX12_signAt_8 rfl (lv_at hl 0 rfl) ?_
  refine fg_RX12_7 hC hw 0 rfl rfl dX12_signAt_9 ?_
  refine lv_iload_n hx hb dX12_signAt_12 rfl (lv_at hl 1 rfl) ?_
  refine k_iald hC hw 1 rfl (vp_in_nI (by omega) (by decide)) dX12_signAt_13 ?_
  refine lv_topi (fun x_31 ex_31 => ?_)
  obtain rfl : x_31 = g k := (show x_31 = g (nI k : Int32).toNatClampNeg from ex_31).trans (by rw [nI_clamp (by omega)])
  refine lv_goto (tgt := 18) hx hb dX12_signAt_14 (by decide) ?_
  exact k_iret hC hr hlocks hw [0, 1] rfl rfl ⟨rfl, rfl⟩ (by decide) (by decide) dX12_signAt_18

set_option maxHeartbeats 4000000 in
set_option maxRecDepth 100000 in
theorem c_signAt_out (γ : kΓ) (l : Launch) (z : Nat) (z2 : Nat) (z10 : Nat) (z11 : Nat) (z12 : Nat) (z13 : Nat) (z14 : Nat) (z15 : Nat) (z16 : Nat) (z17 : Nat) (z18 : Nat) (z19 : Nat) (z22 : Nat) (z23 : Nat) (z24 : Nat) (z25 : Nat) (z26 : Nat) (z27 : Nat) (z28 : Nat) (z29 : Nat) (z30 : Nat) (z31 : Nat) (z32 : Nat) (z33 : Nat) (z36 : Nat) (z37 : Nat) (z38 : Nat) (z39 : Nat) (z40 : Nat) (z41 : Nat) (z42 : Nat) (z43 : Nat) (z44 : Nat) (z45 : Nat) (z46 : Nat) (z47 : Nat) (z48 : Nat) (z55 : Nat) (z56 : Nat) (z59 : Nat) (z60 : Nat) (z61 : Nat) (n0 : Int32) (n1 : Int32) (n4 : Int32) (n5 : Int32) (n6 : Int32) (n7 : Int64) (n8 : Int32) (n9 : Int32) (n20 : Int32) (n21 : Int32) (n34 : Int32) (n35 : Int64) (n49 : Int32) (n50 : Int32) (n51 : Int32) (n52 : Int32) (n53 : Int32) (n54 : Int32) (n57 : Int32) (n58 : Int32) (n62 : Int32) (n63 : Int64) (n : Nat) (k : Nat) (g : Nat → Int32) (hn : n ≤ 1000) (hk : ¬ k < n) (hk9 : k ≤ 1000) : kM γ l yX12_signAt cX12_signAt 2 ((some .int)) ({ frames := 0, cells := 0, slots := 0, locals := 0 } : Room) [.ref z, .int (nI k)] [(z, .inr (11, [.int n0, .int n1, .ref z2, .int (nI n), .int n4, .int n5, .int n6, .long n7, .int n8, .int n9, .ref z10, .ref z11, .ref z12, .ref z13, .ref z14, .ref z15, .ref z16, .ref z17, .ref z18, .ref z19, .int n20, .int n21, .ref z22, .ref z23, .ref z24, .ref z25, .ref z26, .ref z27, .ref z28, .ref z29, .ref z30, .ref z31, .ref z32, .ref z33, .int n34, .long n35, .ref z36, .ref z37, .ref z38, .ref z39, .ref z40, .ref z41, .ref z42, .ref z43, .ref z44, .ref z45, .ref z46, .ref z47, .ref z48, .int n49, .int n50, .int n51, .int n52, .int n53, .int n54, .ref z55, .ref z56, .int n57, .int n58, .ref z59, .ref z60, .ref z61, .int n62, .long n63])), (z2, .inl (γ.2.1 0, 1000, .inl g))] (fun r w1 => r = some (.int 0) ∧ w1 = [(z, .inr (11, [.int n0, .int n1, .ref z2, .int (nI n), .int n4, .int n5, .int n6, .long n7, .int n8, .int n9, .ref z10, .ref z11, .ref z12, .ref z13, .ref z14, .ref z15, .ref z16, .ref z17, .ref z18, .ref z19, .int n20, .int n21, .ref z22, .ref z23, .ref z24, .ref z25, .ref z26, .ref z27, .ref z28, .ref z29, .ref z30, .ref z31, .ref z32, .ref z33, .int n34, .long n35, .ref z36, .ref z37, .ref z38, .ref z39, .ref z40, .ref z41, .ref z42, .ref z43, .ref z44, .ref z45, .ref z46, .ref z47, .ref z48, .int n49, .int n50, .int n51, .int n52, .int n53, .int n54, .ref z55, .ref z56, .int n57, .int n58, .ref z59, .ref z60, .ref z61, .int n62, .long n63])), (z2, .inl (γ.2.1 0, 1000, .inl g))]) := by
  refine k_ofW (by decide) (Nat.le_of_ble_eq_true rfl) ?_
  intro p9 e s m below meth c A ls hC hr hlocks hname hw hl
  have hx := hC.1
  have hb := hC.2.1
  have hl : lv_has ls 2 [(0, .ref z), (1, .int (nI k))] := hl
  refine lv_iload_n hx hb dX12_signAt_0 rfl (lv_at hl 1 rfl) ?_
  refine lv_aload_n hx hb dX12_signAt_1 rfl (lv_at hl 0 rfl) ?_
  refine fg_RX12_151 hC hw 0 rfl rfl dX12_signAt_2 ?_
  refine lv_icmp_ge (tgt := 17) hx hb dX12_signAt_5 (by decide) (fun _ => ?_) (fun h => absurd (nI_le (by omega) (by omega)) h)
  refine lv_iconst (v := 0) hx hb dX12_signAt_17 (by decide) ?_
  exact k_iret hC hr hlocks hw [0, 1] rfl rfl ⟨rfl, rfl⟩ (by decide) (by decide) dX12_signAt_18

set_option maxHeartbeats 4000000 in
set_option maxRecDepth 100000 in
theorem lp_ml {γ : kΓ} {l : Launch} {p9 : Program} {e : Env} {s : State} {m : MethodId} {below : List Frame} {meth : Method} {c : Code} {A : Nat → Prop} (z : Nat) (z2 : Nat) (z10 : Nat) (z11 : Nat) (z12 : Nat) (z13 : Nat) (z14 : Nat) (z15 : Nat) (z16 : Nat) (z17 : Nat) (z18 : Nat) (z19 : Nat) (z22 : Nat) (z23 : Nat) (z24 : Nat) (z25 : Nat) (z26 : Nat) (z27 : Nat) (z28 : Nat) (z29 : Nat) (z30 : Nat) (z31 : Nat) (z32 : Nat) (z33 : Nat) (z36 : Nat) (z37 : Nat) (z38 : Nat) (z39 : Nat) (z40 : Nat) (z41 : Nat) (z42 : Nat) (z43 : Nat) (z44 : Nat) (z45 : Nat) (z46 : Nat) (z47 : Nat) (z48 : Nat) (z55 : Nat) (z56 : Nat) (z59 : Nat) (z60 : Nat) (z61 : Nat) (n0 : Int32) (n1 : Int32) (n9 : Int32) (n20 : Int32) (n21 : Int32) (n34 : Int32) (n35 : Int64) (n49 : Int32) (n50 : Int32) (n51 : Int32) (n52 : Int32) (n53 : Int32) (n54 : Int32) (n57 : Int32) (n58 : Int32) (n62 : Int32) (n63 : Int64) (n : Nat) (g : Nat → Int32) (a0 : Nat) (t9 : Int32) (F : Nat) (P9 : Nat) (K9 : Int32) (W9 : Int64) (D9 : Int32) (hn : n ≤ 1000) (hP : F = P9) (hK : (if F - a0 ≤ 8 then 1 else (4 : Int32)) = K9) (hV : vm g a0 (min 8 (F - a0)) = W9) (hO : (0 : Int32) = D9) (hC : kC γ p9 s m [.ref z].toArray c cX12_nextToken 2 RX12 A) (hr : meth.sig.returnType = none) (hlocks : meth.locks = false) : ∀ (k : Nat) (r : Nat), n - r < k → (a0 ≤ r ∧ r ≤ n) → (rn isL g n r = F) → ∀ (H : Heap) (locs : List Loc), kW γ A [(z, .inr (11, [.int n0, .int n1, .ref z2, .int (nI n), .int (nI r), .int (nI a0), .int t9, .long (vm g a0 (min 8 (r - a0))), .int 0, .int n9, .ref z10, .ref z11, .ref z12, .ref z13, .ref z14, .ref z15, .ref z16, .ref z17, .ref z18, .ref z19, .int n20, .int n21, .ref z22, .ref z23, .ref z24, .ref z25, .ref z26, .ref z27, .ref z28, .ref z29, .ref z30, .ref z31, .ref z32, .ref z33, .int n34, .long n35, .ref z36, .ref z37, .ref z38, .ref z39, .ref z40, .ref z41, .ref z42, .ref z43, .ref z44, .ref z45, .ref z46, .ref z47, .ref z48, .int n49, .int n50, .int n51, .int n52, .int n53, .int n54, .ref z55, .ref z56, .int n57, .int n58, .ref z59, .ref z60, .ref z61, .int n62, .long n63])), (z2, .inl (γ.2.1 0, 1000, .inl g))] s H locs → ∀ ls : Array Slot, lv_has ls 2 [(0, .ref z)] → W p9 l e ({ frames := 1, cells := 0, slots := 0, locals := 40 } : Room) s m [.ref z].toArray below meth c H locs 0 0 (MQ below (kQ γ A (fun r w1 => r = none ∧ w1 = [(z, .inr (11, [.int n0, .int n1, .ref z2, .int (nI n), .int (nI P9), .int (nI a0), .int K9, .long W9, .int D9, .int n9, .ref z10, .ref z11, .ref z12, .ref z13, .ref z14, .ref z15, .ref z16, .ref z17, .ref z18, .ref z19, .int n20, .int n21, .ref z22, .ref z23, .ref z24, .ref z25, .ref z26, .ref z27, .ref z28, .ref z29, .ref z30, .ref z31, .ref z32, .ref z33, .int n34, .long n35, .ref z36, .ref z37, .ref z38, .ref z39, .ref z40, .ref z41, .ref z42, .ref z43, .ref z44, .ref z45, .ref z46, .ref z47, .ref z48, .int n49, .int n50, .int n51, .int n52, .int n53, .int n54, .ref z55, .ref z56, .int n57, .int n58, .ref z59, .ref z60, .ref z61, .int n62, .long n63])), (z2, .inl (γ.2.1 0, 1000, .inl g))])) [.ref z].toArray s 0 0 A) (F0 m 109 ls []) := by
  have hx := hC.1
  have hb := hC.2.1
  intro k
  induction k with
  | zero => intro r hk; exact absurd hk (Nat.not_lt_zero _)
  | succ k ih =>
    intro r hk hs hF H locs hw ls hl
    rcases Nat.lt_or_ge r n with h9 | h9
    · have hr9 : r < n := h9
      refine lv_aload_n hx hb dX12_nextToken_109 rfl (lv_at hl 0 rfl) ?_
      refine lv_aload_n hx hb dX12_nextToken_110 rfl (lv_at hl 0 rfl) ?_
      refine fg_RX12_154 hC hw 0 rfl rfl dX12_nextToken_111 ?_
      refine k_V (wr := []) 1 gw_1406 gw_1408 gp_55 gw_15 gw_1409 hd_X12_signAt hC hw (c_signAt_in γ l z z2 z10 z11 z12 z13 z14 z15 z16 z17 z18 z19 z22 z23 z24 z25 z26 z27 z28 z29 z30 z31 z32 z33 z36 z37 z38 z39 z40 z41 z42 z43 z44 z45 z46 z47 z48 z55 z56 z59 z60 z61 n0 n1 (nI r) (nI a0) t9 (vm g a0 (min 8 (r - a0))) 0 n9 n20 n21 n34 n35 n49 n50 n51 n52 n53 n54 n57 n58 n62 n63 n r g hn hr9) ⟨by decide, by decide⟩ ⟨by decide, by decide⟩ hl.1 rfl 0 rfl rfl rfl (Nat.le_of_ble_eq_true rfl) [0, 1] [] rfl rfl rfl rfl (by decide) dX12_nextToken_114 (fun r w1 H locs hq hw => ?_)
      obtain ⟨rfl, rfl⟩ := hq
      have hw : kW γ A [(z, .inr (11, [.int n0, .int n1, .ref z2, .int (nI n), .int (nI r), .int (nI a0), .int t9, .long (vm g a0 (min 8 (r - a0))), .int 0, .int n9, .ref z10, .ref z11, .ref z12, .ref z13, .ref z14, .ref z15, .ref z16, .ref z17, .ref z18, .ref z19, .int n20, .int n21, .ref z22, .ref z23, .ref z24, .ref z25, .ref z26, .ref z27, .ref z28, .ref z29, .ref z30, .ref z31, .ref z32, .ref z33, .int n34, .long n35, .ref z36, .ref z37, .ref z38, .ref z39, .ref z40, .ref z41, .ref z42, .ref z43, .ref z44, .ref z45, .ref z46, .ref z47, .ref z48, .int n49, .int n50, .int n51, .int n52, .int n53, .int n54, .ref z55, .ref z56, .int n57, .int n58, .ref z59, .ref z60, .ref z61, .int n62, .long n63])), (z2, .inl (γ.2.1 0, 1000, .inl g))] s H locs := hw
      refine W.eq (g2 := F0 m 117 ls [.int (g r)]) rfl ?_
      refine lv_bipush (v := 97) hx hb dX12_nextToken_117 (by decide) ?_
      refine lv_icmp_lt (tgt := 188) hx hb dX12_nextToken_119 (by decide) (fun c1 => ?_) (fun c1 => ?_)
      · have hF9 : r = F := by first | exact (rn_end hr9).symm.trans hF | exact (rn_no (isL_lo c1)).symm.trans hF | exact (rn_no (isL_hi c2)).symm.trans hF
        refine lv_aload_n hx hb dX12_nextToken_188 rfl (lv_at hl 0 rfl) ?_
        refine lv_aload_n hx hb dX12_nextToken_189 rfl (lv_at hl 0 rfl) ?_
        refine fg_RX12_154 hC hw 0 rfl rfl dX12_nextToken_190 ?_
        refine lv_aload_n hx hb dX12_nextToken_193 rfl (lv_at hl 0 rfl) ?_
        refine fg_RX12_157 hC hw 0 rfl rfl dX12_nextToken_194 ?_
        refine lv_isub hx hb dX12_nextToken_197 ?_
        refine lv_topi (fun x_32 ex_32 => ?_)
        obtain rfl : x_32 = (nI (r - a0)) := ex_32.trans (nI_subI hs.1 (by omega))
        refine lv_bipush (v := 8) hx hb dX12_nextToken_198 (by decide) ?_
        refine lv_icmp_le (tgt := 207) hx hb dX12_nextToken_200 (by decide) (fun c4 => ?_) (fun c4 => ?_)
        · have h4 : r - a0 ≤ 8 := (nI_leI (b := 8) (by omega) (by decide)).mp c4
          refine lv_iconst (v := 1) hx hb dX12_nextToken_207 (by decide) ?_
          refine fs_RX12_167 hC hw 0 rfl rfl rfl (Nat.le_of_ble_eq_true rfl) dX12_nextToken_208 (fun H locs hw => ?_)
          have hw : kW γ A [(z, .inr (11, [.int n0, .int n1, .ref z2, .int (nI n), .int (nI r), .int (nI a0), .int 1, .long (vm g a0 (min 8 (r - a0))), .int 0, .int n9, .ref z10, .ref z11, .ref z12, .ref z13, .ref z14, .ref z15, .ref z16, .ref z17, .ref z18, .ref z19, .int n20, .int n21, .ref z22, .ref z23, .ref z24, .ref z25, .ref z26, .ref z27, .ref z28, .ref z29, .ref z30, .ref z31, .ref z32, .ref z33, .int n34, .long n35, .ref z36, .ref z37, .ref z38, .ref z39, .ref z40, .ref z41, .ref z42, .ref z43, .ref z44, .ref z45, .ref z46, .ref z47, .ref z48, .int n49, .int n50, .int n51, .int n52, .int n53, .int n54, .ref z55, .ref z56, .int n57, .int n58, .ref z59, .ref z60, .ref z61, .int n62, .long n63])), (z2, .inl (γ.2.1 0, 1000, .inl g))] s H locs := hw
          have hK9 : 1 = K9 := by rw [← hK, ← hF9]; exact (if_pos h4).symm
          have hW9 : vm g a0 (min 8 (r - a0)) = W9 := by rw [hF9]; exact hV
          have hP9 : r = P9 := hF9.trans hP
          have hw : kW γ A [(z, .inr (11, [.int n0, .int n1, .ref z2, .int (nI n), .int (nI P9), .int (nI a0), .int K9, .long W9, .int D9, .int n9, .ref z10, .ref z11, .ref z12, .ref z13, .ref z14, .ref z15, .ref z16, .ref z17, .ref z18, .ref z19, .int n20, .int n21, .ref z22, .ref z23, .ref z24, .ref z25, .ref z26, .ref z27, .ref z28, .ref z29, .ref z30, .ref z31, .ref z32, .ref z33, .int n34, .long n35, .ref z36, .ref z37, .ref z38, .ref z39, .ref z40, .ref z41, .ref z42, .ref z43, .ref z44, .ref z45, .ref z46, .ref z47, .ref z48, .int n49, .int n50, .int n51, .int n52, .int n53, .int n54, .ref z55, .ref z56, .int n57, .int n58, .ref z59, .ref z60, .ref z61, .int n62, .long n63])), (z2, .inl (γ.2.1 0, 1000, .inl g))] s H locs := by rw [← hP9, ← hK9, ← hW9, ← hO]; exact hw
          exact k_vret hC hr hlocks hw [0, 1] rfl rfl ⟨rfl, rfl⟩ (by decide) (by decide) dX12_nextToken_211
        · have h4 : ¬ r - a0 ≤ 8 := fun h9 => absurd (nI_le (b := 8) h9 (by decide)) c4
          refine lv_iconst (v := 4) hx hb dX12_nextToken_203 (by decide) ?_
          refine lv_goto (tgt := 208) hx hb dX12_nextToken_204 (by decide) ?_
          refine fs_RX12_167 hC hw 0 rfl rfl rfl (Nat.le_of_ble_eq_true rfl) dX12_nextToken_208 (fun H locs hw => ?_)
          have hw : kW γ A [(z, .inr (11, [.int n0, .int n1, .ref z2, .int (nI n), .int (nI r), .int (nI a0), .int 4, .long (vm g a0 (min 8 (r - a0))), .int 0, .int n9, .ref z10, .ref z11, .ref z12, .ref z13, .ref z14, .ref z15, .ref z16, .ref z17, .ref z18, .ref z19, .int n20, .int n21, .ref z22, .ref z23, .ref z24, .ref z25, .ref z26, .ref z27, .ref z28, .ref z29, .ref z30, .ref z31, .ref z32, .ref z33, .int n34, .long n35, .ref z36, .ref z37, .ref z38, .ref z39, .ref z40, .ref z41, .ref z42, .ref z43, .ref z44, .ref z45, .ref z46, .ref z47, .ref z48, .int n49, .int n50, .int n51, .int n52, .int n53, .int n54, .ref z55, .ref z56, .int n57, .int n58, .ref z59, .ref z60, .ref z61, .int n62, .long n63])), (z2, .inl (γ.2.1 0, 1000, .inl g))] s H locs := hw
          have hK9 : 4 = K9 := by rw [← hK, ← hF9]; exact (if_neg h4).symm
          have hW9 : vm g a0 (min 8 (r - a0)) = W9 := by rw [hF9]; exact hV
          have hP9 : r = P9 := hF9.trans hP
          have hw : kW γ A [(z, .inr (11, [.int n0, .int n1, .ref z2, .int (nI n), .int (nI P9), .int (nI a0), .int K9, .long W9, .int D9, .int n9, .ref z10, .ref z11, .ref z12, .ref z13, .ref z14, .ref z15, .ref z16, .ref z17, .ref z18, .ref z19, .int n20, .int n21, .ref z22, .ref z23, .ref z24, .ref z25, .ref z26, .ref z27, .ref z28, .ref z29, .ref z30, .ref z31, .ref z32, .ref z33, .int n34, .long n35, .ref z36, .ref z37, .ref z38, .ref z39, .ref z40, .ref z41, .ref z42, .ref z43, .ref z44, .ref z45, .ref z46, .ref z47, .ref z48, .int n49, .int n50, .int n51, .int n52, .int n53, .int n54, .ref z55, .ref z56, .int n57, .int n58, .ref z59, .ref z60, .ref z61, .int n62, .long n63])), (z2, .inl (γ.2.1 0, 1000, .inl g))] s H locs := by rw [← hP9, ← hK9, ← hW9, ← hO]; exact hw
          exact k_vret hC hr hlocks hw [0, 1] rfl rfl ⟨rfl, rfl⟩ (by decide) (by decide) dX12_nextToken_211
      · refine lv_aload_n hx hb dX12_nextToken_122 rfl (lv_at hl 0 rfl) ?_
        refine lv_aload_n hx hb dX12_nextToken_123 rfl (lv_at hl 0 rfl) ?_
        refine fg_RX12_154 hC hw 0 rfl rfl dX12_nextToken_124 ?_
        refine k_V (wr := []) 1 gw_1406 gw_1408 gp_55 gw_15 gw_1409 hd_X12_signAt hC hw (c_signAt_in γ l z z2 z10 z11 z12 z13 z14 z15 z16 z17 z18 z19 z22 z23 z24 z25 z26 z27 z28 z29 z30 z31 z32 z33 z36 z37 z38 z39 z40 z41 z42 z43 z44 z45 z46 z47 z48 z55 z56 z59 z60 z61 n0 n1 (nI r) (nI a0) t9 (vm g a0 (min 8 (r - a0))) 0 n9 n20 n21 n34 n35 n49 n50 n51 n52 n53 n54 n57 n58 n62 n63 n r g hn hr9) ⟨by decide, by decide⟩ ⟨by decide, by decide⟩ hl.1 rfl 0 rfl rfl rfl (Nat.le_of_ble_eq_true rfl) [0, 1] [] rfl rfl rfl rfl (by decide) dX12_nextToken_127 (fun r w1 H locs hq hw => ?_)
        obtain ⟨rfl, rfl⟩ := hq
        have hw : kW γ A [(z, .inr (11, [.int n0, .int n1, .ref z2, .int (nI n), .int (nI r), .int (nI a0), .int t9, .long (vm g a0 (min 8 (r - a0))), .int 0, .int n9, .ref z10, .ref z11, .ref z12, .ref z13, .ref z14, .ref z15, .ref z16, .ref z17, .ref z18, .ref z19, .int n20, .int n21, .ref z22, .ref z23, .ref z24, .ref z25, .ref z26, .ref z27, .ref z28, .ref z29, .ref z30, .ref z31, .ref z32, .ref z33, .int n34, .long n35, .ref z36, .ref z37, .ref z38, .ref z39, .ref z40, .ref z41, .ref z42, .ref z43, .ref z44, .ref z45, .ref z46, .ref z47, .ref z48, .int n49, .int n50, .int n51, .int n52, .int n53, .int n54, .ref z55, .ref z56, .int n57, .int n58, .ref z59, .ref z60, .ref z61, .int n62, .long n63])), (z2, .inl (γ.2.1 0, 1000, .inl g))] s H locs := hw
        refine W.eq (g2 := F0 m 130 ls [.int (g r)]) rfl ?_
        refine lv_bipush (v := 122) hx hb dX12_nextToken_130 (by decide) ?_
        refine lv_icmp_gt (tgt := 188) hx hb dX12_nextToken_132 (by decide) (fun c2 => ?_) (fun c2 => ?_)
        · have hF9 : r = F := by first | exact (rn_end hr9).symm.trans hF | exact (rn_no (isL_lo c1)).symm.trans hF | exact (rn_no (isL_hi c2)).symm.trans hF
          refine lv_aload_n hx hb dX12_nextToken_188 rfl (lv_at hl 0 rfl) ?_
          refine lv_aload_n hx hb dX12_nextToken_189 rfl (lv_at hl 0 rfl) ?_
          refine fg_RX12_154 hC hw 0 rfl rfl dX12_nextToken_190 ?_
          refine lv_aload_n hx hb dX12_nextToken_193 rfl (lv_at hl 0 rfl) ?_
          refine fg_RX12_157 hC hw 0 rfl rfl dX12_nextToken_194 ?_
          refine lv_isub hx hb dX12_nextToken_197 ?_
          refine lv_topi (fun x_33 ex_33 => ?_)
          obtain rfl : x_33 = (nI (r - a0)) := ex_33.trans (nI_subI hs.1 (by omega))
          refine lv_bipush (v := 8) hx hb dX12_nextToken_198 (by decide) ?_
          refine lv_icmp_le (tgt := 207) hx hb dX12_nextToken_200 (by decide) (fun c4 => ?_) (fun c4 => ?_)
          · have h4 : r - a0 ≤ 8 := (nI_leI (b := 8) (by omega) (by decide)).mp c4
            refine lv_iconst (v := 1) hx hb dX12_nextToken_207 (by decide) ?_
            refine fs_RX12_167 hC hw 0 rfl rfl rfl (Nat.le_of_ble_eq_true rfl) dX12_nextToken_208 (fun H locs hw => ?_)
            have hw : kW γ A [(z, .inr (11, [.int n0, .int n1, .ref z2, .int (nI n), .int (nI r), .int (nI a0), .int 1, .long (vm g a0 (min 8 (r - a0))), .int 0, .int n9, .ref z10, .ref z11, .ref z12, .ref z13, .ref z14, .ref z15, .ref z16, .ref z17, .ref z18, .ref z19, .int n20, .int n21, .ref z22, .ref z23, .ref z24, .ref z25, .ref z26, .ref z27, .ref z28, .ref z29, .ref z30, .ref z31, .ref z32, .ref z33, .int n34, .long n35, .ref z36, .ref z37, .ref z38, .ref z39, .ref z40, .ref z41, .ref z42, .ref z43, .ref z44, .ref z45, .ref z46, .ref z47, .ref z48, .int n49, .int n50, .int n51, .int n52, .int n53, .int n54, .ref z55, .ref z56, .int n57, .int n58, .ref z59, .ref z60, .ref z61, .int n62, .long n63])), (z2, .inl (γ.2.1 0, 1000, .inl g))] s H locs := hw
            have hK9 : 1 = K9 := by rw [← hK, ← hF9]; exact (if_pos h4).symm
            have hW9 : vm g a0 (min 8 (r - a0)) = W9 := by rw [hF9]; exact hV
            have hP9 : r = P9 := hF9.trans hP
            have hw : kW γ A [(z, .inr (11, [.int n0, .int n1, .ref z2, .int (nI n), .int (nI P9), .int (nI a0), .int K9, .long W9, .int D9, .int n9, .ref z10, .ref z11, .ref z12, .ref z13, .ref z14, .ref z15, .ref z16, .ref z17, .ref z18, .ref z19, .int n20, .int n21, .ref z22, .ref z23, .ref z24, .ref z25, .ref z26, .ref z27, .ref z28, .ref z29, .ref z30, .ref z31, .ref z32, .ref z33, .int n34, .long n35, .ref z36, .ref z37, .ref z38, .ref z39, .ref z40, .ref z41, .ref z42, .ref z43, .ref z44, .ref z45, .ref z46, .ref z47, .ref z48, .int n49, .int n50, .int n51, .int n52, .int n53, .int n54, .ref z55, .ref z56, .int n57, .int n58, .ref z59, .ref z60, .ref z61, .int n62, .long n63])), (z2, .inl (γ.2.1 0, 1000, .inl g))] s H locs := by rw [← hP9, ← hK9, ← hW9, ← hO]; exact hw
            exact k_vret hC hr hlocks hw [0, 1] rfl rfl ⟨rfl, rfl⟩ (by decide) (by decide) dX12_nextToken_211
          · have h4 : ¬ r - a0 ≤ 8 := fun h9 => absurd (nI_le (b := 8) h9 (by decide)) c4
            refine lv_iconst (v := 4) hx hb dX12_nextToken_203 (by decide) ?_
            refine lv_goto (tgt := 208) hx hb dX12_nextToken_204 (by decide) ?_
            refine fs_RX12_167 hC hw 0 rfl rfl rfl (Nat.le_of_ble_eq_true rfl) dX12_nextToken_208 (fun H locs hw => ?_)
            have hw : kW γ A [(z, .inr (11, [.int n0, .int n1, .ref z2, .int (nI n), .int (nI r), .int (nI a0), .int 4, .long (vm g a0 (min 8 (r - a0))), .int 0, .int n9, .ref z10, .ref z11, .ref z12, .ref z13, .ref z14, .ref z15, .ref z16, .ref z17, .ref z18, .ref z19, .int n20, .int n21, .ref z22, .ref z23, .ref z24, .ref z25, .ref z26, .ref z27, .ref z28, .ref z29, .ref z30, .ref z31, .ref z32, .ref z33, .int n34, .long n35, .ref z36, .ref z37, .ref z38, .ref z39, .ref z40, .ref z41, .ref z42, .ref z43, .ref z44, .ref z45, .ref z46, .ref z47, .ref z48, .int n49, .int n50, .int n51, .int n52, .int n53, .int n54, .ref z55, .ref z56, .int n57, .int n58, .ref z59, .ref z60, .ref z61, .int n62, .long n63])), (z2, .inl (γ.2.1 0, 1000, .inl g))] s H locs := hw
            have hK9 : 4 = K9 := by rw [← hK, ← hF9]; exact (if_neg h4).symm
            have hW9 : vm g a0 (min 8 (r - a0)) = W9 := by rw [hF9]; exact hV
            have hP9 : r = P9 := hF9.trans hP
            have hw : kW γ A [(z, .inr (11, [.int n0, .int n1, .ref z2, .int (nI n), .int (nI P9), .int (nI a0), .int K9, .long W9, .int D9, .int n9, .ref z10, .ref z11, .ref z12, .ref z13, .ref z14, .ref z15, .ref z16, .ref z17, .ref z18, .ref z19, .int n20, .int n21, .ref z22, .ref z23, .ref z24, .ref z25, .ref z26, .ref z27, .ref z28, .ref z29, .ref z30, .ref z31, .ref z32, .ref z33, .int n34, .long n35, .ref z36, .ref z37, .ref z38, .ref z39, .ref z40, .ref z41, .ref z42, .ref z43, .ref z44, .ref z45, .ref z46, .ref z47, .ref z48, .int n49, .int n50, .int n51, .int n52, .int n53, .int n54, .ref z55, .ref z56, .int n57, .int n58, .ref z59, .ref z60, .ref z61, .int n62, .long n63])), (z2, .inl (γ.2.1 0, 1000, .inl g))] s H locs := by rw [← hP9, ← hK9, ← hW9, ← hO]; exact hw
            exact k_vret hC hr hlocks hw [0, 1] rfl rfl ⟨rfl, rfl⟩ (by decide) (by decide) dX12_nextToken_211
        · refine lv_aload_n hx hb dX12_nextToken_135 rfl (lv_at hl 0 rfl) ?_
          refine fg_RX12_154 hC hw 0 rfl rfl dX12_nextToken_136 ?_
          refine lv_aload_n hx hb dX12_nextToken_139 rfl (lv_at hl 0 rfl) ?_
          refine fg_RX12_157 hC hw 0 rfl rfl dX12_nextToken_140 ?_
          refine lv_isub hx hb dX12_nextToken_143 ?_
          refine lv_topi (fun x_34 ex_34 => ?_)
          obtain rfl : x_34 = (nI (r - a0)) := ex_34.trans (nI_subI hs.1 (by omega))
          refine lv_bipush (v := 8) hx hb dX12_nextToken_144 (by decide) ?_
          refine lv_icmp_ge (tgt := 175) hx hb dX12_nextToken_146 (by decide) (fun c3 => ?_) (fun c3 => ?_)
          · have h3 : ¬ r - a0 < 8 := fun h9 => absurd c3 (nI_ge (b := 8) h9 (by decide))
            have hw := hw
            rw [show min 8 (r - a0) = min 8 (r + 1 - a0) by omega] at hw
            refine lv_aload_n hx hb dX12_nextToken_175 rfl (lv_at hl 0 rfl) ?_
            refine lv_dup hx hb dX12_nextToken_176 rfl ?_
            refine fg_RX12_154 hC hw 0 rfl rfl dX12_nextToken_177 ?_
            refine lv_iconst (v := 1) hx hb dX12_nextToken_180 (by decide) ?_
            refine lv_iadd hx hb dX12_nextToken_181 ?_
            refine lv_topi (fun x_35 ex_35 => ?_)
            obtain rfl : x_35 = (nI (r + 1)) := ex_35.trans (nI_1 r)
            refine fs_RX12_154 hC hw 0 rfl rfl rfl (Nat.le_of_ble_eq_true rfl) dX12_nextToken_182 (fun H locs hw => ?_)
            have hw : kW γ A [(z, .inr (11, [.int n0, .int n1, .ref z2, .int (nI n), .int (nI (r + 1)), .int (nI a0), .int t9, .long (vm g a0 (min 8 (r + 1 - a0))), .int 0, .int n9, .ref z10, .ref z11, .ref z12, .ref z13, .ref z14, .ref z15, .ref z16, .ref z17, .ref z18, .ref z19, .int n20, .int n21, .ref z22, .ref z23, .ref z24, .ref z25, .ref z26, .ref z27, .ref z28, .ref z29, .ref z30, .ref z31, .ref z32, .ref z33, .int n34, .long n35, .ref z36, .ref z37, .ref z38, .ref z39, .ref z40, .ref z41, .ref z42, .ref z43, .ref z44, .ref z45, .ref z46, .ref z47, .ref z48, .int n49, .int n50, .int n51, .int n52, .int n53, .int n54, .ref z55, .ref z56, .int n57, .int n58, .ref z59, .ref z60, .ref z61, .int n62, .long n63])), (z2, .inl (γ.2.1 0, 1000, .inl g))] s H locs := hw
            refine lv_goto (tgt := 109) hx hb dX12_nextToken_185 (by decide) ?_
            exact ih (r + 1) (by omega) ⟨by omega, by omega⟩ ((rn_go hr9 (isL_ok c1 c2)).symm.trans hF) _ _ (kW.sub hw [0, 1] rfl rfl) _ (lv_sub hl [0] rfl)
          · have h3 : r - a0 < 8 := by rcases Nat.lt_or_ge (r - a0) 8 with h9 | h9; exact h9; exact absurd (nI_le (a := 8) h9 (by omega)) c3
            refine lv_aload_n hx hb dX12_nextToken_149 rfl (lv_at hl 0 rfl) ?_
            refine lv_aload_n hx hb dX12_nextToken_150 rfl (lv_at hl 0 rfl) ?_
            refine fg_RX12_160 hC hw 0 rfl rfl dX12_nextToken_151 ?_
            refine k_ldc2 hC gw_1410 dX12_nextToken_154 ?_
            refine lv_lmul hx hb dX12_nextToken_157 ?_
            refine lv_aload_n hx hb dX12_nextToken_158 rfl (lv_at hl 0 rfl) ?_
            refine lv_aload_n hx hb dX12_nextToken_159 rfl (lv_at hl 0 rfl) ?_
            refine fg_RX12_154 hC hw 0 rfl rfl dX12_nextToken_160 ?_
            refine k_V (wr := []) 1 gw_1406 gw_1408 gp_55 gw_15 gw_1409 hd_X12_signAt hC hw (c_signAt_in γ l z z2 z10 z11 z12 z13 z14 z15 z16 z17 z18 z19 z22 z23 z24 z25 z26 z27 z28 z29 z30 z31 z32 z33 z36 z37 z38 z39 z40 z41 z42 z43 z44 z45 z46 z47 z48 z55 z56 z59 z60 z61 n0 n1 (nI r) (nI a0) t9 (vm g a0 (min 8 (r - a0))) 0 n9 n20 n21 n34 n35 n49 n50 n51 n52 n53 n54 n57 n58 n62 n63 n r g hn hr9) ⟨by decide, by decide⟩ ⟨by decide, by decide⟩ hl.1 rfl 0 rfl rfl rfl (Nat.le_of_ble_eq_true rfl) [0, 1] [] rfl rfl rfl rfl (by decide) dX12_nextToken_163 (fun r w1 H locs hq hw => ?_)
            obtain ⟨rfl, rfl⟩ := hq
            have hw : kW γ A [(z, .inr (11, [.int n0, .int n1, .ref z2, .int (nI n), .int (nI r), .int (nI a0), .int t9, .long (vm g a0 (min 8 (r - a0))), .int 0, .int n9, .ref z10, .ref z11, .ref z12, .ref z13, .ref z14, .ref z15, .ref z16, .ref z17, .ref z18, .ref z19, .int n20, .int n21, .ref z22, .ref z23, .ref z24, .ref z25, .ref z26, .ref z27, .ref z28, .ref z29, .ref z30, .ref z31, .ref z32, .ref z33, .int n34, .long n35, .ref z36, .ref z37, .ref z38, .ref z39, .ref z40, .ref z41, .ref z42, .ref z43, .ref z44, .ref z45, .ref z46, .ref z47, .ref z48, .int n49, .int n50, .int n51, .int n52, .int n53, .int n54, .ref z55, .ref z56, .int n57, .int n58, .ref z59, .ref z60, .ref z61, .int n62, .long n63])), (z2, .inl (γ.2.1 0, 1000, .inl g))] s H locs := hw
            refine W.eq (g2 := F0 m 166 ls [.int (g r), .long ((vm g a0 (min 8 (r - a0))) * 27), .ref z]) rfl ?_
            refine lv_i2l hx hb dX12_nextToken_166 rfl ?_
            refine lv_ladd hx hb dX12_nextToken_167 ?_
            refine k_ldc2 hC gw_1411 dX12_nextToken_168 ?_
            refine lv_lsub hx hb dX12_nextToken_171 ?_
            refine lv_topl (fun x_36 ex_36 => ?_)
            obtain rfl : x_36 = (vm g a0 (min 8 (r + 1 - a0))) := ex_36.trans (vm_step hs.1 h3)
            refine fs_RX12_160 hC hw 0 rfl rfl rfl (Nat.le_of_ble_eq_true rfl) dX12_nextToken_172 (fun H locs hw => ?_)
            have hw : kW γ A [(z, .inr (11, [.int n0, .int n1, .ref z2, .int (nI n), .int (nI r), .int (nI a0), .int t9, .long (vm g a0 (min 8 (r + 1 - a0))), .int 0, .int n9, .ref z10, .ref z11, .ref z12, .ref z13, .ref z14, .ref z15, .ref z16, .ref z17, .ref z18, .ref z19, .int n20, .int n21, .ref z22, .ref z23, .ref z24, .ref z25, .ref z26, .ref z27, .ref z28, .ref z29, .ref z30, .ref z31, .ref z32, .ref z33, .int n34, .long n35, .ref z36, .ref z37, .ref z38, .ref z39, .ref z40, .ref z41, .ref z42, .ref z43, .ref z44, .ref z45, .ref z46, .ref z47, .ref z48, .int n49, .int n50, .int n51, .int n52, .int n53, .int n54, .ref z55, .ref z56, .int n57, .int n58, .ref z59, .ref z60, .ref z61, .int n62, .long n63])), (z2, .inl (γ.2.1 0, 1000, .inl g))] s H locs := hw
            refine lv_aload_n hx hb dX12_nextToken_175 rfl (lv_at hl 0 rfl) ?_
            refine lv_dup hx hb dX12_nextToken_176 rfl ?_
            refine fg_RX12_154 hC hw 0 rfl rfl dX12_nextToken_177 ?_
            refine lv_iconst (v := 1) hx hb dX12_nextToken_180 (by decide) ?_
            refine lv_iadd hx hb dX12_nextToken_181 ?_
            refine lv_topi (fun x_37 ex_37 => ?_)
            obtain rfl : x_37 = (nI (r + 1)) := ex_37.trans (nI_1 r)
            refine fs_RX12_154 hC hw 0 rfl rfl rfl (Nat.le_of_ble_eq_true rfl) dX12_nextToken_182 (fun H locs hw => ?_)
            have hw : kW γ A [(z, .inr (11, [.int n0, .int n1, .ref z2, .int (nI n), .int (nI (r + 1)), .int (nI a0), .int t9, .long (vm g a0 (min 8 (r + 1 - a0))), .int 0, .int n9, .ref z10, .ref z11, .ref z12, .ref z13, .ref z14, .ref z15, .ref z16, .ref z17, .ref z18, .ref z19, .int n20, .int n21, .ref z22, .ref z23, .ref z24, .ref z25, .ref z26, .ref z27, .ref z28, .ref z29, .ref z30, .ref z31, .ref z32, .ref z33, .int n34, .long n35, .ref z36, .ref z37, .ref z38, .ref z39, .ref z40, .ref z41, .ref z42, .ref z43, .ref z44, .ref z45, .ref z46, .ref z47, .ref z48, .int n49, .int n50, .int n51, .int n52, .int n53, .int n54, .ref z55, .ref z56, .int n57, .int n58, .ref z59, .ref z60, .ref z61, .int n62, .long n63])), (z2, .inl (γ.2.1 0, 1000, .inl g))] s H locs := hw
            refine lv_goto (tgt := 109) hx hb dX12_nextToken_185 (by decide) ?_
            exact ih (r + 1) (by omega) ⟨by omega, by omega⟩ ((rn_go hr9 (isL_ok c1 c2)).symm.trans hF) _ _ (kW.sub hw [0, 1] rfl rfl) _ (lv_sub hl [0] rfl)
    · have hr9 : ¬ r < n := by omega
      refine lv_aload_n hx hb dX12_nextToken_109 rfl (lv_at hl 0 rfl) ?_
      refine lv_aload_n hx hb dX12_nextToken_110 rfl (lv_at hl 0 rfl) ?_
      refine fg_RX12_154 hC hw 0 rfl rfl dX12_nextToken_111 ?_
      refine k_V (wr := []) 1 gw_1406 gw_1408 gp_55 gw_15 gw_1409 hd_X12_signAt hC hw (c_signAt_out γ l z z2 z10 z11 z12 z13 z14 z15 z16 z17 z18 z19 z22 z23 z24 z25 z26 z27 z28 z29 z30 z31 z32 z33 z36 z37 z38 z39 z40 z41 z42 z43 z44 z45 z46 z47 z48 z55 z56 z59 z60 z61 n0 n1 (nI r) (nI a0) t9 (vm g a0 (min 8 (r - a0))) 0 n9 n20 n21 n34 n35 n49 n50 n51 n52 n53 n54 n57 n58 n62 n63 n r g hn hr9 (by omega)) ⟨by decide, by decide⟩ ⟨by decide, by decide⟩ hl.1 rfl 0 rfl rfl rfl (Nat.le_of_ble_eq_true rfl) [0, 1] [] rfl rfl rfl rfl (by decide) dX12_nextToken_114 (fun r w1 H locs hq hw => ?_)
      obtain ⟨rfl, rfl⟩ := hq
      have hw : kW γ A [(z, .inr (11, [.int n0, .int n1, .ref z2, .int (nI n), .int (nI r), .int (nI a0), .int t9, .long (vm g a0 (min 8 (r - a0))), .int 0, .int n9, .ref z10, .ref z11, .ref z12, .ref z13, .ref z14, .ref z15, .ref z16, .ref z17, .ref z18, .ref z19, .int n20, .int n21, .ref z22, .ref z23, .ref z24, .ref z25, .ref z26, .ref z27, .ref z28, .ref z29, .ref z30, .ref z31, .ref z32, .ref z33, .int n34, .long n35, .ref z36, .ref z37, .ref z38, .ref z39, .ref z40, .ref z41, .ref z42, .ref z43, .ref z44, .ref z45, .ref z46, .ref z47, .ref z48, .int n49, .int n50, .int n51, .int n52, .int n53, .int n54, .ref z55, .ref z56, .int n57, .int n58, .ref z59, .ref z60, .ref z61, .int n62, .long n63])), (z2, .inl (γ.2.1 0, 1000, .inl g))] s H locs := hw
      refine W.eq (g2 := F0 m 117 ls [.int 0]) rfl ?_
      refine lv_bipush (v := 97) hx hb dX12_nextToken_117 (by decide) ?_
      refine lv_icmp_lt (tgt := 188) hx hb dX12_nextToken_119 (by decide) (fun _ => ?_) (fun h => absurd (by decide) h)
      have hF9 : r = F := by first | exact (rn_end hr9).symm.trans hF | exact (rn_no (isL_lo c1)).symm.trans hF | exact (rn_no (isL_hi c2)).symm.trans hF
      refine lv_aload_n hx hb dX12_nextToken_188 rfl (lv_at hl 0 rfl) ?_
      refine lv_aload_n hx hb dX12_nextToken_189 rfl (lv_at hl 0 rfl) ?_
      refine fg_RX12_154 hC hw 0 rfl rfl dX12_nextToken_190 ?_
      refine lv_aload_n hx hb dX12_nextToken_193 rfl (lv_at hl 0 rfl) ?_
      refine fg_RX12_157 hC hw 0 rfl rfl dX12_nextToken_194 ?_
      refine lv_isub hx hb dX12_nextToken_197 ?_
      refine lv_topi (fun x_38 ex_38 => ?_)
      obtain rfl : x_38 = (nI (r - a0)) := ex_38.trans (nI_subI hs.1 (by omega))
      refine lv_bipush (v := 8) hx hb dX12_nextToken_198 (by decide) ?_
      refine lv_icmp_le (tgt := 207) hx hb dX12_nextToken_200 (by decide) (fun c4 => ?_) (fun c4 => ?_)
      · have h4 : r - a0 ≤ 8 := (nI_leI (b := 8) (by omega) (by decide)).mp c4
        refine lv_iconst (v := 1) hx hb dX12_nextToken_207 (by decide) ?_
        refine fs_RX12_167 hC hw 0 rfl rfl rfl (Nat.le_of_ble_eq_true rfl) dX12_nextToken_208 (fun H locs hw => ?_)
        have hw : kW γ A [(z, .inr (11, [.int n0, .int n1, .ref z2, .int (nI n), .int (nI r), .int (nI a0), .int 1, .long (vm g a0 (min 8 (r - a0))), .int 0, .int n9, .ref z10, .ref z11, .ref z12, .ref z13, .ref z14, .ref z15, .ref z16, .ref z17, .ref z18, .ref z19, .int n20, .int n21, .ref z22, .ref z23, .ref z24, .ref z25, .ref z26, .ref z27, .ref z28, .ref z29, .ref z30, .ref z31, .ref z32, .ref z33, .int n34, .long n35, .ref z36, .ref z37, .ref z38, .ref z39, .ref z40, .ref z41, .ref z42, .ref z43, .ref z44, .ref z45, .ref z46, .ref z47, .ref z48, .int n49, .int n50, .int n51, .int n52, .int n53, .int n54, .ref z55, .ref z56, .int n57, .int n58, .ref z59, .ref z60, .ref z61, .int n62, .long n63])), (z2, .inl (γ.2.1 0, 1000, .inl g))] s H locs := hw
        have hK9 : 1 = K9 := by rw [← hK, ← hF9]; exact (if_pos h4).symm
        have hW9 : vm g a0 (min 8 (r - a0)) = W9 := by rw [hF9]; exact hV
        have hP9 : r = P9 := hF9.trans hP
        have hw : kW γ A [(z, .inr (11, [.int n0, .int n1, .ref z2, .int (nI n), .int (nI P9), .int (nI a0), .int K9, .long W9, .int D9, .int n9, .ref z10, .ref z11, .ref z12, .ref z13, .ref z14, .ref z15, .ref z16, .ref z17, .ref z18, .ref z19, .int n20, .int n21, .ref z22, .ref z23, .ref z24, .ref z25, .ref z26, .ref z27, .ref z28, .ref z29, .ref z30, .ref z31, .ref z32, .ref z33, .int n34, .long n35, .ref z36, .ref z37, .ref z38, .ref z39, .ref z40, .ref z41, .ref z42, .ref z43, .ref z44, .ref z45, .ref z46, .ref z47, .ref z48, .int n49, .int n50, .int n51, .int n52, .int n53, .int n54, .ref z55, .ref z56, .int n57, .int n58, .ref z59, .ref z60, .ref z61, .int n62, .long n63])), (z2, .inl (γ.2.1 0, 1000, .inl g))] s H locs := by rw [← hP9, ← hK9, ← hW9, ← hO]; exact hw
        exact k_vret hC hr hlocks hw [0, 1] rfl rfl ⟨rfl, rfl⟩ (by decide) (by decide) dX12_nextToken_211
      · have h4 : ¬ r - a0 ≤ 8 := fun h9 => absurd (nI_le (b := 8) h9 (by decide)) c4
        refine lv_iconst (v := 4) hx hb dX12_nextToken_203 (by decide) ?_
        refine lv_goto (tgt := 208) hx hb dX12_nextToken_204 (by decide) ?_
        refine fs_RX12_167 hC hw 0 rfl rfl rfl (Nat.le_of_ble_eq_true rfl) dX12_nextToken_208 (fun H locs hw => ?_)
        have hw : kW γ A [(z, .inr (11, [.int n0, .int n1, .ref z2, .int (nI n), .int (nI r), .int (nI a0), .int 4, .long (vm g a0 (min 8 (r - a0))), .int 0, .int n9, .ref z10, .ref z11, .ref z12, .ref z13, .ref z14, .ref z15, .ref z16, .ref z17, .ref z18, .ref z19, .int n20, .int n21, .ref z22, .ref z23, .ref z24, .ref z25, .ref z26, .ref z27, .ref z28, .ref z29, .ref z30, .ref z31, .ref z32, .ref z33, .int n34, .long n35, .ref z36, .ref z37, .ref z38, .ref z39, .ref z40, .ref z41, .ref z42, .ref z43, .ref z44, .ref z45, .ref z46, .ref z47, .ref z48, .int n49, .int n50, .int n51, .int n52, .int n53, .int n54, .ref z55, .ref z56, .int n57, .int n58, .ref z59, .ref z60, .ref z61, .int n62, .long n63])), (z2, .inl (γ.2.1 0, 1000, .inl g))] s H locs := hw
        have hK9 : 4 = K9 := by rw [← hK, ← hF9]; exact (if_neg h4).symm
        have hW9 : vm g a0 (min 8 (r - a0)) = W9 := by rw [hF9]; exact hV
        have hP9 : r = P9 := hF9.trans hP
        have hw : kW γ A [(z, .inr (11, [.int n0, .int n1, .ref z2, .int (nI n), .int (nI P9), .int (nI a0), .int K9, .long W9, .int D9, .int n9, .ref z10, .ref z11, .ref z12, .ref z13, .ref z14, .ref z15, .ref z16, .ref z17, .ref z18, .ref z19, .int n20, .int n21, .ref z22, .ref z23, .ref z24, .ref z25, .ref z26, .ref z27, .ref z28, .ref z29, .ref z30, .ref z31, .ref z32, .ref z33, .int n34, .long n35, .ref z36, .ref z37, .ref z38, .ref z39, .ref z40, .ref z41, .ref z42, .ref z43, .ref z44, .ref z45, .ref z46, .ref z47, .ref z48, .int n49, .int n50, .int n51, .int n52, .int n53, .int n54, .ref z55, .ref z56, .int n57, .int n58, .ref z59, .ref z60, .ref z61, .int n62, .long n63])), (z2, .inl (γ.2.1 0, 1000, .inl g))] s H locs := by rw [← hP9, ← hK9, ← hW9, ← hO]; exact hw
        exact k_vret hC hr hlocks hw [0, 1] rfl rfl ⟨rfl, rfl⟩ (by decide) (by decide) dX12_nextToken_211

set_option maxHeartbeats 4000000 in
set_option maxRecDepth 100000 in
theorem lp_md {γ : kΓ} {l : Launch} {p9 : Program} {e : Env} {s : State} {m : MethodId} {below : List Frame} {meth : Method} {c : Code} {A : Nat → Prop} (z : Nat) (z2 : Nat) (z10 : Nat) (z11 : Nat) (z12 : Nat) (z13 : Nat) (z14 : Nat) (z15 : Nat) (z16 : Nat) (z17 : Nat) (z18 : Nat) (z19 : Nat) (z22 : Nat) (z23 : Nat) (z24 : Nat) (z25 : Nat) (z26 : Nat) (z27 : Nat) (z28 : Nat) (z29 : Nat) (z30 : Nat) (z31 : Nat) (z32 : Nat) (z33 : Nat) (z36 : Nat) (z37 : Nat) (z38 : Nat) (z39 : Nat) (z40 : Nat) (z41 : Nat) (z42 : Nat) (z43 : Nat) (z44 : Nat) (z45 : Nat) (z46 : Nat) (z47 : Nat) (z48 : Nat) (z55 : Nat) (z56 : Nat) (z59 : Nat) (z60 : Nat) (z61 : Nat) (n0 : Int32) (n1 : Int32) (n9 : Int32) (n20 : Int32) (n21 : Int32) (n34 : Int32) (n35 : Int64) (n49 : Int32) (n50 : Int32) (n51 : Int32) (n52 : Int32) (n53 : Int32) (n54 : Int32) (n57 : Int32) (n58 : Int32) (n62 : Int32) (n63 : Int64) (n : Nat) (g : Nat → Int32) (a0 : Nat) (t9 : Int32) (F : Nat) (P9 : Nat) (K9 : Int32) (W9 : Int64) (D9 : Int32) (hn : n ≤ 1000) (hP : F = P9) (hK : (if F - a0 ≤ 4 then 2 else (4 : Int32)) = K9) (hV : vn g a0 (min 4 (F - a0)) = D9) (hO : (0 : Int64) = W9) (hC : kC γ p9 s m [.ref z].toArray c cX12_nextToken 2 RX12 A) (hr : meth.sig.returnType = none) (hlocks : meth.locks = false) : ∀ (k : Nat) (r : Nat), n - r < k → (a0 ≤ r ∧ r ≤ n) → (rn isD g n r = F) → ∀ (H : Heap) (locs : List Loc), kW γ A [(z, .inr (11, [.int n0, .int n1, .ref z2, .int (nI n), .int (nI r), .int (nI a0), .int t9, .long 0, .int (vn g a0 (min 4 (r - a0))), .int n9, .ref z10, .ref z11, .ref z12, .ref z13, .ref z14, .ref z15, .ref z16, .ref z17, .ref z18, .ref z19, .int n20, .int n21, .ref z22, .ref z23, .ref z24, .ref z25, .ref z26, .ref z27, .ref z28, .ref z29, .ref z30, .ref z31, .ref z32, .ref z33, .int n34, .long n35, .ref z36, .ref z37, .ref z38, .ref z39, .ref z40, .ref z41, .ref z42, .ref z43, .ref z44, .ref z45, .ref z46, .ref z47, .ref z48, .int n49, .int n50, .int n51, .int n52, .int n53, .int n54, .ref z55, .ref z56, .int n57, .int n58, .ref z59, .ref z60, .ref z61, .int n62, .long n63])), (z2, .inl (γ.2.1 0, 1000, .inl g))] s H locs → ∀ ls : Array Slot, lv_has ls 2 [(0, .ref z)] → W p9 l e ({ frames := 1, cells := 0, slots := 0, locals := 40 } : Room) s m [.ref z].toArray below meth c H locs 0 0 (MQ below (kQ γ A (fun r w1 => r = none ∧ w1 = [(z, .inr (11, [.int n0, .int n1, .ref z2, .int (nI n), .int (nI P9), .int (nI a0), .int K9, .long W9, .int D9, .int n9, .ref z10, .ref z11, .ref z12, .ref z13, .ref z14, .ref z15, .ref z16, .ref z17, .ref z18, .ref z19, .int n20, .int n21, .ref z22, .ref z23, .ref z24, .ref z25, .ref z26, .ref z27, .ref z28, .ref z29, .ref z30, .ref z31, .ref z32, .ref z33, .int n34, .long n35, .ref z36, .ref z37, .ref z38, .ref z39, .ref z40, .ref z41, .ref z42, .ref z43, .ref z44, .ref z45, .ref z46, .ref z47, .ref z48, .int n49, .int n50, .int n51, .int n52, .int n53, .int n54, .ref z55, .ref z56, .int n57, .int n58, .ref z59, .ref z60, .ref z61, .int n62, .long n63])), (z2, .inl (γ.2.1 0, 1000, .inl g))])) [.ref z].toArray s 0 0 A) (F0 m 224 ls []) := by
  have hx := hC.1
  have hb := hC.2.1
  intro k
  induction k with
  | zero => intro r hk; exact absurd hk (Nat.not_lt_zero _)
  | succ k ih =>
    intro r hk hs hF H locs hw ls hl
    rcases Nat.lt_or_ge r n with h9 | h9
    · have hr9 : r < n := h9
      refine lv_aload_n hx hb dX12_nextToken_224 rfl (lv_at hl 0 rfl) ?_
      refine lv_aload_n hx hb dX12_nextToken_225 rfl (lv_at hl 0 rfl) ?_
      refine fg_RX12_154 hC hw 0 rfl rfl dX12_nextToken_226 ?_
      refine k_V (wr := []) 1 gw_1406 gw_1408 gp_55 gw_15 gw_1409 hd_X12_signAt hC hw (c_signAt_in γ l z z2 z10 z11 z12 z13 z14 z15 z16 z17 z18 z19 z22 z23 z24 z25 z26 z27 z28 z29 z30 z31 z32 z33 z36 z37 z38 z39 z40 z41 z42 z43 z44 z45 z46 z47 z48 z55 z56 z59 z60 z61 n0 n1 (nI r) (nI a0) t9 0 (vn g a0 (min 4 (r - a0))) n9 n20 n21 n34 n35 n49 n50 n51 n52 n53 n54 n57 n58 n62 n63 n r g hn hr9) ⟨by decide, by decide⟩ ⟨by decide, by decide⟩ hl.1 rfl 0 rfl rfl rfl (Nat.le_of_ble_eq_true rfl) [0, 1] [] rfl rfl rfl rfl (by decide) dX12_nextToken_229 (fun r w1 H locs hq hw => ?_)
      obtain ⟨rfl, rfl⟩ := hq
      have hw : kW γ A [(z, .inr (11, [.int n0, .int n1, .ref z2, .int (nI n), .int (nI r), .int (nI a0), .int t9, .long 0, .int (vn g a0 (min 4 (r - a0))), .int n9, .ref z10, .ref z11, .ref z12, .ref z13, .ref z14, .ref z15, .ref z16, .ref z17, .ref z18, .ref z19, .int n20, .int n21, .ref z22, .ref z23, .ref z24, .ref z25, .ref z26, .ref z27, .ref z28, .ref z29, .ref z30, .ref z31, .ref z32, .ref z33, .int n34, .long n35, .ref z36, .ref z37, .ref z38, .ref z39, .ref z40, .ref z41, .ref z42, .ref z43, .ref z44, .ref z45, .ref z46, .ref z47, .ref z48, .int n49, .int n50, .int n51, .int n52, .int n53, .int n54, .ref z55, .ref z56, .int n57, .int n58, .ref z59, .ref z60, .ref z61, .int n62, .long n63])), (z2, .inl (γ.2.1 0, 1000, .inl g))] s H locs := hw
      refine W.eq (g2 := F0 m 232 ls [.int (g r)]) rfl ?_
      refine lv_bipush (v := 48) hx hb dX12_nextToken_232 (by decide) ?_
      refine lv_icmp_lt (tgt := 299) hx hb dX12_nextToken_234 (by decide) (fun c1 => ?_) (fun c1 => ?_)
      · have hF9 : r = F := by first | exact (rn_end hr9).symm.trans hF | exact (rn_no (isD_lo c1)).symm.trans hF | exact (rn_no (isD_hi c2)).symm.trans hF
        refine lv_aload_n hx hb dX12_nextToken_299 rfl (lv_at hl 0 rfl) ?_
        refine lv_aload_n hx hb dX12_nextToken_300 rfl (lv_at hl 0 rfl) ?_
        refine fg_RX12_154 hC hw 0 rfl rfl dX12_nextToken_301 ?_
        refine lv_aload_n hx hb dX12_nextToken_304 rfl (lv_at hl 0 rfl) ?_
        refine fg_RX12_157 hC hw 0 rfl rfl dX12_nextToken_305 ?_
        refine lv_isub hx hb dX12_nextToken_308 ?_
        refine lv_topi (fun x_39 ex_39 => ?_)
        obtain rfl : x_39 = (nI (r - a0)) := ex_39.trans (nI_subI hs.1 (by omega))
        refine lv_iconst (v := 4) hx hb dX12_nextToken_309 (by decide) ?_
        refine lv_icmp_le (tgt := 317) hx hb dX12_nextToken_310 (by decide) (fun c4 => ?_) (fun c4 => ?_)
        · have h4 : r - a0 ≤ 4 := (nI_leI (b := 4) (by omega) (by decide)).mp c4
          refine lv_iconst (v := 2) hx hb dX12_nextToken_317 (by decide) ?_
          refine fs_RX12_167 hC hw 0 rfl rfl rfl (Nat.le_of_ble_eq_true rfl) dX12_nextToken_318 (fun H locs hw => ?_)
          have hw : kW γ A [(z, .inr (11, [.int n0, .int n1, .ref z2, .int (nI n), .int (nI r), .int (nI a0), .int 2, .long 0, .int (vn g a0 (min 4 (r - a0))), .int n9, .ref z10, .ref z11, .ref z12, .ref z13, .ref z14, .ref z15, .ref z16, .ref z17, .ref z18, .ref z19, .int n20, .int n21, .ref z22, .ref z23, .ref z24, .ref z25, .ref z26, .ref z27, .ref z28, .ref z29, .ref z30, .ref z31, .ref z32, .ref z33, .int n34, .long n35, .ref z36, .ref z37, .ref z38, .ref z39, .ref z40, .ref z41, .ref z42, .ref z43, .ref z44, .ref z45, .ref z46, .ref z47, .ref z48, .int n49, .int n50, .int n51, .int n52, .int n53, .int n54, .ref z55, .ref z56, .int n57, .int n58, .ref z59, .ref z60, .ref z61, .int n62, .long n63])), (z2, .inl (γ.2.1 0, 1000, .inl g))] s H locs := hw
          have hK9 : 2 = K9 := by rw [← hK, ← hF9]; exact (if_pos h4).symm
          have hW9 : vn g a0 (min 4 (r - a0)) = D9 := by rw [hF9]; exact hV
          have hP9 : r = P9 := hF9.trans hP
          have hw : kW γ A [(z, .inr (11, [.int n0, .int n1, .ref z2, .int (nI n), .int (nI P9), .int (nI a0), .int K9, .long W9, .int D9, .int n9, .ref z10, .ref z11, .ref z12, .ref z13, .ref z14, .ref z15, .ref z16, .ref z17, .ref z18, .ref z19, .int n20, .int n21, .ref z22, .ref z23, .ref z24, .ref z25, .ref z26, .ref z27, .ref z28, .ref z29, .ref z30, .ref z31, .ref z32, .ref z33, .int n34, .long n35, .ref z36, .ref z37, .ref z38, .ref z39, .ref z40, .ref z41, .ref z42, .ref z43, .ref z44, .ref z45, .ref z46, .ref z47, .ref z48, .int n49, .int n50, .int n51, .int n52, .int n53, .int n54, .ref z55, .ref z56, .int n57, .int n58, .ref z59, .ref z60, .ref z61, .int n62, .long n63])), (z2, .inl (γ.2.1 0, 1000, .inl g))] s H locs := by rw [← hP9, ← hK9, ← hW9, ← hO]; exact hw
          exact k_vret hC hr hlocks hw [0, 1] rfl rfl ⟨rfl, rfl⟩ (by decide) (by decide) dX12_nextToken_321
        · have h4 : ¬ r - a0 ≤ 4 := fun h9 => absurd (nI_le (b := 4) h9 (by decide)) c4
          refine lv_iconst (v := 4) hx hb dX12_nextToken_313 (by decide) ?_
          refine lv_goto (tgt := 318) hx hb dX12_nextToken_314 (by decide) ?_
          refine fs_RX12_167 hC hw 0 rfl rfl rfl (Nat.le_of_ble_eq_true rfl) dX12_nextToken_318 (fun H locs hw => ?_)
          have hw : kW γ A [(z, .inr (11, [.int n0, .int n1, .ref z2, .int (nI n), .int (nI r), .int (nI a0), .int 4, .long 0, .int (vn g a0 (min 4 (r - a0))), .int n9, .ref z10, .ref z11, .ref z12, .ref z13, .ref z14, .ref z15, .ref z16, .ref z17, .ref z18, .ref z19, .int n20, .int n21, .ref z22, .ref z23, .ref z24, .ref z25, .ref z26, .ref z27, .ref z28, .ref z29, .ref z30, .ref z31, .ref z32, .ref z33, .int n34, .long n35, .ref z36, .ref z37, .ref z38, .ref z39, .ref z40, .ref z41, .ref z42, .ref z43, .ref z44, .ref z45, .ref z46, .ref z47, .ref z48, .int n49, .int n50, .int n51, .int n52, .int n53, .int n54, .ref z55, .ref z56, .int n57, .int n58, .ref z59, .ref z60, .ref z61, .int n62, .long n63])), (z2, .inl (γ.2.1 0, 1000, .inl g))] s H locs := hw
          have hK9 : 4 = K9 := by rw [← hK, ← hF9]; exact (if_neg h4).symm
          have hW9 : vn g a0 (min 4 (r - a0)) = D9 := by rw [hF9]; exact hV
          have hP9 : r = P9 := hF9.trans hP
          have hw : kW γ A [(z, .inr (11, [.int n0, .int n1, .ref z2, .int (nI n), .int (nI P9), .int (nI a0), .int K9, .long W9, .int D9, .int n9, .ref z10, .ref z11, .ref z12, .ref z13, .ref z14, .ref z15, .ref z16, .ref z17, .ref z18, .ref z19, .int n20, .int n21, .ref z22, .ref z23, .ref z24, .ref z25, .ref z26, .ref z27, .ref z28, .ref z29, .ref z30, .ref z31, .ref z32, .ref z33, .int n34, .long n35, .ref z36, .ref z37, .ref z38, .ref z39, .ref z40, .ref z41, .ref z42, .ref z43, .ref z44, .ref z45, .ref z46, .ref z47, .ref z48, .int n49, .int n50, .int n51, .int n52, .int n53, .int n54, .ref z55, .ref z56, .int n57, .int n58, .ref z59, .ref z60, .ref z61, .int n62, .long n63])), (z2, .inl (γ.2.1 0, 1000, .inl g))] s H locs := by rw [← hP9, ← hK9, ← hW9, ← hO]; exact hw
          exact k_vret hC hr hlocks hw [0, 1] rfl rfl ⟨rfl, rfl⟩ (by decide) (by decide) dX12_nextToken_321
      · refine lv_aload_n hx hb dX12_nextToken_237 rfl (lv_at hl 0 rfl) ?_
        refine lv_aload_n hx hb dX12_nextToken_238 rfl (lv_at hl 0 rfl) ?_
        refine fg_RX12_154 hC hw 0 rfl rfl dX12_nextToken_239 ?_
        refine k_V (wr := []) 1 gw_1406 gw_1408 gp_55 gw_15 gw_1409 hd_X12_signAt hC hw (c_signAt_in γ l z z2 z10 z11 z12 z13 z14 z15 z16 z17 z18 z19 z22 z23 z24 z25 z26 z27 z28 z29 z30 z31 z32 z33 z36 z37 z38 z39 z40 z41 z42 z43 z44 z45 z46 z47 z48 z55 z56 z59 z60 z61 n0 n1 (nI r) (nI a0) t9 0 (vn g a0 (min 4 (r - a0))) n9 n20 n21 n34 n35 n49 n50 n51 n52 n53 n54 n57 n58 n62 n63 n r g hn hr9) ⟨by decide, by decide⟩ ⟨by decide, by decide⟩ hl.1 rfl 0 rfl rfl rfl (Nat.le_of_ble_eq_true rfl) [0, 1] [] rfl rfl rfl rfl (by decide) dX12_nextToken_242 (fun r w1 H locs hq hw => ?_)
        obtain ⟨rfl, rfl⟩ := hq
        have hw : kW γ A [(z, .inr (11, [.int n0, .int n1, .ref z2, .int (nI n), .int (nI r), .int (nI a0), .int t9, .long 0, .int (vn g a0 (min 4 (r - a0))), .int n9, .ref z10, .ref z11, .ref z12, .ref z13, .ref z14, .ref z15, .ref z16, .ref z17, .ref z18, .ref z19, .int n20, .int n21, .ref z22, .ref z23, .ref z24, .ref z25, .ref z26, .ref z27, .ref z28, .ref z29, .ref z30, .ref z31, .ref z32, .ref z33, .int n34, .long n35, .ref z36, .ref z37, .ref z38, .ref z39, .ref z40, .ref z41, .ref z42, .ref z43, .ref z44, .ref z45, .ref z46, .ref z47, .ref z48, .int n49, .int n50, .int n51, .int n52, .int n53, .int n54, .ref z55, .ref z56, .int n57, .int n58, .ref z59, .ref z60, .ref z61, .int n62, .long n63])), (z2, .inl (γ.2.1 0, 1000, .inl g))] s H locs := hw
        refine W.eq (g2 := F0 m 245 ls [.int (g r)]) rfl ?_
        refine lv_bipush (v := 57) hx hb dX12_nextToken_245 (by decide) ?_
        refine lv_icmp_gt (tgt := 299) hx hb dX12_nextToken_247 (by decide) (fun c2 => ?_) (fun c2 => ?_)
        · have hF9 : r = F := by first | exact (rn_end hr9).symm.trans hF | exact (rn_no (isD_lo c1)).symm.trans hF | exact (rn_no (isD_hi c2)).symm.trans hF
          refine lv_aload_n hx hb dX12_nextToken_299 rfl (lv_at hl 0 rfl) ?_
          refine lv_aload_n hx hb dX12_nextToken_300 rfl (lv_at hl 0 rfl) ?_
          refine fg_RX12_154 hC hw 0 rfl rfl dX12_nextToken_301 ?_
          refine lv_aload_n hx hb dX12_nextToken_304 rfl (lv_at hl 0 rfl) ?_
          refine fg_RX12_157 hC hw 0 rfl rfl dX12_nextToken_305 ?_
          refine lv_isub hx hb dX12_nextToken_308 ?_
          refine lv_topi (fun x_40 ex_40 => ?_)
          obtain rfl : x_40 = (nI (r - a0)) := ex_40.trans (nI_subI hs.1 (by omega))
          refine lv_iconst (v := 4) hx hb dX12_nextToken_309 (by decide) ?_
          refine lv_icmp_le (tgt := 317) hx hb dX12_nextToken_310 (by decide) (fun c4 => ?_) (fun c4 => ?_)
          · have h4 : r - a0 ≤ 4 := (nI_leI (b := 4) (by omega) (by decide)).mp c4
            refine lv_iconst (v := 2) hx hb dX12_nextToken_317 (by decide) ?_
            refine fs_RX12_167 hC hw 0 rfl rfl rfl (Nat.le_of_ble_eq_true rfl) dX12_nextToken_318 (fun H locs hw => ?_)
            have hw : kW γ A [(z, .inr (11, [.int n0, .int n1, .ref z2, .int (nI n), .int (nI r), .int (nI a0), .int 2, .long 0, .int (vn g a0 (min 4 (r - a0))), .int n9, .ref z10, .ref z11, .ref z12, .ref z13, .ref z14, .ref z15, .ref z16, .ref z17, .ref z18, .ref z19, .int n20, .int n21, .ref z22, .ref z23, .ref z24, .ref z25, .ref z26, .ref z27, .ref z28, .ref z29, .ref z30, .ref z31, .ref z32, .ref z33, .int n34, .long n35, .ref z36, .ref z37, .ref z38, .ref z39, .ref z40, .ref z41, .ref z42, .ref z43, .ref z44, .ref z45, .ref z46, .ref z47, .ref z48, .int n49, .int n50, .int n51, .int n52, .int n53, .int n54, .ref z55, .ref z56, .int n57, .int n58, .ref z59, .ref z60, .ref z61, .int n62, .long n63])), (z2, .inl (γ.2.1 0, 1000, .inl g))] s H locs := hw
            have hK9 : 2 = K9 := by rw [← hK, ← hF9]; exact (if_pos h4).symm
            have hW9 : vn g a0 (min 4 (r - a0)) = D9 := by rw [hF9]; exact hV
            have hP9 : r = P9 := hF9.trans hP
            have hw : kW γ A [(z, .inr (11, [.int n0, .int n1, .ref z2, .int (nI n), .int (nI P9), .int (nI a0), .int K9, .long W9, .int D9, .int n9, .ref z10, .ref z11, .ref z12, .ref z13, .ref z14, .ref z15, .ref z16, .ref z17, .ref z18, .ref z19, .int n20, .int n21, .ref z22, .ref z23, .ref z24, .ref z25, .ref z26, .ref z27, .ref z28, .ref z29, .ref z30, .ref z31, .ref z32, .ref z33, .int n34, .long n35, .ref z36, .ref z37, .ref z38, .ref z39, .ref z40, .ref z41, .ref z42, .ref z43, .ref z44, .ref z45, .ref z46, .ref z47, .ref z48, .int n49, .int n50, .int n51, .int n52, .int n53, .int n54, .ref z55, .ref z56, .int n57, .int n58, .ref z59, .ref z60, .ref z61, .int n62, .long n63])), (z2, .inl (γ.2.1 0, 1000, .inl g))] s H locs := by rw [← hP9, ← hK9, ← hW9, ← hO]; exact hw
            exact k_vret hC hr hlocks hw [0, 1] rfl rfl ⟨rfl, rfl⟩ (by decide) (by decide) dX12_nextToken_321
          · have h4 : ¬ r - a0 ≤ 4 := fun h9 => absurd (nI_le (b := 4) h9 (by decide)) c4
            refine lv_iconst (v := 4) hx hb dX12_nextToken_313 (by decide) ?_
            refine lv_goto (tgt := 318) hx hb dX12_nextToken_314 (by decide) ?_
            refine fs_RX12_167 hC hw 0 rfl rfl rfl (Nat.le_of_ble_eq_true rfl) dX12_nextToken_318 (fun H locs hw => ?_)
            have hw : kW γ A [(z, .inr (11, [.int n0, .int n1, .ref z2, .int (nI n), .int (nI r), .int (nI a0), .int 4, .long 0, .int (vn g a0 (min 4 (r - a0))), .int n9, .ref z10, .ref z11, .ref z12, .ref z13, .ref z14, .ref z15, .ref z16, .ref z17, .ref z18, .ref z19, .int n20, .int n21, .ref z22, .ref z23, .ref z24, .ref z25, .ref z26, .ref z27, .ref z28, .ref z29, .ref z30, .ref z31, .ref z32, .ref z33, .int n34, .long n35, .ref z36, .ref z37, .ref z38, .ref z39, .ref z40, .ref z41, .ref z42, .ref z43, .ref z44, .ref z45, .ref z46, .ref z47, .ref z48, .int n49, .int n50, .int n51, .int n52, .int n53, .int n54, .ref z55, .ref z56, .int n57, .int n58, .ref z59, .ref z60, .ref z61, .int n62, .long n63])), (z2, .inl (γ.2.1 0, 1000, .inl g))] s H locs := hw
            have hK9 : 4 = K9 := by rw [← hK, ← hF9]; exact (if_neg h4).symm
            have hW9 : vn g a0 (min 4 (r - a0)) = D9 := by rw [hF9]; exact hV
            have hP9 : r = P9 := hF9.trans hP
            have hw : kW γ A [(z, .inr (11, [.int n0, .int n1, .ref z2, .int (nI n), .int (nI P9), .int (nI a0), .int K9, .long W9, .int D9, .int n9, .ref z10, .ref z11, .ref z12, .ref z13, .ref z14, .ref z15, .ref z16, .ref z17, .ref z18, .ref z19, .int n20, .int n21, .ref z22, .ref z23, .ref z24, .ref z25, .ref z26, .ref z27, .ref z28, .ref z29, .ref z30, .ref z31, .ref z32, .ref z33, .int n34, .long n35, .ref z36, .ref z37, .ref z38, .ref z39, .ref z40, .ref z41, .ref z42, .ref z43, .ref z44, .ref z45, .ref z46, .ref z47, .ref z48, .int n49, .int n50, .int n51, .int n52, .int n53, .int n54, .ref z55, .ref z56, .int n57, .int n58, .ref z59, .ref z60, .ref z61, .int n62, .long n63])), (z2, .inl (γ.2.1 0, 1000, .inl g))] s H locs := by rw [← hP9, ← hK9, ← hW9, ← hO]; exact hw
            exact k_vret hC hr hlocks hw [0, 1] rfl rfl ⟨rfl, rfl⟩ (by decide) (by decide) dX12_nextToken_321
        · refine lv_aload_n hx hb dX12_nextToken_250 rfl (lv_at hl 0 rfl) ?_
          refine fg_RX12_154 hC hw 0 rfl rfl dX12_nextToken_251 ?_
          refine lv_aload_n hx hb dX12_nextToken_254 rfl (lv_at hl 0 rfl) ?_
          refine fg_RX12_157 hC hw 0 rfl rfl dX12_nextToken_255 ?_
          refine lv_isub hx hb dX12_nextToken_258 ?_
          refine lv_topi (fun x_41 ex_41 => ?_)
          obtain rfl : x_41 = (nI (r - a0)) := ex_41.trans (nI_subI hs.1 (by omega))
          refine lv_iconst (v := 4) hx hb dX12_nextToken_259 (by decide) ?_
          refine lv_icmp_ge (tgt := 286) hx hb dX12_nextToken_260 (by decide) (fun c3 => ?_) (fun c3 => ?_)
          · have h3 : ¬ r - a0 < 4 := fun h9 => absurd c3 (nI_ge (b := 4) h9 (by decide))
            have hw := hw
            rw [show min 4 (r - a0) = min 4 (r + 1 - a0) by omega] at hw
            refine lv_aload_n hx hb dX12_nextToken_286 rfl (lv_at hl 0 rfl) ?_
            refine lv_dup hx hb dX12_nextToken_287 rfl ?_
            refine fg_RX12_154 hC hw 0 rfl rfl dX12_nextToken_288 ?_
            refine lv_iconst (v := 1) hx hb dX12_nextToken_291 (by decide) ?_
            refine lv_iadd hx hb dX12_nextToken_292 ?_
            refine lv_topi (fun x_42 ex_42 => ?_)
            obtain rfl : x_42 = (nI (r + 1)) := ex_42.trans (nI_1 r)
            refine fs_RX12_154 hC hw 0 rfl rfl rfl (Nat.le_of_ble_eq_true rfl) dX12_nextToken_293 (fun H locs hw => ?_)
            have hw : kW γ A [(z, .inr (11, [.int n0, .int n1, .ref z2, .int (nI n), .int (nI (r + 1)), .int (nI a0), .int t9, .long 0, .int (vn g a0 (min 4 (r + 1 - a0))), .int n9, .ref z10, .ref z11, .ref z12, .ref z13, .ref z14, .ref z15, .ref z16, .ref z17, .ref z18, .ref z19, .int n20, .int n21, .ref z22, .ref z23, .ref z24, .ref z25, .ref z26, .ref z27, .ref z28, .ref z29, .ref z30, .ref z31, .ref z32, .ref z33, .int n34, .long n35, .ref z36, .ref z37, .ref z38, .ref z39, .ref z40, .ref z41, .ref z42, .ref z43, .ref z44, .ref z45, .ref z46, .ref z47, .ref z48, .int n49, .int n50, .int n51, .int n52, .int n53, .int n54, .ref z55, .ref z56, .int n57, .int n58, .ref z59, .ref z60, .ref z61, .int n62, .long n63])), (z2, .inl (γ.2.1 0, 1000, .inl g))] s H locs := hw
            refine lv_goto (tgt := 224) hx hb dX12_nextToken_296 (by decide) ?_
            exact ih (r + 1) (by omega) ⟨by omega, by omega⟩ ((rn_go hr9 (isD_ok c1 c2)).symm.trans hF) _ _ (kW.sub hw [0, 1] rfl rfl) _ (lv_sub hl [0] rfl)
          · have h3 : r - a0 < 4 := by rcases Nat.lt_or_ge (r - a0) 4 with h9 | h9; exact h9; exact absurd (nI_le (a := 4) h9 (by omega)) c3
            refine lv_aload_n hx hb dX12_nextToken_263 rfl (lv_at hl 0 rfl) ?_
            refine lv_aload_n hx hb dX12_nextToken_264 rfl (lv_at hl 0 rfl) ?_
            refine fg_RX12_164 hC hw 0 rfl rfl dX12_nextToken_265 ?_
            refine lv_bipush (v := 10) hx hb dX12_nextToken_268 (by decide) ?_
            refine lv_imul hx hb dX12_nextToken_270 ?_
            refine lv_aload_n hx hb dX12_nextToken_271 rfl (lv_at hl 0 rfl) ?_
            refine lv_aload_n hx hb dX12_nextToken_272 rfl (lv_at hl 0 rfl) ?_
            refine fg_RX12_154 hC hw 0 rfl rfl dX12_nextToken_273 ?_
            refine k_V (wr := []) 1 gw_1406 gw_1408 gp_55 gw_15 gw_1409 hd_X12_signAt hC hw (c_signAt_in γ l z z2 z10 z11 z12 z13 z14 z15 z16 z17 z18 z19 z22 z23 z24 z25 z26 z27 z28 z29 z30 z31 z32 z33 z36 z37 z38 z39 z40 z41 z42 z43 z44 z45 z46 z47 z48 z55 z56 z59 z60 z61 n0 n1 (nI r) (nI a0) t9 0 (vn g a0 (min 4 (r - a0))) n9 n20 n21 n34 n35 n49 n50 n51 n52 n53 n54 n57 n58 n62 n63 n r g hn hr9) ⟨by decide, by decide⟩ ⟨by decide, by decide⟩ hl.1 rfl 0 rfl rfl rfl (Nat.le_of_ble_eq_true rfl) [0, 1] [] rfl rfl rfl rfl (by decide) dX12_nextToken_276 (fun r w1 H locs hq hw => ?_)
            obtain ⟨rfl, rfl⟩ := hq
            have hw : kW γ A [(z, .inr (11, [.int n0, .int n1, .ref z2, .int (nI n), .int (nI r), .int (nI a0), .int t9, .long 0, .int (vn g a0 (min 4 (r - a0))), .int n9, .ref z10, .ref z11, .ref z12, .ref z13, .ref z14, .ref z15, .ref z16, .ref z17, .ref z18, .ref z19, .int n20, .int n21, .ref z22, .ref z23, .ref z24, .ref z25, .ref z26, .ref z27, .ref z28, .ref z29, .ref z30, .ref z31, .ref z32, .ref z33, .int n34, .long n35, .ref z36, .ref z37, .ref z38, .ref z39, .ref z40, .ref z41, .ref z42, .ref z43, .ref z44, .ref z45, .ref z46, .ref z47, .ref z48, .int n49, .int n50, .int n51, .int n52, .int n53, .int n54, .ref z55, .ref z56, .int n57, .int n58, .ref z59, .ref z60, .ref z61, .int n62, .long n63])), (z2, .inl (γ.2.1 0, 1000, .inl g))] s H locs := hw
            refine W.eq (g2 := F0 m 279 ls [.int (g r), .int ((vn g a0 (min 4 (r - a0))) * 10), .ref z]) rfl ?_
            refine lv_iadd hx hb dX12_nextToken_279 ?_
            refine lv_bipush (v := 48) hx hb dX12_nextToken_280 (by decide) ?_
            refine lv_isub hx hb dX12_nextToken_282 ?_
            refine lv_topi (fun x_43 ex_43 => ?_)
            obtain rfl : x_43 = (vn g a0 (min 4 (r + 1 - a0))) := ex_43.trans (vn_step hs.1 h3)
            refine fs_RX12_164 hC hw 0 rfl rfl rfl (Nat.le_of_ble_eq_true rfl) dX12_nextToken_283 (fun H locs hw => ?_)
            have hw : kW γ A [(z, .inr (11, [.int n0, .int n1, .ref z2, .int (nI n), .int (nI r), .int (nI a0), .int t9, .long 0, .int (vn g a0 (min 4 (r + 1 - a0))), .int n9, .ref z10, .ref z11, .ref z12, .ref z13, .ref z14, .ref z15, .ref z16, .ref z17, .ref z18, .ref z19, .int n20, .int n21, .ref z22, .ref z23, .ref z24, .ref z25, .ref z26, .ref z27, .ref z28, .ref z29, .ref z30, .ref z31, .ref z32, .ref z33, .int n34, .long n35, .ref z36, .ref z37, .ref z38, .ref z39, .ref z40, .ref z41, .ref z42, .ref z43, .ref z44, .ref z45, .ref z46, .ref z47, .ref z48, .int n49, .int n50, .int n51, .int n52, .int n53, .int n54, .ref z55, .ref z56, .int n57, .int n58, .ref z59, .ref z60, .ref z61, .int n62, .long n63])), (z2, .inl (γ.2.1 0, 1000, .inl g))] s H locs := hw
            refine lv_aload_n hx hb dX12_nextToken_286 rfl (lv_at hl 0 rfl) ?_
            refine lv_dup hx hb dX12_nextToken_287 rfl ?_
            refine fg_RX12_154 hC hw 0 rfl rfl dX12_nextToken_288 ?_
            refine lv_iconst (v := 1) hx hb dX12_nextToken_291 (by decide) ?_
            refine lv_iadd hx hb dX12_nextToken_292 ?_
            refine lv_topi (fun x_44 ex_44 => ?_)
            obtain rfl : x_44 = (nI (r + 1)) := ex_44.trans (nI_1 r)
            refine fs_RX12_154 hC hw 0 rfl rfl rfl (Nat.le_of_ble_eq_true rfl) dX12_nextToken_293 (fun H locs hw => ?_)
            have hw : kW γ A [(z, .inr (11, [.int n0, .int n1, .ref z2, .int (nI n), .int (nI (r + 1)), .int (nI a0), .int t9, .long 0, .int (vn g a0 (min 4 (r + 1 - a0))), .int n9, .ref z10, .ref z11, .ref z12, .ref z13, .ref z14, .ref z15, .ref z16, .ref z17, .ref z18, .ref z19, .int n20, .int n21, .ref z22, .ref z23, .ref z24, .ref z25, .ref z26, .ref z27, .ref z28, .ref z29, .ref z30, .ref z31, .ref z32, .ref z33, .int n34, .long n35, .ref z36, .ref z37, .ref z38, .ref z39, .ref z40, .ref z41, .ref z42, .ref z43, .ref z44, .ref z45, .ref z46, .ref z47, .ref z48, .int n49, .int n50, .int n51, .int n52, .int n53, .int n54, .ref z55, .ref z56, .int n57, .int n58, .ref z59, .ref z60, .ref z61, .int n62, .long n63])), (z2, .inl (γ.2.1 0, 1000, .inl g))] s H locs := hw
            refine lv_goto (tgt := 224) hx hb dX12_nextToken_296 (by decide) ?_
            exact ih (r + 1) (by omega) ⟨by omega, by omega⟩ ((rn_go hr9 (isD_ok c1 c2)).symm.trans hF) _ _ (kW.sub hw [0, 1] rfl rfl) _ (lv_sub hl [0] rfl)
    · have hr9 : ¬ r < n := by omega
      refine lv_aload_n hx hb dX12_nextToken_224 rfl (lv_at hl 0 rfl) ?_
      refine lv_aload_n hx hb dX12_nextToken_225 rfl (lv_at hl 0 rfl) ?_
      refine fg_RX12_154 hC hw 0 rfl rfl dX12_nextToken_226 ?_
      refine k_V (wr := []) 1 gw_1406 gw_1408 gp_55 gw_15 gw_1409 hd_X12_signAt hC hw (c_signAt_out γ l z z2 z10 z11 z12 z13 z14 z15 z16 z17 z18 z19 z22 z23 z24 z25 z26 z27 z28 z29 z30 z31 z32 z33 z36 z37 z38 z39 z40 z41 z42 z43 z44 z45 z46 z47 z48 z55 z56 z59 z60 z61 n0 n1 (nI r) (nI a0) t9 0 (vn g a0 (min 4 (r - a0))) n9 n20 n21 n34 n35 n49 n50 n51 n52 n53 n54 n57 n58 n62 n63 n r g hn hr9 (by omega)) ⟨by decide, by decide⟩ ⟨by decide, by decide⟩ hl.1 rfl 0 rfl rfl rfl (Nat.le_of_ble_eq_true rfl) [0, 1] [] rfl rfl rfl rfl (by decide) dX12_nextToken_229 (fun r w1 H locs hq hw => ?_)
      obtain ⟨rfl, rfl⟩ := hq
      have hw : kW γ A [(z, .inr (11, [.int n0, .int n1, .ref z2, .int (nI n), .int (nI r), .int (nI a0), .int t9, .long 0, .int (vn g a0 (min 4 (r - a0))), .int n9, .ref z10, .ref z11, .ref z12, .ref z13, .ref z14, .ref z15, .ref z16, .ref z17, .ref z18, .ref z19, .int n20, .int n21, .ref z22, .ref z23, .ref z24, .ref z25, .ref z26, .ref z27, .ref z28, .ref z29, .ref z30, .ref z31, .ref z32, .ref z33, .int n34, .long n35, .ref z36, .ref z37, .ref z38, .ref z39, .ref z40, .ref z41, .ref z42, .ref z43, .ref z44, .ref z45, .ref z46, .ref z47, .ref z48, .int n49, .int n50, .int n51, .int n52, .int n53, .int n54, .ref z55, .ref z56, .int n57, .int n58, .ref z59, .ref z60, .ref z61, .int n62, .long n63])), (z2, .inl (γ.2.1 0, 1000, .inl g))] s H locs := hw
      refine W.eq (g2 := F0 m 232 ls [.int 0]) rfl ?_
      refine lv_bipush (v := 48) hx hb dX12_nextToken_232 (by decide) ?_
      refine lv_icmp_lt (tgt := 299) hx hb dX12_nextToken_234 (by decide) (fun _ => ?_) (fun h => absurd (by decide) h)
      have hF9 : r = F := by first | exact (rn_end hr9).symm.trans hF | exact (rn_no (isD_lo c1)).symm.trans hF | exact (rn_no (isD_hi c2)).symm.trans hF
      refine lv_aload_n hx hb dX12_nextToken_299 rfl (lv_at hl 0 rfl) ?_
      refine lv_aload_n hx hb dX12_nextToken_300 rfl (lv_at hl 0 rfl) ?_
      refine fg_RX12_154 hC hw 0 rfl rfl dX12_nextToken_301 ?_
      refine lv_aload_n hx hb dX12_nextToken_304 rfl (lv_at hl 0 rfl) ?_
      refine fg_RX12_157 hC hw 0 rfl rfl dX12_nextToken_305 ?_
      refine lv_isub hx hb dX12_nextToken_308 ?_
      refine lv_topi (fun x_45 ex_45 => ?_)
      obtain rfl : x_45 = (nI (r - a0)) := ex_45.trans (nI_subI hs.1 (by omega))
      refine lv_iconst (v := 4) hx hb dX12_nextToken_309 (by decide) ?_
      refine lv_icmp_le (tgt := 317) hx hb dX12_nextToken_310 (by decide) (fun c4 => ?_) (fun c4 => ?_)
      · have h4 : r - a0 ≤ 4 := (nI_leI (b := 4) (by omega) (by decide)).mp c4
        refine lv_iconst (v := 2) hx hb dX12_nextToken_317 (by decide) ?_
        refine fs_RX12_167 hC hw 0 rfl rfl rfl (Nat.le_of_ble_eq_true rfl) dX12_nextToken_318 (fun H locs hw => ?_)
        have hw : kW γ A [(z, .inr (11, [.int n0, .int n1, .ref z2, .int (nI n), .int (nI r), .int (nI a0), .int 2, .long 0, .int (vn g a0 (min 4 (r - a0))), .int n9, .ref z10, .ref z11, .ref z12, .ref z13, .ref z14, .ref z15, .ref z16, .ref z17, .ref z18, .ref z19, .int n20, .int n21, .ref z22, .ref z23, .ref z24, .ref z25, .ref z26, .ref z27, .ref z28, .ref z29, .ref z30, .ref z31, .ref z32, .ref z33, .int n34, .long n35, .ref z36, .ref z37, .ref z38, .ref z39, .ref z40, .ref z41, .ref z42, .ref z43, .ref z44, .ref z45, .ref z46, .ref z47, .ref z48, .int n49, .int n50, .int n51, .int n52, .int n53, .int n54, .ref z55, .ref z56, .int n57, .int n58, .ref z59, .ref z60, .ref z61, .int n62, .long n63])), (z2, .inl (γ.2.1 0, 1000, .inl g))] s H locs := hw
        have hK9 : 2 = K9 := by rw [← hK, ← hF9]; exact (if_pos h4).symm
        have hW9 : vn g a0 (min 4 (r - a0)) = D9 := by rw [hF9]; exact hV
        have hP9 : r = P9 := hF9.trans hP
        have hw : kW γ A [(z, .inr (11, [.int n0, .int n1, .ref z2, .int (nI n), .int (nI P9), .int (nI a0), .int K9, .long W9, .int D9, .int n9, .ref z10, .ref z11, .ref z12, .ref z13, .ref z14, .ref z15, .ref z16, .ref z17, .ref z18, .ref z19, .int n20, .int n21, .ref z22, .ref z23, .ref z24, .ref z25, .ref z26, .ref z27, .ref z28, .ref z29, .ref z30, .ref z31, .ref z32, .ref z33, .int n34, .long n35, .ref z36, .ref z37, .ref z38, .ref z39, .ref z40, .ref z41, .ref z42, .ref z43, .ref z44, .ref z45, .ref z46, .ref z47, .ref z48, .int n49, .int n50, .int n51, .int n52, .int n53, .int n54, .ref z55, .ref z56, .int n57, .int n58, .ref z59, .ref z60, .ref z61, .int n62, .long n63])), (z2, .inl (γ.2.1 0, 1000, .inl g))] s H locs := by rw [← hP9, ← hK9, ← hW9, ← hO]; exact hw
        exact k_vret hC hr hlocks hw [0, 1] rfl rfl ⟨rfl, rfl⟩ (by decide) (by decide) dX12_nextToken_321
      · have h4 : ¬ r - a0 ≤ 4 := fun h9 => absurd (nI_le (b := 4) h9 (by decide)) c4
        refine lv_iconst (v := 4) hx hb dX12_nextToken_313 (by decide) ?_
        refine lv_goto (tgt := 318) hx hb dX12_nextToken_314 (by decide) ?_
        refine fs_RX12_167 hC hw 0 rfl rfl rfl (Nat.le_of_ble_eq_true rfl) dX12_nextToken_318 (fun H locs hw => ?_)
        have hw : kW γ A [(z, .inr (11, [.int n0, .int n1, .ref z2, .int (nI n), .int (nI r), .int (nI a0), .int 4, .long 0, .int (vn g a0 (min 4 (r - a0))), .int n9, .ref z10, .ref z11, .ref z12, .ref z13, .ref z14, .ref z15, .ref z16, .ref z17, .ref z18, .ref z19, .int n20, .int n21, .ref z22, .ref z23, .ref z24, .ref z25, .ref z26, .ref z27, .ref z28, .ref z29, .ref z30, .ref z31, .ref z32, .ref z33, .int n34, .long n35, .ref z36, .ref z37, .ref z38, .ref z39, .ref z40, .ref z41, .ref z42, .ref z43, .ref z44, .ref z45, .ref z46, .ref z47, .ref z48, .int n49, .int n50, .int n51, .int n52, .int n53, .int n54, .ref z55, .ref z56, .int n57, .int n58, .ref z59, .ref z60, .ref z61, .int n62, .long n63])), (z2, .inl (γ.2.1 0, 1000, .inl g))] s H locs := hw
        have hK9 : 4 = K9 := by rw [← hK, ← hF9]; exact (if_neg h4).symm
        have hW9 : vn g a0 (min 4 (r - a0)) = D9 := by rw [hF9]; exact hV
        have hP9 : r = P9 := hF9.trans hP
        have hw : kW γ A [(z, .inr (11, [.int n0, .int n1, .ref z2, .int (nI n), .int (nI P9), .int (nI a0), .int K9, .long W9, .int D9, .int n9, .ref z10, .ref z11, .ref z12, .ref z13, .ref z14, .ref z15, .ref z16, .ref z17, .ref z18, .ref z19, .int n20, .int n21, .ref z22, .ref z23, .ref z24, .ref z25, .ref z26, .ref z27, .ref z28, .ref z29, .ref z30, .ref z31, .ref z32, .ref z33, .int n34, .long n35, .ref z36, .ref z37, .ref z38, .ref z39, .ref z40, .ref z41, .ref z42, .ref z43, .ref z44, .ref z45, .ref z46, .ref z47, .ref z48, .int n49, .int n50, .int n51, .int n52, .int n53, .int n54, .ref z55, .ref z56, .int n57, .int n58, .ref z59, .ref z60, .ref z61, .int n62, .long n63])), (z2, .inl (γ.2.1 0, 1000, .inl g))] s H locs := by rw [← hP9, ← hK9, ← hW9, ← hO]; exact hw
        exact k_vret hC hr hlocks hw [0, 1] rfl rfl ⟨rfl, rfl⟩ (by decide) (by decide) dX12_nextToken_321

