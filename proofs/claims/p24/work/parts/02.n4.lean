theorem dL_law_28 : decode cL_law 28 = .ok (.astore 4, 2) := by decide +kernel
theorem dL_law_30 : decode cL_law 30 = .ok (.iconst 0, 1) := by decide +kernel
theorem dL_law_31 : decode cL_law 31 = .ok (.istore 5, 2) := by decide +kernel
theorem dL_law_33 : decode cL_law 33 = .ok (.iload 5, 2) := by decide +kernel
theorem dL_law_35 : decode cL_law 35 = .ok (.iload_n 2, 1) := by decide +kernel
theorem dL_law_36 : decode cL_law 36 = .ok (.if_icmp .ge 129, 3) := by decide +kernel
theorem dL_law_39 : decode cL_law 39 = .ok (.aload_n 3, 1) := by decide +kernel
theorem dL_law_40 : decode cL_law 40 = .ok (.iload 5, 2) := by decide +kernel
theorem dL_law_42 : decode cL_law 42 = .ok (.aload_n 0, 1) := by decide +kernel
theorem dL_law_43 : decode cL_law 43 = .ok (.iload 5, 2) := by decide +kernel
theorem dL_law_45 : decode cL_law 45 = .ok (.invokestatic 12, 3) := by decide +kernel
theorem dL_law_48 : decode cL_law 48 = .ok (.iconst 4, 1) := by decide +kernel
theorem dL_law_49 : decode cL_law 49 = .ok (.invokestatic 18, 3) := by decide +kernel
theorem dL_law_52 : decode cL_law 52 = .ok (.iastore, 1) := by decide +kernel
theorem dL_law_53 : decode cL_law 53 = .ok (.aload 4, 2) := by decide +kernel
theorem dL_law_55 : decode cL_law 55 = .ok (.iload 5, 2) := by decide +kernel
theorem dL_law_57 : decode cL_law 57 = .ok (.aload_n 0, 1) := by decide +kernel
theorem dL_law_58 : decode cL_law 58 = .ok (.iload 5, 2) := by decide +kernel
theorem dL_law_60 : decode cL_law 60 = .ok (.invokestatic 12, 3) := by decide +kernel
theorem dL_law_63 : decode cL_law 63 = .ok (.iconst 3, 1) := by decide +kernel
theorem dL_law_64 : decode cL_law 64 = .ok (.ishr, 1) := by decide +kernel
theorem dL_law_65 : decode cL_law 65 = .ok (.iconst 1, 1) := by decide +kernel
theorem dL_law_66 : decode cL_law 66 = .ok (.iload 5, 2) := by decide +kernel
theorem dL_law_68 : decode cL_law 68 = .ok (.ishl, 1) := by decide +kernel
theorem dL_law_69 : decode cL_law 69 = .ok (.invokestatic 18, 3) := by decide +kernel
theorem dL_law_72 : decode cL_law 72 = .ok (.aload_n 0, 1) := by decide +kernel
theorem dL_law_73 : decode cL_law 73 = .ok (.iload 5, 2) := by decide +kernel
theorem dL_law_75 : decode cL_law 75 = .ok (.iconst 1, 1) := by decide +kernel
theorem dL_law_76 : decode cL_law 76 = .ok (.iadd, 1) := by decide +kernel
theorem dL_law_77 : decode cL_law 77 = .ok (.invokestatic 12, 3) := by decide +kernel
theorem dL_law_80 : decode cL_law 80 = .ok (.iconst 2, 1) := by decide +kernel
theorem dL_law_81 : decode cL_law 81 = .ok (.ishr, 1) := by decide +kernel
theorem dL_law_82 : decode cL_law 82 = .ok (.iconst 1, 1) := by decide +kernel
theorem dL_law_83 : decode cL_law 83 = .ok (.iload 5, 2) := by decide +kernel
theorem dL_law_85 : decode cL_law 85 = .ok (.ishl, 1) := by decide +kernel
theorem dL_law_86 : decode cL_law 86 = .ok (.invokestatic 18, 3) := by decide +kernel
theorem dL_law_89 : decode cL_law 89 = .ok (.iand, 1) := by decide +kernel
theorem dL_law_90 : decode cL_law 90 = .ok (.iastore, 1) := by decide +kernel
theorem dL_law_91 : decode cL_law 91 = .ok (.aload_n 1, 1) := by decide +kernel
theorem dL_law_92 : decode cL_law 92 = .ok (.aload_n 3, 1) := by decide +kernel
theorem dL_law_93 : decode cL_law 93 = .ok (.iload 5, 2) := by decide +kernel
theorem dL_law_95 : decode cL_law 95 = .ok (.iaload, 1) := by decide +kernel
theorem dL_law_96 : decode cL_law 96 = .ok (.iconst 1, 1) := by decide +kernel
theorem dL_law_97 : decode cL_law 97 = .ok (.aload_n 0, 1) := by decide +kernel
theorem dL_law_98 : decode cL_law 98 = .ok (.iload 5, 2) := by decide +kernel
theorem dL_law_100 : decode cL_law 100 = .ok (.iconst 2, 1) := by decide +kernel
theorem dL_law_101 : decode cL_law 101 = .ok (.iadd, 1) := by decide +kernel
theorem dL_law_102 : decode cL_law 102 = .ok (.invokestatic 12, 3) := by decide +kernel
theorem dL_law_105 : decode cL_law 105 = .ok (.iconst 4, 1) := by decide +kernel
theorem dL_law_106 : decode cL_law 106 = .ok (.invokestatic 18, 3) := by decide +kernel
theorem dL_law_109 : decode cL_law 109 = .ok (.iadd, 1) := by decide +kernel
theorem dL_law_110 : decode cL_law 110 = .ok (.aload 4, 2) := by decide +kernel
theorem dL_law_112 : decode cL_law 112 = .ok (.iload 5, 2) := by decide +kernel
theorem dL_law_114 : decode cL_law 114 = .ok (.iaload, 1) := by decide +kernel
theorem dL_law_115 : decode cL_law 115 = .ok (.aload_n 3, 1) := by decide +kernel
theorem dL_law_116 : decode cL_law 116 = .ok (.iload 5, 2) := by decide +kernel
theorem dL_law_118 : decode cL_law 118 = .ok (.iaload, 1) := by decide +kernel
theorem dL_law_119 : decode cL_law 119 = .ok (.ifCond .ne 20, 3) := by decide +kernel
theorem dL_law_122 : decode cL_law 122 = .ok (.aload_n 0, 1) := by decide +kernel
theorem dL_law_123 : decode cL_law 123 = .ok (.iload 5, 2) := by decide +kernel
theorem dL_law_125 : decode cL_law 125 = .ok (.invokestatic 12, 3) := by decide +kernel
theorem dL_law_128 : decode cL_law 128 = .ok (.iconst 4, 1) := by decide +kernel
theorem dL_law_129 : decode cL_law 129 = .ok (.ishr, 1) := by decide +kernel
theorem dL_law_130 : decode cL_law 130 = .ok (.sipush 256, 3) := by decide +kernel
theorem dL_law_133 : decode cL_law 133 = .ok (.invokestatic 18, 3) := by decide +kernel
theorem dL_law_136 : decode cL_law 136 = .ok (.goto 13, 3) := by decide +kernel
theorem dL_law_139 : decode cL_law 139 = .ok (.aload_n 0, 1) := by decide +kernel
theorem dL_law_140 : decode cL_law 140 = .ok (.iload 5, 2) := by decide +kernel
theorem dL_law_142 : decode cL_law 142 = .ok (.invokestatic 12, 3) := by decide +kernel
theorem dL_law_145 : decode cL_law 145 = .ok (.iconst 2, 1) := by decide +kernel
theorem dL_law_146 : decode cL_law 146 = .ok (.invokestatic 18, 3) := by decide +kernel
theorem dL_law_149 : decode cL_law 149 = .ok (.invokevirtual 22, 3) := by decide +kernel
theorem dL_law_152 : decode cL_law 152 = .ok (.iload 5, 2) := by decide +kernel
theorem dL_law_154 : decode cL_law 154 = .ok (.if_icmp .eq 5, 3) := by decide +kernel
theorem dL_law_157 : decode cL_law 157 = .ok (.iconst 0, 1) := by decide +kernel
theorem dL_law_158 : decode cL_law 158 = .ok (.ireturn, 1) := by decide +kernel
theorem dL_law_159 : decode cL_law 159 = .ok (.iinc 5 1, 3) := by decide +kernel
theorem dL_law_162 : decode cL_law 162 = .ok (.goto (-129), 3) := by decide +kernel
theorem dL_law_165 : decode cL_law 165 = .ok (.iconst 1, 1) := by decide +kernel
theorem dL_law_166 : decode cL_law 166 = .ok (.aload_n 0, 1) := by decide +kernel
theorem dL_law_167 : decode cL_law 167 = .ok (.iconst 1, 1) := by decide +kernel
theorem dL_law_168 : decode cL_law 168 = .ok (.invokestatic 12, 3) := by decide +kernel
theorem dL_law_171 : decode cL_law 171 = .ok (.iconst 5, 1) := by decide +kernel
theorem dL_law_172 : decode cL_law 172 = .ok (.invokestatic 18, 3) := by decide +kernel
theorem dL_law_175 : decode cL_law 175 = .ok (.iadd, 1) := by decide +kernel
theorem dL_law_176 : decode cL_law 176 = .ok (.istore 5, 2) := by decide +kernel
theorem dL_law_178 : decode cL_law 178 = .ok (.iload 5, 2) := by decide +kernel
theorem dL_law_180 : decode cL_law 180 = .ok (.newarray .int, 2) := by decide +kernel
theorem dL_law_182 : decode cL_law 182 = .ok (.astore 6, 2) := by decide +kernel
theorem dL_law_184 : decode cL_law 184 = .ok (.iconst 0, 1) := by decide +kernel
theorem dL_law_185 : decode cL_law 185 = .ok (.istore 7, 2) := by decide +kernel
theorem dL_law_187 : decode cL_law 187 = .ok (.iload 7, 2) := by decide +kernel
theorem dL_law_189 : decode cL_law 189 = .ok (.iload 5, 2) := by decide +kernel
theorem dL_law_191 : decode cL_law 191 = .ok (.if_icmp .ge 79, 3) := by decide +kernel
theorem dL_law_194 : decode cL_law 194 = .ok (.aload 6, 2) := by decide +kernel
theorem dL_law_196 : decode cL_law 196 = .ok (.iload 7, 2) := by decide +kernel
theorem dL_law_198 : decode cL_law 198 = .ok (.iconst 1, 1) := by decide +kernel
theorem dL_law_199 : decode cL_law 199 = .ok (.aload_n 0, 1) := by decide +kernel
theorem dL_law_200 : decode cL_law 200 = .ok (.iload 7, 2) := by decide +kernel
theorem dL_law_202 : decode cL_law 202 = .ok (.iconst 3, 1) := by decide +kernel
theorem dL_law_203 : decode cL_law 203 = .ok (.iadd, 1) := by decide +kernel
theorem dL_law_204 : decode cL_law 204 = .ok (.invokestatic 12, 3) := by decide +kernel
theorem dL_law_207 : decode cL_law 207 = .ok (.iconst 2, 1) := by decide +kernel
theorem dL_law_208 : decode cL_law 208 = .ok (.ishr, 1) := by decide +kernel
theorem dL_law_209 : decode cL_law 209 = .ok (.iconst 1, 1) := by decide +kernel
theorem dL_law_210 : decode cL_law 210 = .ok (.iload_n 2, 1) := by decide +kernel
theorem dL_law_211 : decode cL_law 211 = .ok (.ishl, 1) := by decide +kernel
theorem dL_law_212 : decode cL_law 212 = .ok (.iconst 1, 1) := by decide +kernel
theorem dL_law_213 : decode cL_law 213 = .ok (.isub, 1) := by decide +kernel
theorem dL_law_214 : decode cL_law 214 = .ok (.invokestatic 18, 3) := by decide +kernel
theorem dL_law_217 : decode cL_law 217 = .ok (.iadd, 1) := by decide +kernel
theorem dL_law_218 : decode cL_law 218 = .ok (.aload_n 0, 1) := by decide +kernel
theorem dL_law_219 : decode cL_law 219 = .ok (.iload 7, 2) := by decide +kernel
theorem dL_law_221 : decode cL_law 221 = .ok (.iconst 5, 1) := by decide +kernel
theorem dL_law_222 : decode cL_law 222 = .ok (.iadd, 1) := by decide +kernel
theorem dL_law_223 : decode cL_law 223 = .ok (.invokestatic 12, 3) := by decide +kernel
theorem dL_law_226 : decode cL_law 226 = .ok (.iconst 1, 1) := by decide +kernel
theorem dL_law_227 : decode cL_law 227 = .ok (.iload_n 2, 1) := by decide +kernel
theorem dL_law_228 : decode cL_law 228 = .ok (.ishl, 1) := by decide +kernel
theorem dL_law_229 : decode cL_law 229 = .ok (.invokestatic 18, 3) := by decide +kernel
theorem dL_law_232 : decode cL_law 232 = .ok (.iand, 1) := by decide +kernel
theorem dL_law_233 : decode cL_law 233 = .ok (.iastore, 1) := by decide +kernel
theorem dL_law_234 : decode cL_law 234 = .ok (.aload 6, 2) := by decide +kernel
theorem dL_law_236 : decode cL_law 236 = .ok (.iload 7, 2) := by decide +kernel
theorem dL_law_238 : decode cL_law 238 = .ok (.iaload, 1) := by decide +kernel
theorem dL_law_239 : decode cL_law 239 = .ok (.ifCond .ne 9, 3) := by decide +kernel
theorem dL_law_242 : decode cL_law 242 = .ok (.aload 6, 2) := by decide +kernel
theorem dL_law_244 : decode cL_law 244 = .ok (.iload 7, 2) := by decide +kernel
theorem dL_law_246 : decode cL_law 246 = .ok (.iconst 1, 1) := by decide +kernel
theorem dL_law_247 : decode cL_law 247 = .ok (.iastore, 1) := by decide +kernel
theorem dL_law_248 : decode cL_law 248 = .ok (.aload_n 1, 1) := by decide +kernel
theorem dL_law_249 : decode cL_law 249 = .ok (.aload 6, 2) := by decide +kernel
theorem dL_law_251 : decode cL_law 251 = .ok (.iload 7, 2) := by decide +kernel
theorem dL_law_253 : decode cL_law 253 = .ok (.iaload, 1) := by decide +kernel
theorem dL_law_254 : decode cL_law 254 = .ok (.invokevirtual 26, 3) := by decide +kernel
theorem dL_law_257 : decode cL_law 257 = .ok (.iload 7, 2) := by decide +kernel
theorem dL_law_259 : decode cL_law 259 = .ok (.if_icmp .eq 5, 3) := by decide +kernel
theorem dL_law_262 : decode cL_law 262 = .ok (.iconst 0, 1) := by decide +kernel
theorem dL_law_263 : decode cL_law 263 = .ok (.ireturn, 1) := by decide +kernel
theorem dL_law_264 : decode cL_law 264 = .ok (.iinc 7 1, 3) := by decide +kernel
theorem dL_law_267 : decode cL_law 267 = .ok (.goto (-80), 3) := by decide +kernel
theorem dL_law_270 : decode cL_law 270 = .ok (.iconst 0, 1) := by decide +kernel
theorem dL_law_271 : decode cL_law 271 = .ok (.istore 7, 2) := by decide +kernel
theorem dL_law_273 : decode cL_law 273 = .ok (.iload 7, 2) := by decide +kernel
theorem dL_law_275 : decode cL_law 275 = .ok (.iconst 4, 1) := by decide +kernel
theorem dL_law_276 : decode cL_law 276 = .ok (.if_icmp .ge 39, 3) := by decide +kernel
theorem dL_law_279 : decode cL_law 279 = .ok (.aload_n 1, 1) := by decide +kernel
theorem dL_law_280 : decode cL_law 280 = .ok (.iload 7, 2) := by decide +kernel
theorem dL_law_282 : decode cL_law 282 = .ok (.iconst 1, 1) := by decide +kernel
theorem dL_law_283 : decode cL_law 283 = .ok (.aload_n 0, 1) := by decide +kernel
theorem dL_law_284 : decode cL_law 284 = .ok (.iload 7, 2) := by decide +kernel
theorem dL_law_286 : decode cL_law 286 = .ok (.bipush 7, 2) := by decide +kernel
theorem dL_law_288 : decode cL_law 288 = .ok (.iadd, 1) := by decide +kernel
theorem dL_law_289 : decode cL_law 289 = .ok (.invokestatic 12, 3) := by decide +kernel
theorem dL_law_292 : decode cL_law 292 = .ok (.iconst 1, 1) := by decide +kernel
theorem dL_law_293 : decode cL_law 293 = .ok (.iload_n 2, 1) := by decide +kernel
theorem dL_law_294 : decode cL_law 294 = .ok (.ishl, 1) := by decide +kernel
theorem dL_law_295 : decode cL_law 295 = .ok (.iconst 1, 1) := by decide +kernel
theorem dL_law_296 : decode cL_law 296 = .ok (.isub, 1) := by decide +kernel
theorem dL_law_297 : decode cL_law 297 = .ok (.invokestatic 18, 3) := by decide +kernel
theorem dL_law_300 : decode cL_law 300 = .ok (.iadd, 1) := by decide +kernel
theorem dL_law_301 : decode cL_law 301 = .ok (.invokevirtual 30, 3) := by decide +kernel
theorem dL_law_304 : decode cL_law 304 = .ok (.ifCond .eq 5, 3) := by decide +kernel
theorem dL_law_307 : decode cL_law 307 = .ok (.iconst 0, 1) := by decide +kernel
theorem dL_law_308 : decode cL_law 308 = .ok (.ireturn, 1) := by decide +kernel
theorem dL_law_309 : decode cL_law 309 = .ok (.iinc 7 1, 3) := by decide +kernel
theorem dL_law_312 : decode cL_law 312 = .ok (.goto (-39), 3) := by decide +kernel
theorem dL_law_315 : decode cL_law 315 = .ok (.iconst 0, 1) := by decide +kernel
theorem dL_law_316 : decode cL_law 316 = .ok (.istore 7, 2) := by decide +kernel
theorem dL_law_318 : decode cL_law 318 = .ok (.iload 7, 2) := by decide +kernel
theorem dL_law_320 : decode cL_law 320 = .ok (.bipush 50, 2) := by decide +kernel
theorem dL_law_322 : decode cL_law 322 = .ok (.if_icmp .ge 547, 3) := by decide +kernel
theorem dL_law_325 : decode cL_law 325 = .ok (.aload_n 0, 1) := by decide +kernel
theorem dL_law_326 : decode cL_law 326 = .ok (.iload 7, 2) := by decide +kernel
theorem dL_law_328 : decode cL_law 328 = .ok (.bipush 16, 2) := by decide +kernel
theorem dL_law_330 : decode cL_law 330 = .ok (.irem, 1) := by decide +kernel
theorem dL_law_331 : decode cL_law 331 = .ok (.invokestatic 12, 3) := by decide +kernel
theorem dL_law_334 : decode cL_law 334 = .ok (.iload 7, 2) := by decide +kernel
theorem dL_law_336 : decode cL_law 336 = .ok (.bipush 16, 2) := by decide +kernel
theorem dL_law_338 : decode cL_law 338 = .ok (.idiv, 1) := by decide +kernel
theorem dL_law_339 : decode cL_law 339 = .ok (.iconst 2, 1) := by decide +kernel
theorem dL_law_340 : decode cL_law 340 = .ok (.imul, 1) := by decide +kernel
theorem dL_law_341 : decode cL_law 341 = .ok (.ishr, 1) := by decide +kernel
theorem dL_law_342 : decode cL_law 342 = .ok (.bipush 7, 2) := by decide +kernel
theorem dL_law_344 : decode cL_law 344 = .ok (.iload 7, 2) := by decide +kernel
theorem dL_law_346 : decode cL_law 346 = .ok (.imul, 1) := by decide +kernel
theorem dL_law_347 : decode cL_law 347 = .ok (.iadd, 1) := by decide +kernel
theorem dL_law_348 : decode cL_law 348 = .ok (.istore 8, 2) := by decide +kernel
theorem dL_law_350 : decode cL_law 350 = .ok (.aload_n 1, 1) := by decide +kernel
theorem dL_law_351 : decode cL_law 351 = .ok (.bipush 10, 2) := by decide +kernel
theorem dL_law_353 : decode cL_law 353 = .ok (.invokevirtual 33, 3) := by decide +kernel
theorem dL_law_356 : decode cL_law 356 = .ok (.istore 9, 2) := by decide +kernel
theorem dL_law_358 : decode cL_law 358 = .ok (.aload_n 1, 1) := by decide +kernel
theorem dL_law_359 : decode cL_law 359 = .ok (.iconst 4, 1) := by decide +kernel
theorem dL_law_360 : decode cL_law 360 = .ok (.invokevirtual 33, 3) := by decide +kernel
theorem dL_law_363 : decode cL_law 363 = .ok (.istore 10, 2) := by decide +kernel
theorem dL_law_365 : decode cL_law 365 = .ok (.iload 8, 2) := by decide +kernel
theorem dL_law_367 : decode cL_law 367 = .ok (.bipush 9, 2) := by decide +kernel
theorem dL_law_369 : decode cL_law 369 = .ok (.invokestatic 18, 3) := by decide +kernel
theorem dL_law_372 : decode cL_law 372 = .ok (.tableswitch 343 0 4 #[36, 75, 146, 183, 241], 36) := by decide +kernel
theorem dL_law_408 : decode cL_law 408 = .ok (.iload 10, 2) := by decide +kernel
theorem dL_law_410 : decode cL_law 410 = .ok (.bipush 8, 2) := by decide +kernel
theorem dL_law_412 : decode cL_law 412 = .ok (.if_icmp .ge 437, 3) := by decide +kernel
theorem dL_law_415 : decode cL_law 415 = .ok (.aload_n 1, 1) := by decide +kernel
theorem dL_law_416 : decode cL_law 416 = .ok (.iload 8, 2) := by decide +kernel
theorem dL_law_418 : decode cL_law 418 = .ok (.iconst 2, 1) := by decide +kernel
theorem dL_law_419 : decode cL_law 419 = .ok (.ishr, 1) := by decide +kernel
theorem dL_law_420 : decode cL_law 420 = .ok (.iconst 4, 1) := by decide +kernel
theorem dL_law_421 : decode cL_law 421 = .ok (.invokestatic 18, 3) := by decide +kernel
theorem dL_law_424 : decode cL_law 424 = .ok (.iload 9, 2) := by decide +kernel
theorem dL_law_426 : decode cL_law 426 = .ok (.iconst 1, 1) := by decide +kernel
theorem dL_law_427 : decode cL_law 427 = .ok (.iadd, 1) := by decide +kernel
theorem dL_law_428 : decode cL_law 428 = .ok (.iload 8, 2) := by decide +kernel
theorem dL_law_430 : decode cL_law 430 = .ok (.iconst 4, 1) := by decide +kernel
theorem dL_law_431 : decode cL_law 431 = .ok (.ishr, 1) := by decide +kernel
theorem dL_law_432 : decode cL_law 432 = .ok (.iconst 3, 1) := by decide +kernel
theorem dL_law_433 : decode cL_law 433 = .ok (.invokestatic 18, 3) := by decide +kernel
theorem dL_law_436 : decode cL_law 436 = .ok (.iadd, 1) := by decide +kernel
theorem dL_law_437 : decode cL_law 437 = .ok (.invokevirtual 36, 3) := by decide +kernel
theorem dL_law_440 : decode cL_law 440 = .ok (.iload 10, 2) := by decide +kernel
theorem dL_law_442 : decode cL_law 442 = .ok (.if_icmp .eq 407, 3) := by decide +kernel
theorem dL_law_445 : decode cL_law 445 = .ok (.iconst 0, 1) := by decide +kernel
theorem dL_law_446 : decode cL_law 446 = .ok (.ireturn, 1) := by decide +kernel
theorem dL_law_447 : decode cL_law 447 = .ok (.iload 8, 2) := by decide +kernel
theorem dL_law_449 : decode cL_law 449 = .ok (.iconst 2, 1) := by decide +kernel
theorem dL_law_450 : decode cL_law 450 = .ok (.ishr, 1) := by decide +kernel
theorem dL_law_451 : decode cL_law 451 = .ok (.iload_n 2, 1) := by decide +kernel
theorem dL_law_452 : decode cL_law 452 = .ok (.invokestatic 18, 3) := by decide +kernel
theorem dL_law_455 : decode cL_law 455 = .ok (.istore 11, 2) := by decide +kernel
theorem dL_law_457 : decode cL_law 457 = .ok (.aload_n 3, 1) := by decide +kernel
theorem dL_law_458 : decode cL_law 458 = .ok (.iload 11, 2) := by decide +kernel
theorem dL_law_460 : decode cL_law 460 = .ok (.iaload, 1) := by decide +kernel
theorem dL_law_461 : decode cL_law 461 = .ok (.iconst 2, 1) := by decide +kernel
theorem dL_law_462 : decode cL_law 462 = .ok (.if_icmp .ne 387, 3) := by decide +kernel
theorem dL_law_465 : decode cL_law 465 = .ok (.aload_n 1, 1) := by decide +kernel
theorem dL_law_466 : decode cL_law 466 = .ok (.iconst 3, 1) := by decide +kernel
theorem dL_law_467 : decode cL_law 467 = .ok (.invokevirtual 33, 3) := by decide +kernel
theorem dL_law_470 : decode cL_law 470 = .ok (.bipush 20, 2) := by decide +kernel
theorem dL_law_472 : decode cL_law 472 = .ok (.if_icmp .ge 377, 3) := by decide +kernel
theorem dL_law_475 : decode cL_law 475 = .ok (.aload_n 1, 1) := by decide +kernel
theorem dL_law_476 : decode cL_law 476 = .ok (.iload 11, 2) := by decide +kernel
theorem dL_law_478 : decode cL_law 478 = .ok (.iload 9, 2) := by decide +kernel
theorem dL_law_480 : decode cL_law 480 = .ok (.iconst 1, 1) := by decide +kernel
theorem dL_law_481 : decode cL_law 481 = .ok (.iadd, 1) := by decide +kernel
theorem dL_law_482 : decode cL_law 482 = .ok (.iload 8, 2) := by decide +kernel
theorem dL_law_484 : decode cL_law 484 = .ok (.iconst 4, 1) := by decide +kernel
theorem dL_law_485 : decode cL_law 485 = .ok (.ishr, 1) := by decide +kernel
theorem dL_law_486 : decode cL_law 486 = .ok (.bipush 9, 2) := by decide +kernel
theorem dL_law_488 : decode cL_law 488 = .ok (.invokestatic 18, 3) := by decide +kernel
theorem dL_law_491 : decode cL_law 491 = .ok (.iadd, 1) := by decide +kernel
theorem dL_law_492 : decode cL_law 492 = .ok (.iconst 1, 1) := by decide +kernel
theorem dL_law_493 : decode cL_law 493 = .ok (.iload 8, 2) := by decide +kernel
theorem dL_law_495 : decode cL_law 495 = .ok (.bipush 6, 2) := by decide +kernel
theorem dL_law_497 : decode cL_law 497 = .ok (.ishr, 1) := by decide +kernel
theorem dL_law_498 : decode cL_law 498 = .ok (.iconst 3, 1) := by decide +kernel
theorem dL_law_499 : decode cL_law 499 = .ok (.invokestatic 18, 3) := by decide +kernel
theorem dL_law_502 : decode cL_law 502 = .ok (.iadd, 1) := by decide +kernel
theorem dL_law_503 : decode cL_law 503 = .ok (.invokevirtual 39, 3) := by decide +kernel
theorem dL_law_506 : decode cL_law 506 = .ok (.aload_n 1, 1) := by decide +kernel
theorem dL_law_507 : decode cL_law 507 = .ok (.iconst 3, 1) := by decide +kernel
theorem dL_law_508 : decode cL_law 508 = .ok (.invokevirtual 33, 3) := by decide +kernel
theorem dL_law_511 : decode cL_law 511 = .ok (.iconst 1, 1) := by decide +kernel
theorem dL_law_512 : decode cL_law 512 = .ok (.isub, 1) := by decide +kernel
theorem dL_law_513 : decode cL_law 513 = .ok (.if_icmp .eq 336, 3) := by decide +kernel
theorem dL_law_516 : decode cL_law 516 = .ok (.iconst 0, 1) := by decide +kernel
theorem dL_law_517 : decode cL_law 517 = .ok (.ireturn, 1) := by decide +kernel
theorem dL_law_518 : decode cL_law 518 = .ok (.aload_n 1, 1) := by decide +kernel
theorem dL_law_519 : decode cL_law 519 = .ok (.iload 8, 2) := by decide +kernel
theorem dL_law_521 : decode cL_law 521 = .ok (.iconst 2, 1) := by decide +kernel
theorem dL_law_522 : decode cL_law 522 = .ok (.ishr, 1) := by decide +kernel
theorem dL_law_523 : decode cL_law 523 = .ok (.iconst 2, 1) := by decide +kernel
theorem dL_law_524 : decode cL_law 524 = .ok (.invokestatic 18, 3) := by decide +kernel
theorem dL_law_527 : decode cL_law 527 = .ok (.iconst 0, 1) := by decide +kernel
theorem dL_law_528 : decode cL_law 528 = .ok (.invokevirtual 43, 3) := by decide +kernel
theorem dL_law_531 : decode cL_law 531 = .ok (.istore 12, 2) := by decide +kernel
theorem dL_law_533 : decode cL_law 533 = .ok (.aload_n 1, 1) := by decide +kernel
theorem dL_law_534 : decode cL_law 534 = .ok (.iload 8, 2) := by decide +kernel
theorem dL_law_536 : decode cL_law 536 = .ok (.iconst 2, 1) := by decide +kernel
theorem dL_law_537 : decode cL_law 537 = .ok (.ishr, 1) := by decide +kernel
theorem dL_law_538 : decode cL_law 538 = .ok (.iconst 2, 1) := by decide +kernel
theorem dL_law_539 : decode cL_law 539 = .ok (.invokestatic 18, 3) := by decide +kernel
theorem dL_law_542 : decode cL_law 542 = .ok (.iconst 1, 1) := by decide +kernel
theorem dL_law_543 : decode cL_law 543 = .ok (.invokevirtual 46, 3) := by decide +kernel
theorem dL_law_546 : decode cL_law 546 = .ok (.iload 12, 2) := by decide +kernel
theorem dL_law_548 : decode cL_law 548 = .ok (.iconst 1, 1) := by decide +kernel
theorem dL_law_549 : decode cL_law 549 = .ok (.iadd, 1) := by decide +kernel
theorem dL_law_550 : decode cL_law 550 = .ok (.if_icmp .eq 299, 3) := by decide +kernel
theorem dL_law_553 : decode cL_law 553 = .ok (.iconst 0, 1) := by decide +kernel
theorem dL_law_554 : decode cL_law 554 = .ok (.ireturn, 1) := by decide +kernel
theorem dL_law_555 : decode cL_law 555 = .ok (.aload_n 1, 1) := by decide +kernel
theorem dL_law_556 : decode cL_law 556 = .ok (.iconst 2, 1) := by decide +kernel
theorem dL_law_557 : decode cL_law 557 = .ok (.invokevirtual 33, 3) := by decide +kernel
theorem dL_law_560 : decode cL_law 560 = .ok (.bipush 20, 2) := by decide +kernel
theorem dL_law_562 : decode cL_law 562 = .ok (.if_icmp .ge 287, 3) := by decide +kernel
theorem dL_law_565 : decode cL_law 565 = .ok (.aload_n 1, 1) := by decide +kernel
theorem dL_law_566 : decode cL_law 566 = .ok (.iload 8, 2) := by decide +kernel
theorem dL_law_568 : decode cL_law 568 = .ok (.iconst 2, 1) := by decide +kernel
theorem dL_law_569 : decode cL_law 569 = .ok (.ishr, 1) := by decide +kernel
theorem dL_law_570 : decode cL_law 570 = .ok (.iconst 2, 1) := by decide +kernel
theorem dL_law_571 : decode cL_law 571 = .ok (.invokestatic 18, 3) := by decide +kernel
theorem dL_law_574 : decode cL_law 574 = .ok (.iconst 1, 1) := by decide +kernel
theorem dL_law_575 : decode cL_law 575 = .ok (.iload 8, 2) := by decide +kernel
theorem dL_law_577 : decode cL_law 577 = .ok (.iconst 3, 1) := by decide +kernel
theorem dL_law_578 : decode cL_law 578 = .ok (.ishr, 1) := by decide +kernel
theorem dL_law_579 : decode cL_law 579 = .ok (.iconst 3, 1) := by decide +kernel
theorem dL_law_580 : decode cL_law 580 = .ok (.invokestatic 18, 3) := by decide +kernel
theorem dL_law_583 : decode cL_law 583 = .ok (.iadd, 1) := by decide +kernel
theorem dL_law_584 : decode cL_law 584 = .ok (.iload 9, 2) := by decide +kernel
theorem dL_law_586 : decode cL_law 586 = .ok (.iconst 1, 1) := by decide +kernel
theorem dL_law_587 : decode cL_law 587 = .ok (.iadd, 1) := by decide +kernel
theorem dL_law_588 : decode cL_law 588 = .ok (.iload 8, 2) := by decide +kernel
theorem dL_law_590 : decode cL_law 590 = .ok (.iconst 4, 1) := by decide +kernel
theorem dL_law_591 : decode cL_law 591 = .ok (.ishr, 1) := by decide +kernel
theorem dL_law_592 : decode cL_law 592 = .ok (.bipush 6, 2) := by decide +kernel
theorem dL_law_594 : decode cL_law 594 = .ok (.invokestatic 18, 3) := by decide +kernel
theorem dL_law_597 : decode cL_law 597 = .ok (.iadd, 1) := by decide +kernel
theorem dL_law_598 : decode cL_law 598 = .ok (.invokevirtual 49, 3) := by decide +kernel
theorem dL_law_601 : decode cL_law 601 = .ok (.aload_n 1, 1) := by decide +kernel
theorem dL_law_602 : decode cL_law 602 = .ok (.iconst 2, 1) := by decide +kernel
theorem dL_law_603 : decode cL_law 603 = .ok (.invokevirtual 33, 3) := by decide +kernel
theorem dL_law_606 : decode cL_law 606 = .ok (.iconst 1, 1) := by decide +kernel
theorem dL_law_607 : decode cL_law 607 = .ok (.isub, 1) := by decide +kernel
theorem dL_law_608 : decode cL_law 608 = .ok (.if_icmp .eq 241, 3) := by decide +kernel
theorem dL_law_611 : decode cL_law 611 = .ok (.iconst 0, 1) := by decide +kernel
theorem dL_law_612 : decode cL_law 612 = .ok (.ireturn, 1) := by decide +kernel
theorem dL_law_613 : decode cL_law 613 = .ok (.iload 10, 2) := by decide +kernel
theorem dL_law_615 : decode cL_law 615 = .ok (.ifCond .ne 7, 3) := by decide +kernel
theorem dL_law_618 : decode cL_law 618 = .ok (.iconst (-1), 1) := by decide +kernel
theorem dL_law_619 : decode cL_law 619 = .ok (.goto 12, 3) := by decide +kernel
theorem dL_law_622 : decode cL_law 622 = .ok (.iload 8, 2) := by decide +kernel
theorem dL_law_624 : decode cL_law 624 = .ok (.iconst 2, 1) := by decide +kernel
theorem dL_law_625 : decode cL_law 625 = .ok (.ishr, 1) := by decide +kernel
theorem dL_law_626 : decode cL_law 626 = .ok (.iload 10, 2) := by decide +kernel
theorem dL_law_628 : decode cL_law 628 = .ok (.invokestatic 18, 3) := by decide +kernel
theorem dL_law_631 : decode cL_law 631 = .ok (.istore 13, 2) := by decide +kernel
theorem dL_law_633 : decode cL_law 633 = .ok (.iload 13, 2) := by decide +kernel
theorem dL_law_635 : decode cL_law 635 = .ok (.ifCond .lt 214, 3) := by decide +kernel
theorem dL_law_638 : decode cL_law 638 = .ok (.iload 8, 2) := by decide +kernel
theorem dL_law_640 : decode cL_law 640 = .ok (.iconst 5, 1) := by decide +kernel
theorem dL_law_641 : decode cL_law 641 = .ok (.ishr, 1) := by decide +kernel
theorem dL_law_642 : decode cL_law 642 = .ok (.iconst 3, 1) := by decide +kernel
theorem dL_law_643 : decode cL_law 643 = .ok (.invokestatic 18, 3) := by decide +kernel
theorem dL_law_646 : decode cL_law 646 = .ok (.ifCond .gt 203, 3) := by decide +kernel
theorem dL_law_649 : decode cL_law 649 = .ok (.aload_n 1, 1) := by decide +kernel
theorem dL_law_650 : decode cL_law 650 = .ok (.iload 13, 2) := by decide +kernel
theorem dL_law_652 : decode cL_law 652 = .ok (.iconst 5, 1) := by decide +kernel
theorem dL_law_653 : decode cL_law 653 = .ok (.invokevirtual 52, 3) := by decide +kernel
theorem dL_law_656 : decode cL_law 656 = .ok (.iconst 1, 1) := by decide +kernel
theorem dL_law_657 : decode cL_law 657 = .ok (.if_icmp .ne 6, 3) := by decide +kernel
theorem dL_law_660 : decode cL_law 660 = .ok (.goto 189, 3) := by decide +kernel
theorem dL_law_663 : decode cL_law 663 = .ok (.aload_n 1, 1) := by decide +kernel
theorem dL_law_664 : decode cL_law 664 = .ok (.iload 13, 2) := by decide +kernel
theorem dL_law_666 : decode cL_law 666 = .ok (.iconst 2, 1) := by decide +kernel
theorem dL_law_667 : decode cL_law 667 = .ok (.invokevirtual 52, 3) := by decide +kernel
theorem dL_law_670 : decode cL_law 670 = .ok (.aload_n 1, 1) := by decide +kernel
theorem dL_law_671 : decode cL_law 671 = .ok (.iload 13, 2) := by decide +kernel
theorem dL_law_673 : decode cL_law 673 = .ok (.iconst 3, 1) := by decide +kernel
theorem dL_law_674 : decode cL_law 674 = .ok (.invokevirtual 52, 3) := by decide +kernel
theorem dL_law_677 : decode cL_law 677 = .ok (.iadd, 1) := by decide +kernel
theorem dL_law_678 : decode cL_law 678 = .ok (.istore 14, 2) := by decide +kernel
theorem dL_law_680 : decode cL_law 680 = .ok (.aload_n 1, 1) := by decide +kernel
theorem dL_law_681 : decode cL_law 681 = .ok (.iload 13, 2) := by decide +kernel
theorem dL_law_683 : decode cL_law 683 = .ok (.invokevirtual 55, 3) := by decide +kernel
theorem dL_law_686 : decode cL_law 686 = .ok (.iload 14, 2) := by decide +kernel
theorem dL_law_688 : decode cL_law 688 = .ok (.if_icmp .ne 25, 3) := by decide +kernel
theorem dL_law_691 : decode cL_law 691 = .ok (.aload_n 1, 1) := by decide +kernel
theorem dL_law_692 : decode cL_law 692 = .ok (.iload 13, 2) := by decide +kernel
theorem dL_law_694 : decode cL_law 694 = .ok (.bipush 6, 2) := by decide +kernel
theorem dL_law_696 : decode cL_law 696 = .ok (.invokevirtual 52, 3) := by decide +kernel
theorem dL_law_699 : decode cL_law 699 = .ok (.iconst (-1), 1) := by decide +kernel
theorem dL_law_700 : decode cL_law 700 = .ok (.if_icmp .ne 13, 3) := by decide +kernel
theorem dL_law_703 : decode cL_law 703 = .ok (.aload_n 1, 1) := by decide +kernel
theorem dL_law_704 : decode cL_law 704 = .ok (.iload 13, 2) := by decide +kernel
theorem dL_law_706 : decode cL_law 706 = .ok (.invokevirtual 58, 3) := by decide +kernel
theorem dL_law_709 : decode cL_law 709 = .ok (.iconst (-1), 1) := by decide +kernel
theorem dL_law_710 : decode cL_law 710 = .ok (.if_icmp .eq 139, 3) := by decide +kernel
theorem dL_law_713 : decode cL_law 713 = .ok (.iconst 0, 1) := by decide +kernel
theorem dL_law_714 : decode cL_law 714 = .ok (.ireturn, 1) := by decide +kernel
theorem dL_law_715 : decode cL_law 715 = .ok (.iload 10, 2) := by decide +kernel
theorem dL_law_717 : decode cL_law 717 = .ok (.newarray .int, 2) := by decide +kernel
theorem dL_law_719 : decode cL_law 719 = .ok (.astore 15, 2) := by decide +kernel
theorem dL_law_721 : decode cL_law 721 = .ok (.iconst 0, 1) := by decide +kernel
theorem dL_law_722 : decode cL_law 722 = .ok (.istore 16, 2) := by decide +kernel
theorem dL_law_724 : decode cL_law 724 = .ok (.iload 16, 2) := by decide +kernel
theorem dL_law_726 : decode cL_law 726 = .ok (.iload 10, 2) := by decide +kernel
theorem dL_law_728 : decode cL_law 728 = .ok (.if_icmp .ge 44, 3) := by decide +kernel
theorem dL_law_731 : decode cL_law 731 = .ok (.aload 15, 2) := by decide +kernel
theorem dL_law_733 : decode cL_law 733 = .ok (.iload 16, 2) := by decide +kernel
theorem dL_law_735 : decode cL_law 735 = .ok (.aload_n 1, 1) := by decide +kernel
theorem dL_law_736 : decode cL_law 736 = .ok (.iload 16, 2) := by decide +kernel
theorem dL_law_738 : decode cL_law 738 = .ok (.iconst 5, 1) := by decide +kernel
theorem dL_law_739 : decode cL_law 739 = .ok (.invokevirtual 52, 3) := by decide +kernel
theorem dL_law_742 : decode cL_law 742 = .ok (.iconst 1, 1) := by decide +kernel
theorem dL_law_743 : decode cL_law 743 = .ok (.if_icmp .ne 21, 3) := by decide +kernel
theorem dL_law_746 : decode cL_law 746 = .ok (.aload_n 1, 1) := by decide +kernel
theorem dL_law_747 : decode cL_law 747 = .ok (.iload 16, 2) := by decide +kernel
theorem dL_law_749 : decode cL_law 749 = .ok (.iconst 2, 1) := by decide +kernel
theorem dL_law_750 : decode cL_law 750 = .ok (.invokevirtual 52, 3) := by decide +kernel
theorem dL_law_753 : decode cL_law 753 = .ok (.aload_n 1, 1) := by decide +kernel
theorem dL_law_754 : decode cL_law 754 = .ok (.iload 16, 2) := by decide +kernel
theorem dL_law_756 : decode cL_law 756 = .ok (.iconst 3, 1) := by decide +kernel
theorem dL_law_757 : decode cL_law 757 = .ok (.invokevirtual 52, 3) := by decide +kernel
theorem dL_law_760 : decode cL_law 760 = .ok (.iadd, 1) := by decide +kernel
theorem dL_law_761 : decode cL_law 761 = .ok (.goto 4, 3) := by decide +kernel
theorem dL_law_764 : decode cL_law 764 = .ok (.iconst (-1), 1) := by decide +kernel
theorem dL_law_765 : decode cL_law 765 = .ok (.iastore, 1) := by decide +kernel
theorem dL_law_766 : decode cL_law 766 = .ok (.iinc 16 1, 3) := by decide +kernel
theorem dL_law_769 : decode cL_law 769 = .ok (.goto (-45), 3) := by decide +kernel
theorem dL_law_772 : decode cL_law 772 = .ok (.aload_n 1, 1) := by decide +kernel
theorem dL_law_773 : decode cL_law 773 = .ok (.invokevirtual 61, 3) := by decide +kernel
theorem dL_law_776 : decode cL_law 776 = .ok (.ifCond .lt 16, 3) := by decide +kernel
theorem dL_law_779 : decode cL_law 779 = .ok (.aload_n 1, 1) := by decide +kernel
theorem dL_law_780 : decode cL_law 780 = .ok (.bipush 10, 2) := by decide +kernel
theorem dL_law_782 : decode cL_law 782 = .ok (.invokevirtual 33, 3) := by decide +kernel
theorem dL_law_785 : decode cL_law 785 = .ok (.iload 9, 2) := by decide +kernel
theorem dL_law_787 : decode cL_law 787 = .ok (.iconst 1, 1) := by decide +kernel
theorem dL_law_788 : decode cL_law 788 = .ok (.iadd, 1) := by decide +kernel
theorem dL_law_789 : decode cL_law 789 = .ok (.if_icmp .eq 5, 3) := by decide +kernel
theorem dL_law_792 : decode cL_law 792 = .ok (.iconst 0, 1) := by decide +kernel
theorem dL_law_793 : decode cL_law 793 = .ok (.ireturn, 1) := by decide +kernel
theorem dL_law_794 : decode cL_law 794 = .ok (.iconst 0, 1) := by decide +kernel
theorem dL_law_795 : decode cL_law 795 = .ok (.istore 16, 2) := by decide +kernel
theorem dL_law_797 : decode cL_law 797 = .ok (.iload 16, 2) := by decide +kernel
theorem dL_law_799 : decode cL_law 799 = .ok (.iload 10, 2) := by decide +kernel
theorem dL_law_801 : decode cL_law 801 = .ok (.if_icmp .ge 48, 3) := by decide +kernel
theorem dL_law_804 : decode cL_law 804 = .ok (.aload 15, 2) := by decide +kernel
theorem dL_law_806 : decode cL_law 806 = .ok (.iload 16, 2) := by decide +kernel
theorem dL_law_808 : decode cL_law 808 = .ok (.iaload, 1) := by decide +kernel
theorem dL_law_809 : decode cL_law 809 = .ok (.ifCond .lt 34, 3) := by decide +kernel
theorem dL_law_812 : decode cL_law 812 = .ok (.aload_n 1, 1) := by decide +kernel
theorem dL_law_813 : decode cL_law 813 = .ok (.iload 16, 2) := by decide +kernel
theorem dL_law_815 : decode cL_law 815 = .ok (.iconst 2, 1) := by decide +kernel
theorem dL_law_816 : decode cL_law 816 = .ok (.invokevirtual 52, 3) := by decide +kernel
theorem dL_law_819 : decode cL_law 819 = .ok (.aload_n 1, 1) := by decide +kernel
theorem dL_law_820 : decode cL_law 820 = .ok (.iload 16, 2) := by decide +kernel
theorem dL_law_822 : decode cL_law 822 = .ok (.iconst 3, 1) := by decide +kernel
theorem dL_law_823 : decode cL_law 823 = .ok (.invokevirtual 52, 3) := by decide +kernel
theorem dL_law_826 : decode cL_law 826 = .ok (.iadd, 1) := by decide +kernel
theorem dL_law_827 : decode cL_law 827 = .ok (.iconst 0, 1) := by decide +kernel
theorem dL_law_828 : decode cL_law 828 = .ok (.aload 15, 2) := by decide +kernel
theorem dL_law_830 : decode cL_law 830 = .ok (.iload 16, 2) := by decide +kernel
theorem dL_law_832 : decode cL_law 832 = .ok (.iaload, 1) := by decide +kernel
theorem dL_law_833 : decode cL_law 833 = .ok (.iconst 1, 1) := by decide +kernel
theorem dL_law_834 : decode cL_law 834 = .ok (.isub, 1) := by decide +kernel
theorem dL_law_835 : decode cL_law 835 = .ok (.invokestatic 65, 3) := by decide +kernel
theorem dL_law_838 : decode cL_law 838 = .ok (.if_icmp .eq 5, 3) := by decide +kernel
theorem dL_law_841 : decode cL_law 841 = .ok (.iconst 0, 1) := by decide +kernel
theorem dL_law_842 : decode cL_law 842 = .ok (.ireturn, 1) := by decide +kernel
theorem dL_law_843 : decode cL_law 843 = .ok (.iinc 16 1, 3) := by decide +kernel
theorem dL_law_846 : decode cL_law 846 = .ok (.goto (-49), 3) := by decide +kernel
theorem dL_law_849 : decode cL_law 849 = .ok (.aload_n 1, 1) := by decide +kernel
theorem dL_law_850 : decode cL_law 850 = .ok (.aload_n 3, 1) := by decide +kernel
theorem dL_law_851 : decode cL_law 851 = .ok (.aload 4, 2) := by decide +kernel
theorem dL_law_853 : decode cL_law 853 = .ok (.aload 6, 2) := by decide +kernel
theorem dL_law_855 : decode cL_law 855 = .ok (.invokestatic 70, 3) := by decide +kernel
theorem dL_law_858 : decode cL_law 858 = .ok (.ifCond .ne 5, 3) := by decide +kernel
theorem dL_law_861 : decode cL_law 861 = .ok (.iconst 0, 1) := by decide +kernel
theorem dL_law_862 : decode cL_law 862 = .ok (.ireturn, 1) := by decide +kernel
theorem dL_law_863 : decode cL_law 863 = .ok (.iinc 7 1, 3) := by decide +kernel
theorem dL_law_866 : decode cL_law 866 = .ok (.goto (-548), 3) := by decide +kernel
theorem dL_law_869 : decode cL_law 869 = .ok (.aload_n 1, 1) := by decide +kernel
theorem dL_law_870 : decode cL_law 870 = .ok (.invokevirtual 74, 3) := by decide +kernel
theorem dL_law_873 : decode cL_law 873 = .ok (.lstore 7, 2) := by decide +kernel
theorem dL_law_875 : decode cL_law 875 = .ok (.iconst 0, 1) := by decide +kernel
theorem dL_law_876 : decode cL_law 876 = .ok (.istore 9, 2) := by decide +kernel
theorem dL_law_878 : decode cL_law 878 = .ok (.iload 9, 2) := by decide +kernel
theorem dL_law_880 : decode cL_law 880 = .ok (.aload_n 1, 1) := by decide +kernel
theorem dL_law_881 : decode cL_law 881 = .ok (.iconst 4, 1) := by decide +kernel
theorem dL_law_882 : decode cL_law 882 = .ok (.invokevirtual 33, 3) := by decide +kernel
theorem dL_law_885 : decode cL_law 885 = .ok (.if_icmp .ge 105, 3) := by decide +kernel
theorem dL_law_888 : decode cL_law 888 = .ok (.iconst 0, 1) := by decide +kernel
theorem dL_law_889 : decode cL_law 889 = .ok (.istore 10, 2) := by decide +kernel
theorem dL_law_891 : decode cL_law 891 = .ok (.iload 10, 2) := by decide +kernel
theorem dL_law_893 : decode cL_law 893 = .ok (.iload 5, 2) := by decide +kernel
theorem dL_law_895 : decode cL_law 895 = .ok (.if_icmp .ge 89, 3) := by decide +kernel
theorem dL_law_898 : decode cL_law 898 = .ok (.aload_n 1, 1) := by decide +kernel
theorem dL_law_899 : decode cL_law 899 = .ok (.iload 9, 2) := by decide +kernel
theorem dL_law_901 : decode cL_law 901 = .ok (.iload 10, 2) := by decide +kernel
theorem dL_law_903 : decode cL_law 903 = .ok (.invokevirtual 78, 3) := by decide +kernel
theorem dL_law_906 : decode cL_law 906 = .ok (.istore 11, 2) := by decide +kernel
theorem dL_law_908 : decode cL_law 908 = .ok (.iload 11, 2) := by decide +kernel
theorem dL_law_910 : decode cL_law 910 = .ok (.ifCond .lt 21, 3) := by decide +kernel
theorem dL_law_913 : decode cL_law 913 = .ok (.aload 6, 2) := by decide +kernel
theorem dL_law_915 : decode cL_law 915 = .ok (.iload 10, 2) := by decide +kernel
theorem dL_law_917 : decode cL_law 917 = .ok (.iaload, 1) := by decide +kernel
theorem dL_law_918 : decode cL_law 918 = .ok (.aload_n 1, 1) := by decide +kernel
theorem dL_law_919 : decode cL_law 919 = .ok (.iload 9, 2) := by decide +kernel
theorem dL_law_921 : decode cL_law 921 = .ok (.iconst 0, 1) := by decide +kernel
theorem dL_law_922 : decode cL_law 922 = .ok (.invokevirtual 52, 3) := by decide +kernel
theorem dL_law_925 : decode cL_law 925 = .ok (.iconst (-1), 1) := by decide +kernel
theorem dL_law_926 : decode cL_law 926 = .ok (.ixor, 1) := by decide +kernel
theorem dL_law_927 : decode cL_law 927 = .ok (.iand, 1) := by decide +kernel
theorem dL_law_928 : decode cL_law 928 = .ok (.ifCond .ne 48, 3) := by decide +kernel
theorem dL_law_931 : decode cL_law 931 = .ok (.iload 11, 2) := by decide +kernel
theorem dL_law_933 : decode cL_law 933 = .ok (.ifCond .lt 45, 3) := by decide +kernel
theorem dL_law_936 : decode cL_law 936 = .ok (.aload_n 1, 1) := by decide +kernel
theorem dL_law_937 : decode cL_law 937 = .ok (.iload 9, 2) := by decide +kernel
theorem dL_law_939 : decode cL_law 939 = .ok (.iconst 4, 1) := by decide +kernel
theorem dL_law_940 : decode cL_law 940 = .ok (.invokevirtual 52, 3) := by decide +kernel
theorem dL_law_943 : decode cL_law 943 = .ok (.iload 10, 2) := by decide +kernel
theorem dL_law_945 : decode cL_law 945 = .ok (.ishr, 1) := by decide +kernel
theorem dL_law_946 : decode cL_law 946 = .ok (.iconst 1, 1) := by decide +kernel
theorem dL_law_947 : decode cL_law 947 = .ok (.iand, 1) := by decide +kernel
theorem dL_law_948 : decode cL_law 948 = .ok (.iconst 1, 1) := by decide +kernel
theorem dL_law_949 : decode cL_law 949 = .ok (.if_icmp .ne 7, 3) := by decide +kernel
theorem dL_law_952 : decode cL_law 952 = .ok (.iconst 1, 1) := by decide +kernel
theorem dL_law_953 : decode cL_law 953 = .ok (.goto 4, 3) := by decide +kernel
theorem dL_law_956 : decode cL_law 956 = .ok (.iconst 0, 1) := by decide +kernel
theorem dL_law_957 : decode cL_law 957 = .ok (.iload 11, 2) := by decide +kernel
theorem dL_law_959 : decode cL_law 959 = .ok (.aload_n 1, 1) := by decide +kernel
theorem dL_law_960 : decode cL_law 960 = .ok (.bipush 10, 2) := by decide +kernel
theorem dL_law_962 : decode cL_law 962 = .ok (.invokevirtual 33, 3) := by decide +kernel
theorem dL_law_965 : decode cL_law 965 = .ok (.if_icmp .gt 7, 3) := by decide +kernel
theorem dL_law_968 : decode cL_law 968 = .ok (.iconst 1, 1) := by decide +kernel
theorem dL_law_969 : decode cL_law 969 = .ok (.goto 4, 3) := by decide +kernel
theorem dL_law_972 : decode cL_law 972 = .ok (.iconst 0, 1) := by decide +kernel
theorem dL_law_973 : decode cL_law 973 = .ok (.if_icmp .eq 5, 3) := by decide +kernel
theorem dL_law_976 : decode cL_law 976 = .ok (.iconst 0, 1) := by decide +kernel
theorem dL_law_977 : decode cL_law 977 = .ok (.ireturn, 1) := by decide +kernel
theorem dL_law_978 : decode cL_law 978 = .ok (.iinc 10 1, 3) := by decide +kernel
theorem dL_law_981 : decode cL_law 981 = .ok (.goto (-90), 3) := by decide +kernel
theorem dL_law_984 : decode cL_law 984 = .ok (.iinc 9 1, 3) := by decide +kernel
theorem dL_law_987 : decode cL_law 987 = .ok (.goto (-109), 3) := by decide +kernel
theorem dL_law_990 : decode cL_law 990 = .ok (.aload_n 1, 1) := by decide +kernel
theorem dL_law_991 : decode cL_law 991 = .ok (.invokevirtual 74, 3) := by decide +kernel
theorem dL_law_994 : decode cL_law 994 = .ok (.lload 7, 2) := by decide +kernel
theorem dL_law_996 : decode cL_law 996 = .ok (.lcmp, 1) := by decide +kernel
theorem dL_law_997 : decode cL_law 997 = .ok (.ifCond .ne 7, 3) := by decide +kernel
theorem dL_law_1000 : decode cL_law 1000 = .ok (.iconst 1, 1) := by decide +kernel
theorem dL_law_1001 : decode cL_law 1001 = .ok (.goto 4, 3) := by decide +kernel
theorem dL_law_1004 : decode cL_law 1004 = .ok (.iconst 0, 1) := by decide +kernel
theorem dL_law_1005 : decode cL_law 1005 = .ok (.ireturn, 1) := by decide +kernel
theorem dL_isFair_0 : decode cL_isFair 0 = .ok (.aload_n 0, 1) := by decide +kernel
theorem dL_isFair_1 : decode cL_isFair 1 = .ok (.bipush 10, 2) := by decide +kernel
theorem dL_isFair_3 : decode cL_isFair 3 = .ok (.invokevirtual 33, 3) := by decide +kernel
theorem dL_isFair_6 : decode cL_isFair 6 = .ok (.istore 4, 2) := by decide +kernel
theorem dL_isFair_8 : decode cL_isFair 8 = .ok (.iconst 0, 1) := by decide +kernel
theorem dL_isFair_9 : decode cL_isFair 9 = .ok (.istore 5, 2) := by decide +kernel
theorem dL_isFair_11 : decode cL_isFair 11 = .ok (.iconst 0, 1) := by decide +kernel
theorem dL_isFair_12 : decode cL_isFair 12 = .ok (.istore 6, 2) := by decide +kernel
theorem dL_isFair_14 : decode cL_isFair 14 = .ok (.iconst 0, 1) := by decide +kernel
theorem dL_isFair_15 : decode cL_isFair 15 = .ok (.istore 7, 2) := by decide +kernel
theorem dL_isFair_17 : decode cL_isFair 17 = .ok (.iload 7, 2) := by decide +kernel
theorem dL_isFair_19 : decode cL_isFair 19 = .ok (.aload_n 0, 1) := by decide +kernel
theorem dL_isFair_20 : decode cL_isFair 20 = .ok (.iconst 4, 1) := by decide +kernel
theorem dL_isFair_21 : decode cL_isFair 21 = .ok (.invokevirtual 33, 3) := by decide +kernel
theorem dL_isFair_24 : decode cL_isFair 24 = .ok (.if_icmp .ge 542, 3) := by decide +kernel
theorem dL_isFair_27 : decode cL_isFair 27 = .ok (.aload_n 0, 1) := by decide +kernel
theorem dL_isFair_28 : decode cL_isFair 28 = .ok (.iload 7, 2) := by decide +kernel
theorem dL_isFair_30 : decode cL_isFair 30 = .ok (.iconst 0, 1) := by decide +kernel
theorem dL_isFair_31 : decode cL_isFair 31 = .ok (.invokevirtual 52, 3) := by decide +kernel
theorem dL_isFair_34 : decode cL_isFair 34 = .ok (.istore 8, 2) := by decide +kernel
theorem dL_isFair_36 : decode cL_isFair 36 = .ok (.aload_n 0, 1) := by decide +kernel
theorem dL_isFair_37 : decode cL_isFair 37 = .ok (.iload 7, 2) := by decide +kernel
theorem dL_isFair_39 : decode cL_isFair 39 = .ok (.iconst 5, 1) := by decide +kernel
theorem dL_isFair_40 : decode cL_isFair 40 = .ok (.invokevirtual 52, 3) := by decide +kernel
theorem dL_isFair_43 : decode cL_isFair 43 = .ok (.iconst 1, 1) := by decide +kernel
theorem dL_isFair_44 : decode cL_isFair 44 = .ok (.if_icmp .ne 7, 3) := by decide +kernel
theorem dL_isFair_47 : decode cL_isFair 47 = .ok (.iconst 1, 1) := by decide +kernel
theorem dL_isFair_48 : decode cL_isFair 48 = .ok (.goto 4, 3) := by decide +kernel
theorem dL_isFair_51 : decode cL_isFair 51 = .ok (.iconst 0, 1) := by decide +kernel
theorem dL_isFair_52 : decode cL_isFair 52 = .ok (.istore 9, 2) := by decide +kernel
theorem dL_isFair_54 : decode cL_isFair 54 = .ok (.iconst 0, 1) := by decide +kernel
theorem dL_isFair_55 : decode cL_isFair 55 = .ok (.istore 10, 2) := by decide +kernel
theorem dL_isFair_57 : decode cL_isFair 57 = .ok (.iconst (-1), 1) := by decide +kernel
theorem dL_isFair_58 : decode cL_isFair 58 = .ok (.istore 11, 2) := by decide +kernel
theorem dL_isFair_60 : decode cL_isFair 60 = .ok (.iconst 1, 1) := by decide +kernel
theorem dL_isFair_61 : decode cL_isFair 61 = .ok (.istore 12, 2) := by decide +kernel
theorem dL_isFair_63 : decode cL_isFair 63 = .ok (.iconst 0, 1) := by decide +kernel
theorem dL_isFair_64 : decode cL_isFair 64 = .ok (.istore 13, 2) := by decide +kernel
theorem dL_isFair_66 : decode cL_isFair 66 = .ok (.iload 13, 2) := by decide +kernel
theorem dL_isFair_68 : decode cL_isFair 68 = .ok (.aload_n 1, 1) := by decide +kernel
theorem dL_isFair_69 : decode cL_isFair 69 = .ok (.arraylength, 1) := by decide +kernel
theorem dL_isFair_70 : decode cL_isFair 70 = .ok (.if_icmp .ge 380, 3) := by decide +kernel
theorem dL_isFair_73 : decode cL_isFair 73 = .ok (.iload 8, 2) := by decide +kernel
theorem dL_isFair_75 : decode cL_isFair 75 = .ok (.iload 13, 2) := by decide +kernel
theorem dL_isFair_77 : decode cL_isFair 77 = .ok (.ishr, 1) := by decide +kernel
theorem dL_isFair_78 : decode cL_isFair 78 = .ok (.iconst 1, 1) := by decide +kernel
theorem dL_isFair_79 : decode cL_isFair 79 = .ok (.iand, 1) := by decide +kernel
theorem dL_isFair_80 : decode cL_isFair 80 = .ok (.ifCond .ne 6, 3) := by decide +kernel
theorem dL_isFair_83 : decode cL_isFair 83 = .ok (.goto 361, 3) := by decide +kernel
theorem dL_isFair_86 : decode cL_isFair 86 = .ok (.aload_n 0, 1) := by decide +kernel
theorem dL_isFair_87 : decode cL_isFair 87 = .ok (.iload 7, 2) := by decide +kernel
theorem dL_isFair_89 : decode cL_isFair 89 = .ok (.iload 13, 2) := by decide +kernel
theorem dL_isFair_91 : decode cL_isFair 91 = .ok (.iconst 0, 1) := by decide +kernel
theorem dL_isFair_92 : decode cL_isFair 92 = .ok (.invokevirtual 81, 3) := by decide +kernel
theorem dL_isFair_95 : decode cL_isFair 95 = .ok (.istore 14, 2) := by decide +kernel
theorem dL_isFair_97 : decode cL_isFair 97 = .ok (.aload_n 0, 1) := by decide +kernel
theorem dL_isFair_98 : decode cL_isFair 98 = .ok (.iload 7, 2) := by decide +kernel
theorem dL_isFair_100 : decode cL_isFair 100 = .ok (.iload 13, 2) := by decide +kernel
theorem dL_isFair_102 : decode cL_isFair 102 = .ok (.iconst 1, 1) := by decide +kernel
theorem dL_isFair_103 : decode cL_isFair 103 = .ok (.invokevirtual 81, 3) := by decide +kernel
theorem dL_isFair_106 : decode cL_isFair 106 = .ok (.istore 15, 2) := by decide +kernel
theorem dL_isFair_108 : decode cL_isFair 108 = .ok (.aload_n 0, 1) := by decide +kernel
theorem dL_isFair_109 : decode cL_isFair 109 = .ok (.iload 7, 2) := by decide +kernel
theorem dL_isFair_111 : decode cL_isFair 111 = .ok (.iload 13, 2) := by decide +kernel
theorem dL_isFair_113 : decode cL_isFair 113 = .ok (.iconst 2, 1) := by decide +kernel
theorem dL_isFair_114 : decode cL_isFair 114 = .ok (.invokevirtual 81, 3) := by decide +kernel
theorem dL_isFair_117 : decode cL_isFair 117 = .ok (.istore 16, 2) := by decide +kernel
theorem dL_isFair_119 : decode cL_isFair 119 = .ok (.iload 5, 2) := by decide +kernel
theorem dL_isFair_121 : decode cL_isFair 121 = .ok (.aload_n 0, 1) := by decide +kernel
theorem dL_isFair_122 : decode cL_isFair 122 = .ok (.iload 7, 2) := by decide +kernel
theorem dL_isFair_124 : decode cL_isFair 124 = .ok (.iload 13, 2) := by decide +kernel
theorem dL_isFair_126 : decode cL_isFair 126 = .ok (.iconst 3, 1) := by decide +kernel
theorem dL_isFair_127 : decode cL_isFair 127 = .ok (.invokevirtual 81, 3) := by decide +kernel
theorem dL_isFair_130 : decode cL_isFair 130 = .ok (.ifCond .lt 7, 3) := by decide +kernel
theorem dL_isFair_133 : decode cL_isFair 133 = .ok (.iconst 1, 1) := by decide +kernel
theorem dL_isFair_134 : decode cL_isFair 134 = .ok (.goto 4, 3) := by decide +kernel
theorem dL_isFair_137 : decode cL_isFair 137 = .ok (.iconst 0, 1) := by decide +kernel
theorem dL_isFair_138 : decode cL_isFair 138 = .ok (.iadd, 1) := by decide +kernel
theorem dL_isFair_139 : decode cL_isFair 139 = .ok (.istore 5, 2) := by decide +kernel
theorem dL_isFair_141 : decode cL_isFair 141 = .ok (.iload 10, 2) := by decide +kernel
theorem dL_isFair_143 : decode cL_isFair 143 = .ok (.iload 14, 2) := by decide +kernel
theorem dL_isFair_145 : decode cL_isFair 145 = .ok (.iconst 2, 1) := by decide +kernel
theorem dL_isFair_146 : decode cL_isFair 146 = .ok (.if_icmp .ne 10, 3) := by decide +kernel
theorem dL_isFair_149 : decode cL_isFair 149 = .ok (.iconst 1, 1) := by decide +kernel
theorem dL_isFair_150 : decode cL_isFair 150 = .ok (.iload 13, 2) := by decide +kernel
theorem dL_isFair_152 : decode cL_isFair 152 = .ok (.ishl, 1) := by decide +kernel
theorem dL_isFair_153 : decode cL_isFair 153 = .ok (.goto 4, 3) := by decide +kernel
theorem dL_isFair_156 : decode cL_isFair 156 = .ok (.iconst 0, 1) := by decide +kernel
theorem dL_isFair_157 : decode cL_isFair 157 = .ok (.ior, 1) := by decide +kernel
theorem dL_isFair_158 : decode cL_isFair 158 = .ok (.istore 10, 2) := by decide +kernel
theorem dL_isFair_160 : decode cL_isFair 160 = .ok (.aload_n 0, 1) := by decide +kernel
theorem dL_isFair_161 : decode cL_isFair 161 = .ok (.iload 7, 2) := by decide +kernel
theorem dL_isFair_163 : decode cL_isFair 163 = .ok (.iload 13, 2) := by decide +kernel
theorem dL_isFair_165 : decode cL_isFair 165 = .ok (.iconst 3, 1) := by decide +kernel
theorem dL_isFair_166 : decode cL_isFair 166 = .ok (.invokevirtual 81, 3) := by decide +kernel
theorem dL_isFair_169 : decode cL_isFair 169 = .ok (.ifCond .lt 32, 3) := by decide +kernel
theorem dL_isFair_172 : decode cL_isFair 172 = .ok (.aload_n 1, 1) := by decide +kernel
theorem dL_isFair_173 : decode cL_isFair 173 = .ok (.iload 13, 2) := by decide +kernel
theorem dL_isFair_175 : decode cL_isFair 175 = .ok (.iaload, 1) := by decide +kernel
theorem dL_isFair_176 : decode cL_isFair 176 = .ok (.iconst 2, 1) := by decide +kernel
theorem dL_isFair_177 : decode cL_isFair 177 = .ok (.if_icmp .ne 22, 3) := by decide +kernel
theorem dL_isFair_180 : decode cL_isFair 180 = .ok (.aload_n 0, 1) := by decide +kernel
theorem dL_isFair_181 : decode cL_isFair 181 = .ok (.aload_n 0, 1) := by decide +kernel
theorem dL_isFair_182 : decode cL_isFair 182 = .ok (.iload 7, 2) := by decide +kernel
theorem dL_isFair_184 : decode cL_isFair 184 = .ok (.iload 13, 2) := by decide +kernel
theorem dL_isFair_186 : decode cL_isFair 186 = .ok (.iconst 3, 1) := by decide +kernel
theorem dL_isFair_187 : decode cL_isFair 187 = .ok (.invokevirtual 81, 3) := by decide +kernel
theorem dL_isFair_190 : decode cL_isFair 190 = .ok (.iconst 0, 1) := by decide +kernel
theorem dL_isFair_191 : decode cL_isFair 191 = .ok (.invokevirtual 84, 3) := by decide +kernel
theorem dL_isFair_194 : decode cL_isFair 194 = .ok (.iload 13, 2) := by decide +kernel
theorem dL_isFair_196 : decode cL_isFair 196 = .ok (.if_icmp .eq 5, 3) := by decide +kernel
theorem dL_isFair_199 : decode cL_isFair 199 = .ok (.iconst 0, 1) := by decide +kernel
theorem dL_isFair_200 : decode cL_isFair 200 = .ok (.ireturn, 1) := by decide +kernel
theorem dL_isFair_201 : decode cL_isFair 201 = .ok (.iload 9, 2) := by decide +kernel
theorem dL_isFair_203 : decode cL_isFair 203 = .ok (.ifCond .eq 34, 3) := by decide +kernel
theorem dL_isFair_206 : decode cL_isFair 206 = .ok (.iload 15, 2) := by decide +kernel
theorem dL_isFair_208 : decode cL_isFair 208 = .ok (.iconst (-1), 1) := by decide +kernel
theorem dL_isFair_209 : decode cL_isFair 209 = .ok (.if_icmp .ne 26, 3) := by decide +kernel
theorem dL_isFair_212 : decode cL_isFair 212 = .ok (.iload 16, 2) := by decide +kernel
theorem dL_isFair_214 : decode cL_isFair 214 = .ok (.iconst (-1), 1) := by decide +kernel
theorem dL_isFair_215 : decode cL_isFair 215 = .ok (.if_icmp .ne 20, 3) := by decide +kernel
theorem dL_isFair_218 : decode cL_isFair 218 = .ok (.iload 14, 2) := by decide +kernel
theorem dL_isFair_220 : decode cL_isFair 220 = .ok (.ifCond .ne 224, 3) := by decide +kernel
theorem dL_isFair_223 : decode cL_isFair 223 = .ok (.aload_n 0, 1) := by decide +kernel
theorem dL_isFair_224 : decode cL_isFair 224 = .ok (.iload 7, 2) := by decide +kernel
theorem dL_isFair_226 : decode cL_isFair 226 = .ok (.iload 13, 2) := by decide +kernel
theorem dL_isFair_228 : decode cL_isFair 228 = .ok (.iconst 3, 1) := by decide +kernel
theorem dL_isFair_229 : decode cL_isFair 229 = .ok (.invokevirtual 81, 3) := by decide +kernel
theorem dL_isFair_232 : decode cL_isFair 232 = .ok (.ifCond .lt 212, 3) := by decide +kernel
theorem dL_isFair_235 : decode cL_isFair 235 = .ok (.iconst 0, 1) := by decide +kernel
theorem dL_isFair_236 : decode cL_isFair 236 = .ok (.ireturn, 1) := by decide +kernel
theorem dL_isFair_237 : decode cL_isFair 237 = .ok (.iload 12, 2) := by decide +kernel
theorem dL_isFair_239 : decode cL_isFair 239 = .ok (.iload 16, 2) := by decide +kernel
theorem dL_isFair_241 : decode cL_isFair 241 = .ok (.ifCond .lt 7, 3) := by decide +kernel
theorem dL_isFair_244 : decode cL_isFair 244 = .ok (.iconst 1, 1) := by decide +kernel
theorem dL_isFair_245 : decode cL_isFair 245 = .ok (.goto 4, 3) := by decide +kernel
theorem dL_isFair_248 : decode cL_isFair 248 = .ok (.iconst 0, 1) := by decide +kernel
theorem dL_isFair_249 : decode cL_isFair 249 = .ok (.iand, 1) := by decide +kernel
theorem dL_isFair_250 : decode cL_isFair 250 = .ok (.istore 12, 2) := by decide +kernel
theorem dL_isFair_252 : decode cL_isFair 252 = .ok (.iload 11, 2) := by decide +kernel
theorem dL_isFair_254 : decode cL_isFair 254 = .ok (.iload 16, 2) := by decide +kernel
theorem dL_isFair_256 : decode cL_isFair 256 = .ok (.invokestatic 65, 3) := by decide +kernel
theorem dL_isFair_259 : decode cL_isFair 259 = .ok (.istore 11, 2) := by decide +kernel
theorem dL_isFair_261 : decode cL_isFair 261 = .ok (.iload 15, 2) := by decide +kernel
theorem dL_isFair_263 : decode cL_isFair 263 = .ok (.ifCond .ge 7, 3) := by decide +kernel
theorem dL_isFair_266 : decode cL_isFair 266 = .ok (.iconst 1, 1) := by decide +kernel
theorem dL_isFair_267 : decode cL_isFair 267 = .ok (.goto 4, 3) := by decide +kernel
theorem dL_isFair_270 : decode cL_isFair 270 = .ok (.iconst 0, 1) := by decide +kernel
theorem dL_isFair_271 : decode cL_isFair 271 = .ok (.iload 16, 2) := by decide +kernel
theorem dL_isFair_273 : decode cL_isFair 273 = .ok (.ifCond .ge 7, 3) := by decide +kernel
theorem dL_isFair_276 : decode cL_isFair 276 = .ok (.iconst 1, 1) := by decide +kernel
theorem dL_isFair_277 : decode cL_isFair 277 = .ok (.goto 4, 3) := by decide +kernel
theorem dL_isFair_280 : decode cL_isFair 280 = .ok (.iconst 0, 1) := by decide +kernel
theorem dL_isFair_281 : decode cL_isFair 281 = .ok (.if_icmp .ne 33, 3) := by decide +kernel
theorem dL_isFair_284 : decode cL_isFair 284 = .ok (.iload 15, 2) := by decide +kernel
theorem dL_isFair_286 : decode cL_isFair 286 = .ok (.ifCond .lt 22, 3) := by decide +kernel
theorem dL_isFair_289 : decode cL_isFair 289 = .ok (.iload 16, 2) := by decide +kernel
theorem dL_isFair_291 : decode cL_isFair 291 = .ok (.iload 15, 2) := by decide +kernel
theorem dL_isFair_293 : decode cL_isFair 293 = .ok (.aload_n 0, 1) := by decide +kernel
theorem dL_isFair_294 : decode cL_isFair 294 = .ok (.iload 7, 2) := by decide +kernel
theorem dL_isFair_296 : decode cL_isFair 296 = .ok (.iload 13, 2) := by decide +kernel
theorem dL_isFair_298 : decode cL_isFair 298 = .ok (.iconst 4, 1) := by decide +kernel
theorem dL_isFair_299 : decode cL_isFair 299 = .ok (.invokevirtual 81, 3) := by decide +kernel
theorem dL_isFair_302 : decode cL_isFair 302 = .ok (.iadd, 1) := by decide +kernel
theorem dL_isFair_303 : decode cL_isFair 303 = .ok (.iconst 1, 1) := by decide +kernel
theorem dL_isFair_304 : decode cL_isFair 304 = .ok (.isub, 1) := by decide +kernel
theorem dL_isFair_305 : decode cL_isFair 305 = .ok (.if_icmp .ne 9, 3) := by decide +kernel
theorem dL_isFair_308 : decode cL_isFair 308 = .ok (.iload 14, 2) := by decide +kernel
theorem dL_isFair_310 : decode cL_isFair 310 = .ok (.iconst 3, 1) := by decide +kernel
theorem dL_isFair_311 : decode cL_isFair 311 = .ok (.if_icmp .ne 5, 3) := by decide +kernel
theorem dL_isFair_314 : decode cL_isFair 314 = .ok (.iconst 0, 1) := by decide +kernel
theorem dL_isFair_315 : decode cL_isFair 315 = .ok (.ireturn, 1) := by decide +kernel
theorem dL_isFair_316 : decode cL_isFair 316 = .ok (.iload 15, 2) := by decide +kernel
theorem dL_isFair_318 : decode cL_isFair 318 = .ok (.ifCond .lt 62, 3) := by decide +kernel
theorem dL_isFair_321 : decode cL_isFair 321 = .ok (.iload 15, 2) := by decide +kernel
theorem dL_isFair_323 : decode cL_isFair 323 = .ok (.aload_n 0, 1) := by decide +kernel
theorem dL_isFair_324 : decode cL_isFair 324 = .ok (.iload 7, 2) := by decide +kernel
theorem dL_isFair_326 : decode cL_isFair 326 = .ok (.iconst 1, 1) := by decide +kernel
theorem dL_isFair_327 : decode cL_isFair 327 = .ok (.invokevirtual 52, 3) := by decide +kernel
theorem dL_isFair_330 : decode cL_isFair 330 = .ok (.if_icmp .lt 48, 3) := by decide +kernel
theorem dL_isFair_333 : decode cL_isFair 333 = .ok (.iload 14, 2) := by decide +kernel
theorem dL_isFair_335 : decode cL_isFair 335 = .ok (.ifCond .ne 10, 3) := by decide +kernel
theorem dL_isFair_338 : decode cL_isFair 338 = .ok (.iload 15, 2) := by decide +kernel
theorem dL_isFair_340 : decode cL_isFair 340 = .ok (.iload 4, 2) := by decide +kernel
theorem dL_isFair_342 : decode cL_isFair 342 = .ok (.if_icmp .le 36, 3) := by decide +kernel
theorem dL_isFair_345 : decode cL_isFair 345 = .ok (.iload 14, 2) := by decide +kernel
theorem dL_isFair_347 : decode cL_isFair 347 = .ok (.iconst 1, 1) := by decide +kernel
theorem dL_isFair_348 : decode cL_isFair 348 = .ok (.if_icmp .ne 17, 3) := by decide +kernel
theorem dL_isFair_351 : decode cL_isFair 351 = .ok (.iload 15, 2) := by decide +kernel
theorem dL_isFair_353 : decode cL_isFair 353 = .ok (.iload 4, 2) := by decide +kernel
theorem dL_isFair_355 : decode cL_isFair 355 = .ok (.if_icmp .gt 23, 3) := by decide +kernel
theorem dL_isFair_358 : decode cL_isFair 358 = .ok (.iload 16, 2) := by decide +kernel
theorem dL_isFair_360 : decode cL_isFair 360 = .ok (.iload 4, 2) := by decide +kernel
theorem dL_isFair_362 : decode cL_isFair 362 = .ok (.if_icmp .lt 16, 3) := by decide +kernel
theorem dL_isFair_365 : decode cL_isFair 365 = .ok (.iload 14, 2) := by decide +kernel
theorem dL_isFair_367 : decode cL_isFair 367 = .ok (.iconst 2, 1) := by decide +kernel
theorem dL_isFair_368 : decode cL_isFair 368 = .ok (.if_icmp .ne 12, 3) := by decide +kernel
theorem dL_isFair_371 : decode cL_isFair 371 = .ok (.iload 16, 2) := by decide +kernel
theorem dL_isFair_373 : decode cL_isFair 373 = .ok (.iload 4, 2) := by decide +kernel
theorem dL_isFair_375 : decode cL_isFair 375 = .ok (.if_icmp .lt 5, 3) := by decide +kernel
theorem dL_isFair_378 : decode cL_isFair 378 = .ok (.iconst 0, 1) := by decide +kernel
theorem dL_isFair_379 : decode cL_isFair 379 = .ok (.ireturn, 1) := by decide +kernel
theorem dL_isFair_380 : decode cL_isFair 380 = .ok (.iconst 0, 1) := by decide +kernel
theorem dL_isFair_381 : decode cL_isFair 381 = .ok (.istore 17, 2) := by decide +kernel
theorem dL_isFair_383 : decode cL_isFair 383 = .ok (.iload 17, 2) := by decide +kernel
theorem dL_isFair_385 : decode cL_isFair 385 = .ok (.iload 13, 2) := by decide +kernel
theorem dL_isFair_387 : decode cL_isFair 387 = .ok (.if_icmp .ge 57, 3) := by decide +kernel
theorem dL_isFair_390 : decode cL_isFair 390 = .ok (.iload 8, 2) := by decide +kernel
theorem dL_isFair_392 : decode cL_isFair 392 = .ok (.aload_n 2, 1) := by decide +kernel
theorem dL_isFair_393 : decode cL_isFair 393 = .ok (.iload 13, 2) := by decide +kernel
theorem dL_isFair_395 : decode cL_isFair 395 = .ok (.iaload, 1) := by decide +kernel
theorem dL_isFair_396 : decode cL_isFair 396 = .ok (.iand, 1) := by decide +kernel
theorem dL_isFair_397 : decode cL_isFair 397 = .ok (.iconst 1, 1) := by decide +kernel
theorem dL_isFair_398 : decode cL_isFair 398 = .ok (.iload 17, 2) := by decide +kernel
theorem dL_isFair_400 : decode cL_isFair 400 = .ok (.ishl, 1) := by decide +kernel
theorem dL_isFair_401 : decode cL_isFair 401 = .ok (.iand, 1) := by decide +kernel
theorem dL_isFair_402 : decode cL_isFair 402 = .ok (.ifCond .eq 36, 3) := by decide +kernel
theorem dL_isFair_405 : decode cL_isFair 405 = .ok (.iload 15, 2) := by decide +kernel
theorem dL_isFair_407 : decode cL_isFair 407 = .ok (.ifCond .lt 31, 3) := by decide +kernel
theorem dL_isFair_410 : decode cL_isFair 410 = .ok (.aload_n 0, 1) := by decide +kernel
theorem dL_isFair_411 : decode cL_isFair 411 = .ok (.iload 7, 2) := by decide +kernel
theorem dL_isFair_413 : decode cL_isFair 413 = .ok (.iload 17, 2) := by decide +kernel
theorem dL_isFair_415 : decode cL_isFair 415 = .ok (.iconst 2, 1) := by decide +kernel
theorem dL_isFair_416 : decode cL_isFair 416 = .ok (.invokevirtual 81, 3) := by decide +kernel
theorem dL_isFair_419 : decode cL_isFair 419 = .ok (.ifCond .lt 17, 3) := by decide +kernel
theorem dL_isFair_422 : decode cL_isFair 422 = .ok (.aload_n 0, 1) := by decide +kernel
theorem dL_isFair_423 : decode cL_isFair 423 = .ok (.iload 7, 2) := by decide +kernel
theorem dL_isFair_425 : decode cL_isFair 425 = .ok (.iload 17, 2) := by decide +kernel
theorem dL_isFair_427 : decode cL_isFair 427 = .ok (.iconst 2, 1) := by decide +kernel
theorem dL_isFair_428 : decode cL_isFair 428 = .ok (.invokevirtual 81, 3) := by decide +kernel
theorem dL_isFair_431 : decode cL_isFair 431 = .ok (.iload 15, 2) := by decide +kernel
theorem dL_isFair_433 : decode cL_isFair 433 = .ok (.if_icmp .lt 5, 3) := by decide +kernel
theorem dL_isFair_436 : decode cL_isFair 436 = .ok (.iconst 0, 1) := by decide +kernel
theorem dL_isFair_437 : decode cL_isFair 437 = .ok (.ireturn, 1) := by decide +kernel
theorem dL_isFair_438 : decode cL_isFair 438 = .ok (.iinc 17 1, 3) := by decide +kernel
theorem dL_isFair_441 : decode cL_isFair 441 = .ok (.goto (-58), 3) := by decide +kernel
theorem dL_isFair_444 : decode cL_isFair 444 = .ok (.iinc 13 1, 3) := by decide +kernel
theorem dL_isFair_447 : decode cL_isFair 447 = .ok (.goto (-381), 3) := by decide +kernel
theorem dL_isFair_450 : decode cL_isFair 450 = .ok (.iconst 0, 1) := by decide +kernel
theorem dL_isFair_451 : decode cL_isFair 451 = .ok (.istore 13, 2) := by decide +kernel
theorem dL_isFair_453 : decode cL_isFair 453 = .ok (.iconst 0, 1) := by decide +kernel
theorem dL_isFair_454 : decode cL_isFair 454 = .ok (.istore 14, 2) := by decide +kernel
theorem dL_isFair_456 : decode cL_isFair 456 = .ok (.iload 14, 2) := by decide +kernel
theorem dL_isFair_458 : decode cL_isFair 458 = .ok (.aload_n 3, 1) := by decide +kernel
theorem dL_isFair_459 : decode cL_isFair 459 = .ok (.arraylength, 1) := by decide +kernel
theorem dL_isFair_460 : decode cL_isFair 460 = .ok (.if_icmp .ge 34, 3) := by decide +kernel
theorem dL_isFair_463 : decode cL_isFair 463 = .ok (.iload 13, 2) := by decide +kernel
theorem dL_isFair_465 : decode cL_isFair 465 = .ok (.aload_n 3, 1) := by decide +kernel
theorem dL_isFair_466 : decode cL_isFair 466 = .ok (.iload 14, 2) := by decide +kernel
theorem dL_isFair_468 : decode cL_isFair 468 = .ok (.iaload, 1) := by decide +kernel
theorem dL_isFair_469 : decode cL_isFair 469 = .ok (.iload 10, 2) := by decide +kernel
theorem dL_isFair_471 : decode cL_isFair 471 = .ok (.iconst (-1), 1) := by decide +kernel
theorem dL_isFair_472 : decode cL_isFair 472 = .ok (.ixor, 1) := by decide +kernel
theorem dL_isFair_473 : decode cL_isFair 473 = .ok (.iand, 1) := by decide +kernel
theorem dL_isFair_474 : decode cL_isFair 474 = .ok (.ifCond .ne 10, 3) := by decide +kernel
theorem dL_isFair_477 : decode cL_isFair 477 = .ok (.iconst 1, 1) := by decide +kernel
theorem dL_isFair_478 : decode cL_isFair 478 = .ok (.iload 14, 2) := by decide +kernel
theorem dL_isFair_480 : decode cL_isFair 480 = .ok (.ishl, 1) := by decide +kernel
theorem dL_isFair_481 : decode cL_isFair 481 = .ok (.goto 4, 3) := by decide +kernel
theorem dL_isFair_484 : decode cL_isFair 484 = .ok (.iconst 0, 1) := by decide +kernel
theorem dL_isFair_485 : decode cL_isFair 485 = .ok (.ior, 1) := by decide +kernel
theorem dL_isFair_486 : decode cL_isFair 486 = .ok (.istore 13, 2) := by decide +kernel
theorem dL_isFair_488 : decode cL_isFair 488 = .ok (.iinc 14 1, 3) := by decide +kernel
theorem dL_isFair_491 : decode cL_isFair 491 = .ok (.goto (-35), 3) := by decide +kernel
theorem dL_isFair_494 : decode cL_isFair 494 = .ok (.aload_n 0, 1) := by decide +kernel
theorem dL_isFair_495 : decode cL_isFair 495 = .ok (.iload 7, 2) := by decide +kernel
theorem dL_isFair_497 : decode cL_isFair 497 = .ok (.iconst 4, 1) := by decide +kernel
theorem dL_isFair_498 : decode cL_isFair 498 = .ok (.invokevirtual 52, 3) := by decide +kernel
theorem dL_isFair_501 : decode cL_isFair 501 = .ok (.iload 13, 2) := by decide +kernel
theorem dL_isFair_503 : decode cL_isFair 503 = .ok (.if_icmp .ne 45, 3) := by decide +kernel
theorem dL_isFair_506 : decode cL_isFair 506 = .ok (.aload_n 0, 1) := by decide +kernel
theorem dL_isFair_507 : decode cL_isFair 507 = .ok (.iload 7, 2) := by decide +kernel
theorem dL_isFair_509 : decode cL_isFair 509 = .ok (.iconst 2, 1) := by decide +kernel
theorem dL_isFair_510 : decode cL_isFair 510 = .ok (.invokevirtual 52, 3) := by decide +kernel
theorem dL_isFair_513 : decode cL_isFair 513 = .ok (.iload 10, 2) := by decide +kernel
theorem dL_isFair_515 : decode cL_isFair 515 = .ok (.invokestatic 87, 3) := by decide +kernel
theorem dL_isFair_518 : decode cL_isFair 518 = .ok (.if_icmp .ne 30, 3) := by decide +kernel
theorem dL_isFair_521 : decode cL_isFair 521 = .ok (.iload 9, 2) := by decide +kernel
theorem dL_isFair_523 : decode cL_isFair 523 = .ok (.ifCond .ne 27, 3) := by decide +kernel
theorem dL_isFair_526 : decode cL_isFair 526 = .ok (.aload_n 0, 1) := by decide +kernel
theorem dL_isFair_527 : decode cL_isFair 527 = .ok (.iload 7, 2) := by decide +kernel
theorem dL_isFair_529 : decode cL_isFair 529 = .ok (.bipush 6, 2) := by decide +kernel
theorem dL_isFair_531 : decode cL_isFair 531 = .ok (.invokevirtual 52, 3) := by decide +kernel
theorem dL_isFair_534 : decode cL_isFair 534 = .ok (.iload 12, 2) := by decide +kernel
theorem dL_isFair_536 : decode cL_isFair 536 = .ok (.ifCond .eq 8, 3) := by decide +kernel
theorem dL_isFair_539 : decode cL_isFair 539 = .ok (.iload 11, 2) := by decide +kernel
theorem dL_isFair_541 : decode cL_isFair 541 = .ok (.goto 4, 3) := by decide +kernel
theorem dL_isFair_544 : decode cL_isFair 544 = .ok (.iconst (-1), 1) := by decide +kernel
theorem dL_isFair_545 : decode cL_isFair 545 = .ok (.if_icmp .eq 5, 3) := by decide +kernel
theorem dL_isFair_548 : decode cL_isFair 548 = .ok (.iconst 0, 1) := by decide +kernel
theorem dL_isFair_549 : decode cL_isFair 549 = .ok (.ireturn, 1) := by decide +kernel
theorem dL_isFair_550 : decode cL_isFair 550 = .ok (.iload 6, 2) := by decide +kernel
theorem dL_isFair_552 : decode cL_isFair 552 = .ok (.iload 10, 2) := by decide +kernel
theorem dL_isFair_554 : decode cL_isFair 554 = .ok (.invokestatic 87, 3) := by decide +kernel
theorem dL_isFair_557 : decode cL_isFair 557 = .ok (.iadd, 1) := by decide +kernel
theorem dL_isFair_558 : decode cL_isFair 558 = .ok (.istore 6, 2) := by decide +kernel
theorem dL_isFair_560 : decode cL_isFair 560 = .ok (.iinc 7 1, 3) := by decide +kernel
theorem dL_isFair_563 : decode cL_isFair 563 = .ok (.goto (-546), 3) := by decide +kernel
theorem dL_isFair_566 : decode cL_isFair 566 = .ok (.iconst 0, 1) := by decide +kernel
theorem dL_isFair_567 : decode cL_isFair 567 = .ok (.istore 7, 2) := by decide +kernel
theorem dL_isFair_569 : decode cL_isFair 569 = .ok (.iconst 0, 1) := by decide +kernel
theorem dL_isFair_570 : decode cL_isFair 570 = .ok (.istore 8, 2) := by decide +kernel
theorem dL_isFair_572 : decode cL_isFair 572 = .ok (.iload 8, 2) := by decide +kernel
theorem dL_isFair_574 : decode cL_isFair 574 = .ok (.aload_n 0, 1) := by decide +kernel
theorem dL_isFair_575 : decode cL_isFair 575 = .ok (.iconst 3, 1) := by decide +kernel
theorem dL_isFair_576 : decode cL_isFair 576 = .ok (.invokevirtual 33, 3) := by decide +kernel
theorem dL_isFair_579 : decode cL_isFair 579 = .ok (.if_icmp .ge 40, 3) := by decide +kernel
theorem dL_isFair_582 : decode cL_isFair 582 = .ok (.aload_n 0, 1) := by decide +kernel
theorem dL_isFair_583 : decode cL_isFair 583 = .ok (.iload 8, 2) := by decide +kernel
theorem dL_isFair_585 : decode cL_isFair 585 = .ok (.iconst 3, 1) := by decide +kernel
theorem dL_isFair_586 : decode cL_isFair 586 = .ok (.invokevirtual 84, 3) := by decide +kernel
theorem dL_isFair_589 : decode cL_isFair 589 = .ok (.aload_n 0, 1) := by decide +kernel
theorem dL_isFair_590 : decode cL_isFair 590 = .ok (.iload 8, 2) := by decide +kernel
theorem dL_isFair_592 : decode cL_isFair 592 = .ok (.iconst 2, 1) := by decide +kernel
theorem dL_isFair_593 : decode cL_isFair 593 = .ok (.invokevirtual 84, 3) := by decide +kernel
theorem dL_isFair_596 : decode cL_isFair 596 = .ok (.if_icmp .le 5, 3) := by decide +kernel
theorem dL_isFair_599 : decode cL_isFair 599 = .ok (.iconst 0, 1) := by decide +kernel
theorem dL_isFair_600 : decode cL_isFair 600 = .ok (.ireturn, 1) := by decide +kernel
theorem dL_isFair_601 : decode cL_isFair 601 = .ok (.iload 7, 2) := by decide +kernel
theorem dL_isFair_603 : decode cL_isFair 603 = .ok (.aload_n 0, 1) := by decide +kernel
theorem dL_isFair_604 : decode cL_isFair 604 = .ok (.iload 8, 2) := by decide +kernel
theorem dL_isFair_606 : decode cL_isFair 606 = .ok (.iconst 3, 1) := by decide +kernel
theorem dL_isFair_607 : decode cL_isFair 607 = .ok (.invokevirtual 84, 3) := by decide +kernel
theorem dL_isFair_610 : decode cL_isFair 610 = .ok (.iadd, 1) := by decide +kernel
theorem dL_isFair_611 : decode cL_isFair 611 = .ok (.istore 7, 2) := by decide +kernel
theorem dL_isFair_613 : decode cL_isFair 613 = .ok (.iinc 8 1, 3) := by decide +kernel
theorem dL_isFair_616 : decode cL_isFair 616 = .ok (.goto (-44), 3) := by decide +kernel
theorem dL_isFair_619 : decode cL_isFair 619 = .ok (.iload 7, 2) := by decide +kernel
theorem dL_isFair_621 : decode cL_isFair 621 = .ok (.iload 5, 2) := by decide +kernel
theorem dL_isFair_623 : decode cL_isFair 623 = .ok (.if_icmp .ne 47, 3) := by decide +kernel
theorem dL_isFair_626 : decode cL_isFair 626 = .ok (.aload_n 0, 1) := by decide +kernel
theorem dL_isFair_627 : decode cL_isFair 627 = .ok (.bipush 9, 2) := by decide +kernel
theorem dL_isFair_629 : decode cL_isFair 629 = .ok (.invokevirtual 33, 3) := by decide +kernel
theorem dL_isFair_632 : decode cL_isFair 632 = .ok (.iload 5, 2) := by decide +kernel
theorem dL_isFair_634 : decode cL_isFair 634 = .ok (.if_icmp .ne 36, 3) := by decide +kernel
theorem dL_isFair_637 : decode cL_isFair 637 = .ok (.aload_n 0, 1) := by decide +kernel
theorem dL_isFair_638 : decode cL_isFair 638 = .ok (.bipush 6, 2) := by decide +kernel
theorem dL_isFair_640 : decode cL_isFair 640 = .ok (.invokevirtual 33, 3) := by decide +kernel
theorem dL_isFair_643 : decode cL_isFair 643 = .ok (.iload 6, 2) := by decide +kernel
theorem dL_isFair_645 : decode cL_isFair 645 = .ok (.if_icmp .ne 25, 3) := by decide +kernel
theorem dL_isFair_648 : decode cL_isFair 648 = .ok (.aload_n 0, 1) := by decide +kernel
theorem dL_isFair_649 : decode cL_isFair 649 = .ok (.iconst 0, 1) := by decide +kernel
theorem dL_isFair_650 : decode cL_isFair 650 = .ok (.iconst 0, 1) := by decide +kernel
theorem dL_isFair_651 : decode cL_isFair 651 = .ok (.invokevirtual 43, 3) := by decide +kernel
theorem dL_isFair_654 : decode cL_isFair 654 = .ok (.ifCond .lt 16, 3) := by decide +kernel
theorem dL_isFair_657 : decode cL_isFair 657 = .ok (.aload_n 0, 1) := by decide +kernel
theorem dL_isFair_658 : decode cL_isFair 658 = .ok (.iconst 1, 1) := by decide +kernel
theorem dL_isFair_659 : decode cL_isFair 659 = .ok (.iconst 0, 1) := by decide +kernel
theorem dL_isFair_660 : decode cL_isFair 660 = .ok (.invokevirtual 43, 3) := by decide +kernel
theorem dL_isFair_663 : decode cL_isFair 663 = .ok (.ifCond .lt 7, 3) := by decide +kernel
theorem dL_isFair_666 : decode cL_isFair 666 = .ok (.iconst 1, 1) := by decide +kernel
theorem dL_isFair_667 : decode cL_isFair 667 = .ok (.goto 4, 3) := by decide +kernel
theorem dL_isFair_670 : decode cL_isFair 670 = .ok (.iconst 0, 1) := by decide +kernel
theorem dL_isFair_671 : decode cL_isFair 671 = .ok (.ireturn, 1) := by decide +kernel
